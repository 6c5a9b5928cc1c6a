/-! A CLAUSE KEPT, in a room of the class -/
def zke0 (x : zX) (b : Nat) (w a : Int32) : zX := if w = nI 3 then zsI x b 6 a else x
def zke1 (y : zX) (b C K : Nat) (w a : Int32) : zX := zsI (zsI (zsI (zsI y (b + 1) C w) (b + 2) C a) (b + 3) C (nI K)) b 4 (nI (C + 1))
