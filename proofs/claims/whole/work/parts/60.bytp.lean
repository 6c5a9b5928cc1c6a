/-! BYTES of a room's source -/
/-- the byte at a place of a source of L bytes, or -1 -/
def zby (x : zX) (b L k : Nat) : Int32 := if k < L then x.1 (b + 5) k else -1
def zps (x : zX) (b c : Nat) (v : Int32) : zX := zsI (zsI x (b + 4) c v) b 5 (nI (c + 1))
