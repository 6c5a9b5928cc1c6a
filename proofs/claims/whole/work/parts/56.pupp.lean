/-! A NEW PUPIL, in the reference -/
def zppR (x : zX) (N t1 : Nat) (a v tk kn tg : Int32) : zX := zsI (zsI (zsI (zsI (zsI (zsI (zsI (zsI (zsI (zsI x 78 N a) 79 N v) 80 N tk) 81 N kn) 82 N tg) 83 N (-1)) 86 N (nI 0)) 84 N (nI t1)) 85 t1 (nI N)) 77 0 (nI (N + 1))
abbrev zpg1 (a : Int32) : Prop := ¬ a < nI 0 ∧ ¬ nI 6 < a
abbrev zpg2 (v tk kn tg : Int32) : Prop := (¬ v < nI 0 ∧ ¬ nI 9 < v) ∧ (¬ tk < nI 0 ∧ ¬ nI 9 < tk) ∧ (¬ kn < nI 0 ∧ ¬ nI 9 < kn) ∧ (¬ tg < nI 0 ∧ ¬ nI 2 < tg)
