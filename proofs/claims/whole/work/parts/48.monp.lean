/-! MONTHS, in the reference -/
def zmst (x : zX) (d : Nat) (y : zX × Int32) : zX × Int32 := if x.1 85 (2 * d) < 0 ∨ x.1 85 (2 * d + 1) < 0 then y else
  (zsI y.1 87 (zpo (x.1 85 (2 * d)).toNatClampNeg (x.1 85 (2 * d + 1)).toNatClampNeg) (nI 1), y.2 + (if y.1.1 87 (zpo (x.1 85 (2 * d)).toNatClampNeg (x.1 85 (2 * d + 1)).toNatClampNeg) = 0 then nI 1 else nI 0))
def zms (x : zX) : Nat → zX × Int32
  | 0 => (x, 0)
  | d + 1 => zmst x d (zms x d)
theorem zmst_0 {x : zX} {d : Nat} {y : zX × Int32} (h : x.1 85 (2 * d) = -1 ∨ x.1 85 (2 * d + 1) = -1) : zmst x d y = y := by
  unfold zmst
  rcases h with h | h
  · exact if_pos (Or.inl (by rw [h]; decide))
  · exact if_pos (Or.inr (by rw [h]; decide))
theorem zmst_v {x : zX} {d qa qb : Nat} {y : zX} {a v : Int32} (hA : x.1 85 (2 * d) = nI qa) (hB : x.1 85 (2 * d + 1) = nI qb) (ha : qa < 8) (hb : qb < 8) (hv : (if y.1 87 (zpo qa qb) = 0 then nI 1 else nI 0) = v) : zmst x d (y, a) = (zsI y 87 (zpo qa qb) (nI 1), a + v) := by
  unfold zmst
  rw [hA, hB, if_neg (fun h => h.elim (nI_pos (by omega)) (nI_pos (by omega))), nI_clamp (by omega), nI_clamp (by omega)]
  exact congrArg (fun q => (zsI y 87 (zpo qa qb) (nI 1), a + q)) hv
def zlkR (x : zX) (N : Nat) : Int32 := zsum (fun i => zsum (fun k => if x.1 87 (8 * i + (i + 1 + k)) = 0 then nI 1 else nI 0) (N - (i + 1))) N
