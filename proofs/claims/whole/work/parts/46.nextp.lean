/-! NEXT, in the reference: every code's row, the new pairs of each -/
def zOnR (x u : zX) : Prop := u.2 = x.2 ∧ ∀ i, i ≠ 100 → i ≠ 101 → u.1 i = x.1 i
theorem zOnR.r {x : zX} : zOnR x x := ⟨rfl, fun _ _ _ => rfl⟩
theorem zOnR.a {x u : zX} {f : Nat → Int32} (h : zOnR x u) : zOnR x (zsrI u 100 f) := ⟨h.1, fun i h1 h2 => by rw [zsrI_n h1]; exact h.2 i h1 h2⟩
theorem zOnR.b {x u : zX} {f : Nat → Int32} (h : zOnR x u) : zOnR x (zsrI u 101 f) := ⟨h.1, fun i h1 h2 => by rw [zsrI_n h2]; exact h.2 i h1 h2⟩
theorem zRef_o {x u : zX} {N : Nat} (h : zOnR x u) (hr : zRef x N) : zRef u N := by
  unfold zRef
  rw [h.2 77 (by decide) (by decide), h.2 83 (by decide) (by decide), h.2 84 (by decide) (by decide), h.2 85 (by decide) (by decide)]
  exact hr
theorem zlay_row {x : zX} {N c : Nat} (h : N ≤ 8) : zrow (zlay x N c).1 := by
  refine zlr_row N c _ h (fun t ht => Or.inl ?_)
  exact if_pos ht
def zpo (a b : Nat) : Nat := if a < b then 8 * a + b else 8 * b + a
theorem zpo_b {a b : Nat} (ha : a < 8) (hb : b < 8) : zpo a b < 64 := by
  unfold zpo
  split <;> omega
abbrev znp (u : zX) (d : Nat) : Prop := ¬ u.1 100 (2 * d) < 0 ∧ ¬ u.1 100 (2 * d + 1) < 0 ∧ u.1 87 (zpo (u.1 100 (2 * d)).toNatClampNeg (u.1 100 (2 * d + 1)).toNatClampNeg) = 0
def znw (u : zX) : Int32 := zsum (fun d => if znp u d then nI 1 else nI 0) 4
def zkpR (u : zX) : zX := zsrI u 101 (zkp (u.1 100) (u.1 101) 8)
def znst (N c : Nat) (y : zX × Int32) : zX × Int32 := if (zlay y.1 N c).2 = true then
  (if y.2 < znw (zsrI y.1 100 (zlay y.1 N c).1) then (zkpR (zsrI y.1 100 (zlay y.1 N c).1), znw (zsrI y.1 100 (zlay y.1 N c).1)) else (zsrI y.1 100 (zlay y.1 N c).1, y.2)) else (zsrI y.1 100 (zlay y.1 N c).1, y.2)
theorem znst_n {N c : Nat} {u : zX} {m : Int32} (h : ¬ (zlay u N c).2 = true) : znst N c (u, m) = (zsrI u 100 (zlay u N c).1, m) := if_neg h
theorem znst_w {N c : Nat} {u : zX} {m : Int32} (h : (zlay u N c).2 = true) (h2 : ¬ m < znw (zsrI u 100 (zlay u N c).1)) : znst N c (u, m) = (zsrI u 100 (zlay u N c).1, m) := (if_pos h).trans (if_neg h2)
theorem znst_b {N c : Nat} {u : zX} {m : Int32} (h : (zlay u N c).2 = true) (h2 : m < znw (zsrI u 100 (zlay u N c).1)) : znst N c (u, m) = (zkpR (zsrI u 100 (zlay u N c).1), znw (zsrI u 100 (zlay u N c).1)) := (if_pos h).trans (if_pos h2)
def znfd (N : Nat) (y : zX × Int32) : Nat → zX × Int32
  | 0 => y
  | n + 1 => znst N n (znfd N y n)
