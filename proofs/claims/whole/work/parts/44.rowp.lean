/-! ROWS BY THEIR CODES, in the reference -/
def zlr : Nat → Nat → (Nat → Int32) → (Nat → Int32) × Bool
  | 0, _, f => (f, true)
  | i + 1, v, f => if f (v % 8) < 0 then zlr i (v / 8) (upd f (v % 8) (nI i)) else (f, false)
theorem zlr_y {i v : Nat} {f : Nat → Int32} (h : f (v % 8) < 0) : zlr (i + 1) v f = zlr i (v / 8) (upd f (v % 8) (nI i)) := if_pos h
theorem zlr_n {i v : Nat} {f : Nat → Int32} (h : ¬ f (v % 8) < 0) : zlr (i + 1) v f = (f, false) := if_neg h
def zlay (x : zX) (N c : Nat) : (Nat → Int32) × Bool := zlr N c (zputn (fun _ => -1) (x.1 100) 8)
theorem z_pred {i : Nat} (h : i ≤ 8) : nI i - nI 1 < 0 ↔ i = 0 := by
  have h1 : (nI i - nI 1).toInt = (i : Int) - 1 := pk_sub_toInt (by omega) (by omega)
  rw [Int32.lt_iff_toInt_lt, h1, Int32.toInt_zero]
  omega
theorem z_dec (i : Nat) : nI i + Int32.ofInt (-1) = nI i - nI 1 := by
  rw [Int32.sub_eq_add_neg]
  rfl
theorem zlr_row : ∀ (i v : Nat) (f : Nat → Int32), i ≤ 8 → zrow f → zrow (zlr i v f).1
  | 0, _, f, _, h => h
  | i + 1, v, f, hi, h => by
    by_cases h2 : f (v % 8) < 0
    · rw [zlr_y h2]
      refine zlr_row i (v / 8) _ (by omega) (fun t ht => ?_)
      show (if t = v % 8 then nI i else f t) = -1 ∨ ∃ q, q < 8 ∧ (if t = v % 8 then nI i else f t) = nI q
      by_cases h3 : t = v % 8
      · rw [if_pos h3]; exact Or.inr ⟨i, by omega, rfl⟩
      · rw [if_neg h3]; exact h t ht
    · rw [zlr_n h2]; exact h
def zkp (f g : Nat → Int32) : Nat → Nat → Int32
  | 0 => g
  | n + 1 => if f n < 0 then zkp f g n else upd (zkp f g n) (f n).toNatClampNeg (nI n)
theorem z_pw {N : Nat} (h : N ≤ 6) : 8 ^ N ≤ 262144 := by
  have hd : ∀ i : Fin 7, 8 ^ i.val ≤ 262144 := by decide
  exact hd ⟨N, by omega⟩
