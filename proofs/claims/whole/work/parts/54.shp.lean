/-! SHIFTS, in the reference: a stretch put aside, and put where it goes -/
theorem cpy_s {f g : Nat → Int64} {sp dp j k : Nat} (hk : k = dp + j) : vp_updL (va_cpy f g sp dp j) k (f (sp + j)) = va_cpy f g sp dp (j + 1) := by
  funext q
  unfold vp_updL va_cpy
  by_cases h : q = k
  · rw [if_pos h, if_pos (by omega), h, hk, show sp + (dp + j - dp) = sp + j by omega]
  · rw [if_neg h]
    by_cases h2 : dp ≤ q ∧ q < dp + j
    · rw [if_pos h2, if_pos (by omega)]
    · rw [if_neg h2, if_neg (by omega)]
theorem cpy_0 {f g : Nat → Int64} {sp dp : Nat} : va_cpy f g sp dp 0 = g := funext fun q => if_neg (by omega)
theorem z_stR {i n : Int32} {z : Nat} (hz : z ≤ 60) (h0 : ¬ i < 0) (h1 : ¬ n < 0) : (nI z - n) < i ↔ ¬ i.toNatClampNeg + n.toNatClampNeg ≤ z := by
  obtain ⟨a, ha, rfl⟩ := z_nat h0
  obtain ⟨b, hb, rfl⟩ := z_nat h1
  have h2 : (nI z - nI b).toInt = (z : Int) - b := by
    rw [Int32.toInt_sub, nI_toInt (by omega), nI_toInt hb]
    exact Int.bmod_eq_of_le (by omega) (by omega)
  rw [Int32.lt_iff_toInt_lt, h2, nI_toInt ha, nI_clamp ha, nI_clamp hb]
  omega
def zshA (x : zX) (t i n : Nat) : zX := zsrL x 111 (va_cpy (x.2.1 110) (x.2.1 111) (60 * t + i) 0 n)
def zshB (x : zX) (t i t2 j n m : Nat) : zX := zsrL (zshA x t i n) 110 (va_cpy ((zshA x t i n).2.1 111) (x.2.1 110) 0 (60 * t2 + j) m)
abbrev zstT (x : zX) (t : Nat) (i n : Int32) : Prop := ¬ i < 0 ∧ ¬ n < 0 ∧ i.toNatClampNeg + n.toNatClampNeg ≤ zszR x t
