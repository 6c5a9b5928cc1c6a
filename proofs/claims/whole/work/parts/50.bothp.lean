/-! PAIRS AND JUDGING, in the reference -/
theorem zin_lt {N k : Nat} (hk : k < 2 ^ 31) (hN : N ≤ 8) : zin N (nI k) ↔ k < N := by
  have h1 : (nI N ≤ nI k) ↔ N ≤ k := zqG (by omega) hk
  unfold zin
  rw [h1]
  exact ⟨fun h => by omega, fun h => ⟨nI_pos hk, by omega⟩⟩
def zpq (a b : Nat) : Nat := 2 ^ (a / 10) ||| 2 ^ (a % 10) ||| 2 ^ (b / 10) ||| 2 ^ (b % 10)
theorem zpq_e {a b : Nat} (h1 : a / 10 < 8) (h2 : a % 10 < 8) (h3 : b / 10 < 8) (h4 : b % 10 < 8) : (((nI 1 <<< (nI (a / 10) &&& 31)) ||| (nI 1 <<< (nI (a % 10) &&& 31))) ||| (nI 1 <<< (nI (b / 10) &&& 31))) ||| (nI 1 <<< (nI (b % 10) &&& 31)) = nI (zpq a b) ∧ zpq a b < 256 := by
  have hd : ∀ i j k m : Fin 8, (((nI 1 <<< (nI i.val &&& 31)) ||| (nI 1 <<< (nI j.val &&& 31))) ||| (nI 1 <<< (nI k.val &&& 31))) ||| (nI 1 <<< (nI m.val &&& 31)) = nI (2 ^ i.val ||| 2 ^ j.val ||| 2 ^ k.val ||| 2 ^ m.val) ∧ (2 ^ i.val ||| 2 ^ j.val ||| 2 ^ k.val ||| 2 ^ m.val) < 256 := by decide +kernel
  exact hd ⟨_, h1⟩ ⟨_, h2⟩ ⟨_, h3⟩ ⟨_, h4⟩
theorem z_placeR {i : Int32} {z p : Nat} (hz : z ≤ 60) (hp : p ≤ 8) (h0 : ¬ i < 0) : i ≤ (nI z - nI p) - nI 1 ↔ i.toNatClampNeg + p < z := by
  have hd : ∀ (a : Fin 61) (b : Fin 9), (nI a.val - nI b.val) - nI 1 = nI a.val - nI (b.val + 1) := by decide +kernel
  obtain ⟨k, hk, rfl⟩ := z_nat h0
  have h1 : (nI z - nI (p + 1)).toInt = (z : Int) - (p + 1 : Nat) := pk_sub_toInt (by omega) (by omega)
  rw [hd ⟨z, by omega⟩ ⟨p, by omega⟩, Int32.le_iff_toInt_le, h1, nI_toInt hk, nI_clamp hk]
  omega
abbrev zjbR (x : zX) (t : Nat) (i : Int32) (p : Nat) : Prop := ¬ (¬ x.1 108 t < 0 ∧ ¬ i < 0 ∧ i.toNatClampNeg + p < zszR x t)
abbrev zjdR (x : zX) (t : Nat) (i : Int32) (p : Nat) : Prop := ¬ x.2.1 110 (60 * t + (i.toNatClampNeg + p)) = (x.1 84 p).toInt64
theorem z_nlt0 {a : Int32} (h : ¬ a < 0) : ¬ a < 0 := h
theorem z_addd {v : Int32} {j : Nat} (h : ¬ v < 0) : nI j + v = nI (j + v.toNatClampNeg) := by
  rw [← nI_add, z_clamp h]
