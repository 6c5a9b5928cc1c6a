/-! SITTINGS, in the reference: a row there, what it is worth, what it breaks -/
def zocR (y : Int32) : Int32 := if y < 0 then nI 0 else nI 1
def zac (x : zX) (t : Nat) : Int32 := zocR (x.1 100 (2 * (t / 2 ^^^ 1))) + zocR (x.1 100 (2 * (t / 2 ^^^ 1) + 1))
theorem zxor2 {t : Nat} (h : t < 8) : nI (t / 2 * 2) ^^^ nI 2 = nI (2 * (t / 2 ^^^ 1)) := by
  have hd : ∀ i : Fin 8, nI (i.val / 2 * 2) ^^^ nI 2 = nI (2 * (i.val / 2 ^^^ 1)) := by decide +kernel
  exact hd ⟨t, h⟩
theorem zxor3 {t : Nat} (h : t < 8) : 2 * (t / 2 ^^^ 1) + 1 < 8 := by
  have hd : ∀ i : Fin 8, 2 * (i.val / 2 ^^^ 1) + 1 < 8 := by decide +kernel
  exact hd ⟨t, h⟩
def zsw (x : zX) (t : Nat) : Int32 := if x.1 100 t < 0 then nI 0 else if x.1 100 (t ^^^ 1) < 0 then nI 0 else
  x.1 98 (16 * (x.1 100 t).toNatClampNeg + 2 * (x.1 100 (t ^^^ 1)).toNatClampNeg + t / 4) - (if x.1 78 (x.1 100 t).toNatClampNeg = nI 5 then x.1 79 (x.1 100 t).toNatClampNeg * zac x t else nI 0)
theorem zsw_v {x : zX} {t qa qb : Nat} (hA : x.1 100 t = nI qa) (hB : x.1 100 (t ^^^ 1) = nI qb) (ha : qa < 8) (hb : qb < 8) : zsw x t = x.1 98 (16 * qa + 2 * qb + t / 4) - (if x.1 78 qa = nI 5 then x.1 79 qa * zac x t else nI 0) := by
  unfold zsw
  rw [hA, hB, if_neg (nI_pos (by omega)), if_neg (nI_pos (by omega)), nI_clamp (by omega), nI_clamp (by omega)]
theorem zsw_0 {x : zX} {t : Nat} (h : x.1 100 t = -1 ∨ x.1 100 (t ^^^ 1) = -1) : zsw x t = 0 := by
  unfold zsw
  rcases h with h | h
  · rw [h]; exact if_pos (by decide)
  · by_cases h2 : x.1 100 t < 0
    · rw [if_pos h2]; rfl
    · rw [if_neg h2, h]; exact if_pos (by decide)
abbrev zk1 (x : zX) (aim : Int32) (t : Nat) : Prop := ¬ aim = 0 ∧ t % 2 = 0 ∧ ¬ x.1 100 t < 0 ∧ ¬ x.1 100 (t ^^^ 1) < 0 ∧ ¬ x.1 99 (16 * (x.1 100 t).toNatClampNeg + 2 * (x.1 100 (t ^^^ 1)).toNatClampNeg + t / 4) = 0
abbrev zk2 (x : zX) (aim : Int32) (t : Nat) : Prop := ¬ aim = nI 1 ∧ ¬ t ≤ 3 ∧ ¬ x.1 100 t < 0 ∧ ¬ x.1 86 (x.1 100 t).toNatClampNeg = 0
def zsk (x : zX) (aim : Int32) (t : Nat) : Int32 := (if zk1 x aim t then nI 1 else nI 0) + (if zk2 x aim t then nI 1 else nI 0)
