/-! A ROOM LOOKED THROUGH: what stays as it was -/
theorem zlook_n {x : zX} {b p q i : Nat} {row : Int32} (h : i ≠ b + 6) : (zlook x b p q row).1 i = x.1 i := by
  unfold zlook
  rw [zsI_n h, zsI_n h, zsI_n h, zsI_n h, zsI_n h, zsI_n h, zsI_n h]
theorem zRo_l {x : zX} {b p q C : Nat} {row : Int32} (h : zRo x b C) : zRo (zlook x b p q row) b C := by
  obtain ⟨h1, h2, h3⟩ := h
  have e3 : (zlook x b p q row).1 (b + 3) = x.1 (b + 3) := zlook_n (by omega)
  have e4 : (zlook x b p q row).1 (b + 4) = x.1 (b + 4) := zlook_n (by omega)
  have e0 : (zlook x b p q row).1 b = x.1 b := zlook_n (by omega)
  refine ⟨h1, by rw [e0]; exact h2, fun k hk => ?_⟩
  have hz : zen (zlook x b p q row) b k = zen x b k := by unfold zen; rw [e3]
  rw [hz, e3, e4]
  exact h3 k hk
theorem zNow_l {G : zG} {x : zX} {N b p q : Nat} {row : Int32} (hb : zRm b) (h : zNow G x N) : zNow G (zlook x b p q row) N :=
  zNow_6 hb (zNow_6 hb (zNow_6 hb (zNow_6 hb (zNow_6 hb (zNow_6 hb (zNow_6 hb h))))))
