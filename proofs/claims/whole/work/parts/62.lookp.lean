/-! LOOKING at two pupils: what a room's tests ask of them -/
theorem zRm_b {b : Nat} (h : zRm b) : 28 ≤ b ∧ b + 6 < 77 := by
  obtain ⟨r, hr, rfl⟩ := h
  omega
theorem zNow_6 {G : zG} {x : zX} {N b k : Nat} {v : Int32} (hb : zRm b) (h : zNow G x N) : zNow G (zsI x (b + 6) k v) N := by
  have hr := zRm_b hb
  obtain ⟨h1, h2, h3, h4, h5⟩ := h
  have e1 : (zsI x (b + 6) k v).1 1 = x.1 1 := zsI_n (by omega)
  have e4 : (zsI x (b + 6) k v).1 4 = x.1 4 := zsI_n (by omega)
  have e5 : (zsI x (b + 6) k v).1 5 = x.1 5 := zsI_n (by omega)
  refine ⟨h1, by rw [e1]; exact h2, fun q hq => ?_, by rw [e4]; exact h4, by rw [e5]; exact h5⟩
  obtain ⟨a1, a2, a3, a4⟩ := h3 q hq
  refine ⟨a1, a2, a3, ?_⟩
  show (zsI x (b + 6) k v).1 (zob x q) 0 = nI q
  rw [zsI_n (by omega)]
  exact a4
def zlook (x : zX) (b p q : Nat) (row : Int32) : zX := zsI (zsI (zsI (zsI (zsI (zsI (zsI x (b + 6) 0 (nI p)) (b + 6) 1 (nI q)) (b + 6) 2 (if (nI 0) < (x.1 (zob x q) 3 - x.1 (zob x p) 3) then (x.1 (zob x q) 3 - x.1 (zob x p) 3) else (nI 0))) (b + 6) 3 (x.1 (zob x p) 2 + x.1 (zob x q) 2)) (b + 6) 4 (if x.1 (zob x p) 4 = x.1 (zob x q) 4 then nI 1 else nI 0)) (b + 6) 5 ((if znm x p q then nI 1 else nI 0) + (if znm x q p then nI 1 else nI 0))) (b + 6) 6 row
