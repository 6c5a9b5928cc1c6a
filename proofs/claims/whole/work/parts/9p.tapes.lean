/-! THE RELATION, tapes: what the class's rows 20 .. 27 and the reference's rows 108 .. 110 say of each other -/
def zRt (x : zX) : Prop := zTp x ∧ zTpR x ∧ ∀ t, t < 6 → x.1 26 t = x.1 108 t ∧ (x.1 26 t = -1 ∨ ¬ x.1 26 t < 0) ∧ x.1 27 t = x.1 109 t ∧ (x.1 26 t = -1 → zsz x t = 0) ∧ ∀ j, j < 60 → x.2.1 (20 + t) j = x.2.1 110 (60 * t + j)
theorem zinI {k N : Nat} (h : k < N) (hN : N < 2 ^ 31) : zin N (nI k) := ⟨nI_pos (by omega), nI_ge h hN⟩
theorem zRt_z {x : zX} (h : zRt x) {t : Nat} (ht : t < 6) : zsz x t = zszR x t := congrArg Int32.toNatClampNeg (h.2.2 t ht).2.2.1
theorem zRt_s {x : zX} (h : zRt x) {t j : Nat} (ht : t < 6) (hj : j < zsz x t) : ¬ x.1 108 t < 0 := by
  obtain ⟨h1, h2, h3, h4, -⟩ := h.2.2 t ht
  rw [← h1]
  rcases h2 with h2 | h2
  · have h5 := h4 h2
    omega
  · exact h2
theorem zRt_m {x : zX} (h : zRt x) {t : Nat} (ht : t < 6) : x.1 26 t = -1 ↔ x.1 108 t < 0 := by
  obtain ⟨h1, h2, -, -, -⟩ := h.2.2 t ht
  rw [← h1]
  constructor
  · intro e
    rw [e]
    decide
  · intro e
    exact h2.resolve_right (fun q => q e)
theorem e_read {x u1 u2 : zX} {t0 q : Int32} {r1 r2 : Int64} (h : zRt x)
    (h1 : x = u1 ∧ ((¬ (zin 6 t0 ∧ zin (zsz x t0.toNatClampNeg) q) ∧ (-9223372036854775808) = r1) ∨ (∃ t j, t < 6 ∧ t0 = nI t ∧ j < zsz x t ∧ q = nI j ∧ x.2.1 (20 + t) j = r1)))
    (h2 : u1 = u2 ∧ ((¬ (zin 6 t0 ∧ ¬ u1.1 108 t0.toNatClampNeg < 0 ∧ zin (zszR u1 t0.toNatClampNeg) q) ∧ (-9223372036854775808) = r2) ∨ (∃ t j, t < 6 ∧ t0 = nI t ∧ ¬ u1.1 108 t < 0 ∧ j < zszR u1 t ∧ q = nI j ∧ u1.2.1 110 (60 * t + j) = r2))) : r1 = r2 ∧ x = u2 := by
  obtain ⟨rfl, h1⟩ := h1
  obtain ⟨rfl, h2⟩ := h2
  refine ⟨?_, rfl⟩
  rcases h1 with ⟨n1, rfl⟩ | ⟨t, j, ht, rfl, hj, rfl, rfl⟩
  · rcases h2 with ⟨n2, rfl⟩ | ⟨t, j, ht, rfl, hs, hj, rfl, rfl⟩
    · rfl
    · refine absurd ⟨zinI ht (by decide), ?_⟩ n1
      have h6 := (h.2.1 t ht).2
      rw [nI_clamp (by omega), zRt_z h ht]
      exact zinI hj (by omega)
  · have h6 := (h.1 t ht).2
    rcases h2 with ⟨n2, rfl⟩ | ⟨t2, j2, ht2, e1, hs, hj2, e2, rfl⟩
    · refine absurd ⟨zinI ht (by decide), ?_, ?_⟩ n2
      · rw [nI_clamp (by omega)]
        exact zRt_s h ht hj
      · rw [nI_clamp (by omega), ← zRt_z h ht]
        exact zinI hj (by omega)
    · have h7 := (h.2.1 t2 ht2).2
      obtain rfl := (zqE (by omega) (by omega)).mp e1
      obtain rfl := (zqE (by omega) (by omega)).mp e2
      exact (h.2.2 t ht).2.2.2.2 j (by omega)
/-- two states that differ in tapes alone -/
def zEt (x u : zX) : Prop := (∀ i, ¬ i = 26 → ¬ i = 27 → ¬ i = 108 → ¬ i = 109 → u.1 i = x.1 i) ∧ (∀ i, i < 20 → u.2.1 i = x.2.1 i) ∧ u.2.2 = x.2.2
theorem zEt.rf {x : zX} : zEt x x := ⟨fun _ _ _ _ _ => rfl, fun _ _ => rfl, rfl⟩
theorem e_item {x u1 u2 : zX} {t0 q : Int32} {v : Int64} {r1 r2 : Int32} (h : zRt x)
    (h1 : (¬ zin 6 t0 ∧ x = u1 ∧ -1 = r1) ∨ (∃ t, t < 6 ∧ t0 = nI t ∧ ((x.1 26 t = -1 ∧ x = u1 ∧ -11 = r1) ∨ (¬ x.1 26 t = -1 ∧ ¬ zin (zsz x t) q ∧ x = u1 ∧ -13 = r1) ∨ (¬ x.1 26 t = -1 ∧ ∃ j, j < zsz x t ∧ q = nI j ∧ zsL x (20 + t) j (zsort (x.1 26 t) v) = u1 ∧ nI 1 = r1))))
    (h2 : (¬ zin 6 t0 ∧ u1 = u2 ∧ -1 = r2) ∨ (∃ t, t < 6 ∧ t0 = nI t ∧ ((u1.1 108 t < 0 ∧ u1 = u2 ∧ -11 = r2) ∨ (¬ u1.1 108 t < 0 ∧ ¬ zin (zszR u1 t) q ∧ u1 = u2 ∧ -13 = r2) ∨ (¬ u1.1 108 t < 0 ∧ ∃ j, j < zszR u1 t ∧ q = nI j ∧ zsL u1 110 (60 * t + j) (zsort (u1.1 108 t) v) = u2 ∧ nI 1 = r2)))) : r1 = r2 ∧ zRt u2 ∧ zEt x u2 := by
  rcases h1 with ⟨n1, rfl, rfl⟩ | ⟨t, ht, rfl, h1⟩
  · rcases h2 with ⟨n2, rfl, rfl⟩ | ⟨t, ht, rfl, -⟩
    · exact ⟨rfl, h, zEt.rf⟩
    · exact absurd (zinI ht (by decide)) n1
  · rcases h2 with ⟨n2, -, -⟩ | ⟨t2, ht2, e1, h2⟩
    · exact absurd (zinI ht (by decide)) n2
    · obtain rfl := (zqE (by omega) (by omega)).mp e1
      have hm := zRt_m h ht
      have hz := zRt_z h ht
      have h6 := (h.1 t ht).2
      have h7 := (h.2.1 t ht).2
      rcases h1 with ⟨a1, rfl, rfl⟩ | ⟨a1, b1, rfl, rfl⟩ | ⟨a1, j, hj, rfl, rfl, rfl⟩
      · rcases h2 with ⟨a2, rfl, rfl⟩ | ⟨a2, -⟩ | ⟨a2, -⟩
        · exact ⟨rfl, h, zEt.rf⟩
        · exact absurd (hm.mp a1) a2
        · exact absurd (hm.mp a1) a2
      · rcases h2 with ⟨a2, -⟩ | ⟨a2, b2, rfl, rfl⟩ | ⟨a2, j, hj, rfl, -⟩
        · exact absurd (hm.mpr a2) a1
        · exact ⟨rfl, h, zEt.rf⟩
        · exact absurd (zinI (by rw [hz]; exact hj) (by omega)) b1
      · rcases h2 with ⟨a2, -⟩ | ⟨a2, b2, -⟩ | ⟨a2, j2, hj2, e2, rfl, rfl⟩
        · exact absurd (hm.mpr a2) a1
        · have hj9 : j < zszR x t := by omega
          exact absurd (zinI hj9 (by omega)) b2
        · have hj8 : j2 < zszR x t := hj2
          obtain rfl := (zqE (by omega) (by omega)).mp e2
          refine ⟨rfl, ⟨h.1, h.2.1, fun t2 ht2 => ⟨(h.2.2 t2 ht2).1, (h.2.2 t2 ht2).2.1, (h.2.2 t2 ht2).2.2.1, (h.2.2 t2 ht2).2.2.2.1, fun k2 hk2 => ?_⟩⟩, fun _ _ _ _ _ => rfl, fun i hi => ?_, rfl⟩
          · have e5 : (zsL (zsL x (20 + t) j (zsort (x.1 26 t) v)) 110 (60 * t + j) (zsort ((zsL x (20 + t) j (zsort (x.1 26 t) v)).1 108 t) v)).2.1 110 = vp_updL (x.2.1 110) (60 * t + j) (zsort (x.1 108 t) v) := by
              rw [zsL_u, zsL_n (by omega)]
              rfl
            have e6 : (zsL (zsL x (20 + t) j (zsort (x.1 26 t) v)) 110 (60 * t + j) (zsort ((zsL x (20 + t) j (zsort (x.1 26 t) v)).1 108 t) v)).2.1 (20 + t2) = (zsL x (20 + t) j (zsort (x.1 26 t) v)).2.1 (20 + t2) := zsL_n (by omega)
            rw [e5, e6]
            by_cases q1 : t2 = t
            · subst q1
              rw [zsL_u]
              by_cases q2 : k2 = j
              · subst q2
                show (if k2 = k2 then _ else _) = (if 60 * t2 + k2 = 60 * t2 + k2 then _ else _)
                rw [if_pos rfl, if_pos rfl, (h.2.2 t2 ht2).1]
              · show (if k2 = j then _ else x.2.1 (20 + t2) k2) = (if 60 * t2 + k2 = 60 * t2 + j then _ else x.2.1 110 (60 * t2 + k2))
                rw [if_neg q2, if_neg (by omega)]
                exact (h.2.2 t2 ht2).2.2.2.2 k2 hk2
            · rw [zsL_n (by omega)]
              show x.2.1 (20 + t2) k2 = (if 60 * t2 + k2 = 60 * t + j then _ else x.2.1 110 (60 * t2 + k2))
              rw [if_neg (by omega)]
              exact (h.2.2 t2 ht2).2.2.2.2 k2 hk2
          · rw [zsL_n (by omega), zsL_n (by omega)]
theorem z_m1 {a : Int32} (h : ¬ a < -1) : a = -1 ↔ a < 0 := by
  have e1 : (-1 : Int32).toInt = -1 := by decide
  have e0 : (0 : Int32).toInt = 0 := by decide
  rw [Int32.lt_iff_toInt_lt, e1] at h
  rw [Int32.lt_iff_toInt_lt, e0]
  constructor
  · intro e
    rw [e, e1]
    decide
  · intro e
    exact Int32.toInt_inj.mp (by rw [e1]; omega)
theorem e_tape {x u1 u2 : zX} {t0 sr n : Int32} {r1 r2 : Int32} (h : zRt x)
    (h1 : (¬ zin 6 t0 ∧ x = u1 ∧ -1 = r1) ∨ (∃ tb, tb < 6 ∧ t0 = nI tb ∧ (((sr < -1 ∨ nI 4 < sr ∨ (¬ sr = -1 ∧ nI 60 < n)) ∧ x = u1 ∧ -2 = r1) ∨ (¬ (sr < -1 ∨ nI 4 < sr ∨ (¬ sr = -1 ∧ nI 60 < n)) ∧ (¬ sr = -1 ∧ n < 0) ∧ x = u1 ∧ -14 = r1) ∨ (¬ (sr < -1 ∨ nI 4 < sr ∨ (¬ sr = -1 ∧ nI 60 < n)) ∧ ¬ (¬ sr = -1 ∧ n < 0) ∧ zsrL (zsI (zsI x 26 tb sr) 27 tb (if sr = -1 then nI 0 else n)) (20 + tb) (zclr (x.2.1 (20 + tb)) 0 60) = u1 ∧ nI 1 = r1))))
    (h2 : (¬ zin 6 t0 ∧ u1 = u2 ∧ -1 = r2) ∨ (∃ tb, tb < 6 ∧ t0 = nI tb ∧ (((¬ (¬ sr < -1 ∧ ¬ nI 4 < sr) ∨ (¬ sr < 0 ∧ nI 60 < n)) ∧ u1 = u2 ∧ -2 = r2) ∨ (¬ (¬ (¬ sr < -1 ∧ ¬ nI 4 < sr) ∨ (¬ sr < 0 ∧ nI 60 < n)) ∧ (¬ sr < 0 ∧ n < 0) ∧ u1 = u2 ∧ -14 = r2) ∨ (¬ (¬ (¬ sr < -1 ∧ ¬ nI 4 < sr) ∨ (¬ sr < 0 ∧ nI 60 < n)) ∧ ¬ (¬ sr < 0 ∧ n < 0) ∧ zsrL (zsI (zsI u1 108 tb sr) 109 tb (if sr < 0 then nI 0 else n)) 110 (zclr (u1.2.1 110) (60 * tb) 60) = u2 ∧ nI 1 = r2)))) : r1 = r2 ∧ zRt u2 ∧ zEt x u2 := by
  have hB : (sr < -1 ∨ nI 4 < sr ∨ (¬ sr = -1 ∧ nI 60 < n)) ↔ (¬ (¬ sr < -1 ∧ ¬ nI 4 < sr) ∨ (¬ sr < 0 ∧ nI 60 < n)) := by
    by_cases c1 : sr < -1
    · exact ⟨fun _ => Or.inl (fun q => q.1 c1), fun _ => Or.inl c1⟩
    · have c3 := z_m1 c1
      by_cases c2 : nI 4 < sr
      · exact ⟨fun _ => Or.inl (fun q => q.2 c2), fun _ => Or.inr (Or.inl c2)⟩
      · rw [← c3]
        exact ⟨fun q => (q.resolve_left c1).resolve_left c2 |> Or.inr, fun q => Or.inr (Or.inr (q.resolve_left (fun z => z ⟨c1, c2⟩)))⟩
  rcases h1 with ⟨n1, rfl, rfl⟩ | ⟨t, ht, rfl, h1⟩
  · rcases h2 with ⟨n2, rfl, rfl⟩ | ⟨t, ht, rfl, -⟩
    · exact ⟨rfl, h, zEt.rf⟩
    · exact absurd (zinI ht (by decide)) n1
  · rcases h2 with ⟨n2, -, -⟩ | ⟨t2, ht2, e1, h2⟩
    · exact absurd (zinI ht (by decide)) n2
    · obtain rfl := (zqE (by omega) (by omega)).mp e1
      rw [← hB] at h2
      rcases h1 with ⟨a1, rfl, rfl⟩ | ⟨a1, b1, rfl, rfl⟩ | ⟨a1, b1, rfl, rfl⟩
      · rcases h2 with ⟨a2, rfl, rfl⟩ | ⟨a2, -⟩ | ⟨a2, -⟩
        · exact ⟨rfl, h, zEt.rf⟩
        · exact absurd a1 a2
        · exact absurd a1 a2
      · have c1 : ¬ sr < -1 := fun q => a1 (Or.inl q)
        rcases h2 with ⟨a2, -⟩ | ⟨a2, b2, rfl, rfl⟩ | ⟨a2, b2, -⟩
        · exact absurd a2 a1
        · exact ⟨rfl, h, zEt.rf⟩
        · exact absurd ⟨fun q => b1.1 ((z_m1 c1).mpr q), b1.2⟩ b2
      · have c1 : ¬ sr < -1 := fun q => a1 (Or.inl q)
        have c3 := z_m1 c1
        rcases h2 with ⟨a2, -⟩ | ⟨a2, b2, -⟩ | ⟨a2, b2, rfl, rfl⟩
        · exact absurd a2 a1
        · exact absurd ⟨fun q => b2.1 (c3.mp q), b2.2⟩ b1
        · obtain ⟨s9, hs9, es9⟩ : ∃ s9 : Nat, s9 ≤ 60 ∧ (if sr = -1 then nI 0 else n) = nI s9 := by
            by_cases c4 : sr = -1
            · exact ⟨0, by decide, if_pos c4⟩
            · rw [if_neg c4]
              have d1 : ¬ n < 0 := fun q => b1 ⟨c4, q⟩
              have d2 : ¬ nI 60 < n := fun q => a1 (Or.inr (Or.inr ⟨c4, q⟩))
              obtain ⟨k, hk, rfl⟩ := z_nat d1
              rw [zqL (by decide) hk] at d2
              exact ⟨k, by omega, rfl⟩
          have es2 : (if sr < 0 then nI 0 else n) = nI s9 := by
            rw [← es9]
            by_cases c4 : sr = -1
            · rw [if_pos c4, if_pos (c3.mp c4)]
            · rw [if_neg c4, if_neg (fun q => c4 (c3.mpr q))]
          rw [es9, es2]
          have hcl : (nI s9).toNatClampNeg = s9 := nI_clamp (by omega)
          refine ⟨rfl, ⟨fun t2 ht2 => ?_, fun t2 ht2 => ?_, fun t2 ht2 => ⟨?_, ?_, ?_, ?_, fun j hj => ?_⟩⟩, fun i i1 i2 i3 i4 => ?_, fun i hi => ?_, rfl⟩
          · show upd (x.1 27) t (nI s9) t2 = nI (upd (x.1 27) t (nI s9) t2).toNatClampNeg ∧ (upd (x.1 27) t (nI s9) t2).toNatClampNeg ≤ 60
            by_cases q : t2 = t
            · rw [show upd (x.1 27) t (nI s9) t2 = nI s9 from if_pos q, hcl]
              exact ⟨rfl, hs9⟩
            · rw [show upd (x.1 27) t (nI s9) t2 = x.1 27 t2 from if_neg q]
              exact h.1 t2 ht2
          · show upd (x.1 109) t (nI s9) t2 = nI (upd (x.1 109) t (nI s9) t2).toNatClampNeg ∧ (upd (x.1 109) t (nI s9) t2).toNatClampNeg ≤ 60
            by_cases q : t2 = t
            · rw [show upd (x.1 109) t (nI s9) t2 = nI s9 from if_pos q, hcl]
              exact ⟨rfl, hs9⟩
            · rw [show upd (x.1 109) t (nI s9) t2 = x.1 109 t2 from if_neg q]
              exact h.2.1 t2 ht2
          · show upd (x.1 26) t sr t2 = upd (x.1 108) t sr t2
            by_cases q : t2 = t
            · rw [show upd (x.1 26) t sr t2 = sr from if_pos q, show upd (x.1 108) t sr t2 = sr from if_pos q]
            · rw [show upd (x.1 26) t sr t2 = x.1 26 t2 from if_neg q, show upd (x.1 108) t sr t2 = x.1 108 t2 from if_neg q]
              exact (h.2.2 t2 ht2).1
          · show upd (x.1 26) t sr t2 = -1 ∨ ¬ upd (x.1 26) t sr t2 < 0
            by_cases q : t2 = t
            · rw [show upd (x.1 26) t sr t2 = sr from if_pos q, ← c3]
              exact Classical.em _
            · rw [show upd (x.1 26) t sr t2 = x.1 26 t2 from if_neg q]
              exact (h.2.2 t2 ht2).2.1
          · show upd (x.1 27) t (nI s9) t2 = upd (x.1 109) t (nI s9) t2
            by_cases q : t2 = t
            · rw [show upd (x.1 27) t (nI s9) t2 = nI s9 from if_pos q, show upd (x.1 109) t (nI s9) t2 = nI s9 from if_pos q]
            · rw [show upd (x.1 27) t (nI s9) t2 = x.1 27 t2 from if_neg q, show upd (x.1 109) t (nI s9) t2 = x.1 109 t2 from if_neg q]
              exact (h.2.2 t2 ht2).2.2.1
          · show upd (x.1 26) t sr t2 = -1 → (upd (x.1 27) t (nI s9) t2).toNatClampNeg = 0
            by_cases q : t2 = t
            · rw [show upd (x.1 26) t sr t2 = sr from if_pos q, show upd (x.1 27) t (nI s9) t2 = nI s9 from if_pos q, ← es9]
              intro e
              rw [if_pos e]
              decide
            · rw [show upd (x.1 26) t sr t2 = x.1 26 t2 from if_neg q, show upd (x.1 27) t (nI s9) t2 = x.1 27 t2 from if_neg q]
              exact (h.2.2 t2 ht2).2.2.2.1
          · have f1 : ∀ (y : zX) (w : Nat → Int64), (zsrL y 110 w).2.1 (20 + t2) = y.2.1 (20 + t2) := fun y w => zsrL_n (by omega)
            have f2 : ∀ (y : zX) (w : Nat → Int64), (zsrL y (20 + t) w).2.1 110 = y.2.1 110 := fun y w => zsrL_n (by omega)
            rw [f1, zsrL_u]
            show (zsrL (zsI (zsI x 26 t sr) 27 t (nI s9)) (20 + t) (zclr (x.2.1 (20 + t)) 0 60)).2.1 (20 + t2) j = (zclr ((zsrL (zsI (zsI x 26 t sr) 27 t (nI s9)) (20 + t) (zclr (x.2.1 (20 + t)) 0 60)).2.1 110) (60 * t) 60) (60 * t2 + j)
            rw [f2]
            by_cases q : t2 = t
            · subst q
              rw [zsrL_u]
              show (if 0 ≤ j ∧ j < 0 + 60 then (0 : Int64) else _) = (if 60 * t2 ≤ 60 * t2 + j ∧ 60 * t2 + j < 60 * t2 + 60 then (0 : Int64) else _)
              rw [if_pos (by omega), if_pos (by omega)]
            · rw [zsrL_n (by omega)]
              show x.2.1 (20 + t2) j = (if 60 * t ≤ 60 * t2 + j ∧ 60 * t2 + j < 60 * t + 60 then (0 : Int64) else x.2.1 110 (60 * t2 + j))
              rw [if_neg (by omega)]
              exact (h.2.2 t2 ht2).2.2.2.2 j hj
          · show (zsI (zsI (zsI (zsI x 26 t sr) 27 t (nI s9)) 108 t sr) 109 t (nI s9)).1 i = x.1 i
            rw [zsI_n i4, zsI_n i3, zsI_n i2, zsI_n i1]
          · show (zsrL _ 110 _).2.1 i = x.2.1 i
            rw [zsrL_n (by omega)]
            show (zsrL _ (20 + t) _).2.1 i = x.2.1 i
            rw [zsrL_n (by omega)]
            rfl
theorem e_shift {x u1 u2 : zX} {t0 i t1 j n : Int32} {r1 r2 : Int32} (h : zRt x)
    (h1 : (¬ (zin 6 t0 ∧ zin 6 t1) ∧ x = u1 ∧ -1 = r1) ∨ ((zin 6 t0 ∧ zin 6 t1) ∧ (x.1 26 t0.toNatClampNeg = -1 ∨ x.1 26 t1.toNatClampNeg = -1) ∧ x = u1 ∧ -11 = r1) ∨ ((zin 6 t0 ∧ zin 6 t1) ∧ ¬ (x.1 26 t0.toNatClampNeg = -1 ∨ x.1 26 t1.toNatClampNeg = -1) ∧ ¬ x.1 26 t0.toNatClampNeg = x.1 26 t1.toNatClampNeg ∧ x = u1 ∧ -12 = r1) ∨ ((zin 6 t0 ∧ zin 6 t1) ∧ ¬ (x.1 26 t0.toNatClampNeg = -1 ∨ x.1 26 t1.toNatClampNeg = -1) ∧ x.1 26 t0.toNatClampNeg = x.1 26 t1.toNatClampNeg ∧ ¬ (zstr x t0.toNatClampNeg i n ∧ zstr x t1.toNatClampNeg j n) ∧ x = u1 ∧ -13 = r1) ∨ ((zin 6 t0 ∧ zin 6 t1) ∧ ¬ (x.1 26 t0.toNatClampNeg = -1 ∨ x.1 26 t1.toNatClampNeg = -1) ∧ x.1 26 t0.toNatClampNeg = x.1 26 t1.toNatClampNeg ∧ (zstr x t0.toNatClampNeg i n ∧ zstr x t1.toNatClampNeg j n) ∧ zsrL x (20 + t1.toNatClampNeg) (va_cpy (x.2.1 (20 + t0.toNatClampNeg)) (x.2.1 (20 + t1.toNatClampNeg)) i.toNatClampNeg j.toNatClampNeg n.toNatClampNeg) = u1 ∧ n = r1))
    (h2 : (¬ (zin 6 t0 ∧ zin 6 t1) ∧ u1 = u2 ∧ -1 = r2) ∨ ((zin 6 t0 ∧ zin 6 t1) ∧ (u1.1 108 t0.toNatClampNeg < 0 ∨ u1.1 108 t1.toNatClampNeg < 0) ∧ u1 = u2 ∧ -11 = r2) ∨ ((zin 6 t0 ∧ zin 6 t1) ∧ ¬ (u1.1 108 t0.toNatClampNeg < 0 ∨ u1.1 108 t1.toNatClampNeg < 0) ∧ ¬ u1.1 108 t0.toNatClampNeg = u1.1 108 t1.toNatClampNeg ∧ u1 = u2 ∧ -12 = r2) ∨ ((zin 6 t0 ∧ zin 6 t1) ∧ ¬ (u1.1 108 t0.toNatClampNeg < 0 ∨ u1.1 108 t1.toNatClampNeg < 0) ∧ u1.1 108 t0.toNatClampNeg = u1.1 108 t1.toNatClampNeg ∧ ¬ (zstT u1 t0.toNatClampNeg i n ∧ zstT u1 t1.toNatClampNeg j n) ∧ u1 = u2 ∧ -13 = r2) ∨ ((zin 6 t0 ∧ zin 6 t1) ∧ ¬ (u1.1 108 t0.toNatClampNeg < 0 ∨ u1.1 108 t1.toNatClampNeg < 0) ∧ u1.1 108 t0.toNatClampNeg = u1.1 108 t1.toNatClampNeg ∧ (zstT u1 t0.toNatClampNeg i n ∧ zstT u1 t1.toNatClampNeg j n) ∧ zshB u1 t0.toNatClampNeg i.toNatClampNeg t1.toNatClampNeg j.toNatClampNeg n.toNatClampNeg n.toNatClampNeg = u2 ∧ n = r2)) : r1 = r2 ∧ zRt u2 ∧ zEt x u2 := by
  by_cases hz : zin 6 t0 ∧ zin 6 t1
  · obtain ⟨a, ha, rfl⟩ := z_ix hz.1.1 hz.1.2 (by decide)
    obtain ⟨b, hb, rfl⟩ := z_ix hz.2.1 hz.2.2 (by decide)
    rw [nI_clamp (by omega), nI_clamp (by omega)] at h1 h2
    have ma := zRt_m h ha
    have mb := zRt_m h hb
    have ea := (h.2.2 a ha).1
    have eb := (h.2.2 b hb).1
    have sa : ∀ k, zstr x a k n ↔ zstT x a k n := fun k => by
      unfold zstr zstT
      rw [zRt_z h ha]
    have sb : ∀ k, zstr x b k n ↔ zstT x b k n := fun k => by
      unfold zstr zstT
      rw [zRt_z h hb]
    rw [ma, mb, ea, eb, sa, sb] at h1
    rcases h1 with ⟨n1, -⟩ | ⟨-, a1, rfl, rfl⟩ | ⟨-, a1, b1, rfl, rfl⟩ | ⟨-, a1, b1, c1, rfl, rfl⟩ | ⟨-, a1, b1, c1, rfl, rfl⟩
    · exact absurd hz n1
    · rcases h2 with ⟨n2, -⟩ | ⟨-, a2, rfl, rfl⟩ | ⟨-, a2, -⟩ | ⟨-, a2, -⟩ | ⟨-, a2, -⟩
      · exact absurd hz n2
      · exact ⟨rfl, h, zEt.rf⟩
      · exact absurd a1 a2
      · exact absurd a1 a2
      · exact absurd a1 a2
    · rcases h2 with ⟨n2, -⟩ | ⟨-, a2, -⟩ | ⟨-, a2, b2, rfl, rfl⟩ | ⟨-, a2, b2, -⟩ | ⟨-, a2, b2, -⟩
      · exact absurd hz n2
      · exact absurd a2 a1
      · exact ⟨rfl, h, zEt.rf⟩
      · exact absurd b2 b1
      · exact absurd b2 b1
    · rcases h2 with ⟨n2, -⟩ | ⟨-, a2, -⟩ | ⟨-, a2, b2, -⟩ | ⟨-, a2, b2, c2, rfl, rfl⟩ | ⟨-, a2, b2, c2, -⟩
      · exact absurd hz n2
      · exact absurd a2 a1
      · exact absurd b1 b2
      · exact ⟨rfl, h, zEt.rf⟩
      · exact absurd c2 c1
    · rcases h2 with ⟨n2, -⟩ | ⟨-, a2, -⟩ | ⟨-, a2, b2, -⟩ | ⟨-, a2, b2, c2, -⟩ | ⟨-, a2, b2, c2, rfl, rfl⟩
      · exact absurd hz n2
      · exact absurd a2 a1
      · exact absurd b1 b2
      · exact absurd c1 c2
      · have c9 := c1
        obtain ⟨⟨p1, p2, p3⟩, q1, q2, q3⟩ := c9
        have ha6 := (h.2.1 a ha).2
        have hb6 := (h.2.1 b hb).2
        generalize i.toNatClampNeg = I at *
        generalize j.toNatClampNeg = J at *
        generalize n.toNatClampNeg = M at *
        refine ⟨rfl, ⟨h.1, h.2.1, fun t2 ht2 => ⟨(h.2.2 t2 ht2).1, (h.2.2 t2 ht2).2.1, (h.2.2 t2 ht2).2.2.1, (h.2.2 t2 ht2).2.2.2.1, fun k hk => ?_⟩⟩, fun _ _ _ _ _ => rfl, fun k hk => ?_, rfl⟩
        · unfold zshB zshA
          rw [zsrL_u, zsrL_u, zsrL_n (by omega), zsrL_n (by omega)]
          have e110 : (zsrL x (20 + b) (va_cpy (x.2.1 (20 + a)) (x.2.1 (20 + b)) I J M)).2.1 110 = x.2.1 110 := zsrL_n (by omega)
          rw [e110]
          by_cases z : t2 = b
          · subst z
            rw [zsrL_u]
            by_cases z2 : J ≤ k ∧ k < J + M
            · show (if J ≤ k ∧ k < J + M then x.2.1 (20 + a) (I + (k - J)) else _) = (if 60 * t2 + J ≤ 60 * t2 + k ∧ 60 * t2 + k < 60 * t2 + J + M then (if 0 ≤ 0 + (60 * t2 + k - (60 * t2 + J)) ∧ 0 + (60 * t2 + k - (60 * t2 + J)) < 0 + M then x.2.1 110 (60 * a + I + (0 + (60 * t2 + k - (60 * t2 + J)) - 0)) else _) else _)
              rw [if_pos z2, if_pos (by omega), if_pos (by omega), (h.2.2 a ha).2.2.2.2 _ (by omega)]
              exact congrArg (x.2.1 110) (by omega)
            · show (if J ≤ k ∧ k < J + M then _ else x.2.1 (20 + t2) k) = (if 60 * t2 + J ≤ 60 * t2 + k ∧ 60 * t2 + k < 60 * t2 + J + M then _ else x.2.1 110 (60 * t2 + k))
              rw [if_neg z2, if_neg (by omega)]
              exact (h.2.2 t2 ht2).2.2.2.2 k hk
          · rw [zsrL_n (by omega)]
            show x.2.1 (20 + t2) k = (if 60 * b + J ≤ 60 * t2 + k ∧ 60 * t2 + k < 60 * b + J + M then _ else x.2.1 110 (60 * t2 + k))
            rw [if_neg (by omega)]
            exact (h.2.2 t2 ht2).2.2.2.2 k hk
        · unfold zshB zshA
          rw [zsrL_n (by omega), zsrL_n (by omega), zsrL_n (by omega)]
  · rcases h1 with ⟨n1, rfl, rfl⟩ | ⟨hz1, -⟩ | ⟨hz1, -⟩ | ⟨hz1, -⟩ | ⟨hz1, -⟩
    · rcases h2 with ⟨n2, rfl, rfl⟩ | ⟨hz1, -⟩ | ⟨hz1, -⟩ | ⟨hz1, -⟩ | ⟨hz1, -⟩
      · exact ⟨rfl, h, zEt.rf⟩
      · exact absurd hz1 hz
      · exact absurd hz1 hz
      · exact absurd hz1 hz
      · exact absurd hz1 hz
    · exact absurd hz1 hz
    · exact absurd hz1 hz
    · exact absurd hz1 hz
    · exact absurd hz1 hz
