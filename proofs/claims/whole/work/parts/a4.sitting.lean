/-! SITTINGS: what they are worth, what they break: class and reference answer alike -/
abbrev zEs (i : Nat) : Prop := i = 0 ∨ (11 ≤ i ∧ i ≤ 16) ∨ i = 77 ∨ (97 ≤ i ∧ i ≤ 101)
theorem zHl_c {x u : zX} {b F C : Nat} (hA : ∀ i, 28 ≤ i → i < 77 → ¬ zFx i → u.1 i = x.1 i) (hB : ∀ i, 89 ≤ i → i ≤ 94 → u.1 i = x.1 i) (h1 : u.1 1 6 = x.1 1 6) (h2 : u.1 77 13 = x.1 77 13) (Q : zHl x b F C) : zHl u b F C := by
  obtain ⟨a1, a2, a3, a4, a5, a6⟩ := Q
  have hb := zRm_b a2
  have pj : ∀ j, j ≤ 5 → u.1 (b + j) = x.1 (b + j) := fun j hj => hA _ (by omega) (by omega) (fun ⟨r, h1, h2⟩ => by obtain ⟨r2, h3, h4⟩ := a2; omega)
  have ev : ∀ c g, zev9 u c g = zev9 x c g := fun c g => by unfold zev9; rw [hB 92 (by omega) (by omega), hB 93 (by omega) (by omega), hB 94 (by omega) (by omega)]
  refine ⟨by rw [h1]; exact a1, a2, zRo_c (congrFun (pj 0 (by omega)) 4) (pj 3 (by omega)) (pj 4 (by omega)) a3, ⟨?_, fun k hk hh => ?_⟩, ?_, fun k hk => ?_⟩
  · have := a4.1
    unfold zClR at this ⊢
    rw [h2, hB 89 (by omega) (by omega)]
    exact this
  · rw [hB 90 (by omega) (by omega)] at hh
    have := a4.2 k hk hh
    unfold zCkR at this ⊢
    rw [hB 92 (by omega) (by omega), hB 93 (by omega) (by omega), hB 94 (by omega) (by omega)]
    exact this
  · rw [show u.1 b = x.1 b from pj 0 (by omega), hB 90 (by omega) (by omega), hB 91 (by omega) (by omega)]
    exact a5
  · rw [pj 1 (by omega), pj 2 (by omega), hB 90 (by omega) (by omega), hB 91 (by omega) (by omega)]
    obtain ⟨c1, c2, c3, c4⟩ := a6 k hk
    refine ⟨c1, c2, c3, fun hh g => ?_⟩
    rw [ev, c4 hh g]
    exact decide_eq_decide.mpr (zhd_c (pj 3 (by omega)) (pj 4 (by omega))).symm
/-- where only scratch changes -/
theorem zRl.sp {G : zG} {x u : zX} {N R L b F C : Nat} (H : zRl G x N R L) (Q : zHl x b F C) (hA : ∀ i, ¬ zEs i → ¬ zFx i → u.1 i = x.1 i) (h0 : ∀ k, ¬ k = 9 → u.1 0 k = x.1 0 k) (h77 : ∀ k, ¬ k = 34 → ¬ k = 35 → u.1 77 k = x.1 77 k) (h2 : u.2 = x.2) (ta : zTa G u N) : zRl G u N R L ∧ zHl u b F C := by
  have hS : ∀ i, ¬ zEs i → (i < 28 ∨ 77 < i) → u.1 i = x.1 i := fun i h3 h4 => hA i h3 (fun ⟨r, h1, h2⟩ => by omega)
  refine ⟨H.fr (fun i h3 h4 => hA i (by omega) h4) (fun k _ h => h0 k h) (fun k _ h3 h4 _ => h77 k h3 h4) (fun i _ => by rw [h2]) (by rw [h2]) ?_ ta ?_ ?_, zHl_c (fun i i1 i2 i3 => hA i (by omega) i3) (fun i i1 i2 => hS i (by omega) (by omega)) (congrFun (hS 1 (by omega) (by omega)) 6) (h77 13 (by omega) (by omega)) Q⟩
  · have := H.tc
    unfold zTc at this ⊢
    rw [hS 17 (by omega) (by omega), hS 18 (by omega) (by omega), hS 107 (by omega) (by omega), h77 45 (by omega) (by omega)]
    exact this
  · have := H.rf
    unfold zRf at this ⊢
    rw [h0 4 (by omega), h77 14 (by omega) (by omega), hS 9 (by omega) (by omega), hS 88 (by omega) (by omega)]
    exact this
  · have := H.rt
    unfold zRt zTp zTpR zsz zszR at this ⊢
    rw [h2, hS 26 (by omega) (by omega), hS 27 (by omega) (by omega), hS 108 (by omega) (by omega), hS 109 (by omega) (by omega)]
    exact this
theorem zFx_b {b : Nat} (hb : zRm b) : zFx (b + 6) := by
  obtain ⟨r, h1, h2⟩ := hb
  exact ⟨r, h1, by omega⟩
/-- from the class's tables asked for -/
theorem zTb_x {G : zG} {x x2 u : zX} {N b C : Nat} (hb : zRm b) (hn : zNow G x N) (hro : zRo x b C) (p1 : ∀ i, 112 ≤ i → x2.1 i = x.1 i) (p2 : ∀ j, 1 ≤ j → j ≤ 4 → x2.1 (b + j) = x.1 (b + j)) (p3 : x2.1 5 = x.1 5) (p4 : x2.2.2 3 = x.2.2 3) (h : zTb G x N b C u) : zTb G x2 N b C u := by
  have e : ∀ q, zob x2 q = zob x q := fun q => by unfold zob; rw [p4]
  refine ⟨fun a q r hr hq ha hne => ?_, fun p hp => ?_⟩
  · obtain ⟨d1, d2⟩ := h.1 a q r hr hq ha hne
    obtain ⟨e1, e2⟩ := zVw_c (row := nI r) hb hn hro p1 p2 p3 p4 ha hq
    obtain ⟨e3, e4⟩ := zVw_c (row := nI r) hb hn hro p1 p2 p3 p4 hq ha
    rw [e2, d1, d2]
    refine ⟨rfl, ?_⟩
    unfold zVb
    rw [e1, e3]
  · rw [h.2 p hp, e]
    by_cases hpN : p < N
    · rw [if_pos hpN, if_pos hpN, p1 _ (hn.2.2.1 p hpN).2.1]
    · rw [if_neg hpN, if_neg hpN]
theorem zRl.t7 {G : zG} {x u : zX} {N R L b F C : Nat} (H : zRl G x N R L) (Q : zHl x b F C) (h : zT7 G x N b C u) : zRl G u N R L ∧ zHl u b F C ∧ zTb G u N b C u := by
  obtain ⟨⟨h1, h2, h3⟩, h4, h5⟩ := h
  have hb := zRm_b Q.2.1
  have hA : ∀ i, ¬ i = 0 → ¬ i = 12 → ¬ i = 13 → ¬ i = 14 → ¬ i = b + 6 → u.1 i = x.1 i := fun i i1 i2 i3 i4 i5 => h1 i i1 i2 i3 i4 i5
  have tb : zTb G u N b C u := zTb_x Q.2.1 H.now Q.2.2.1 (fun i hi => hA i (by omega) (by omega) (by omega) (by omega) (by omega)) (fun j j1 j2 => hA _ (by omega) (by omega) (by omega) (by omega) (by omega)) (hA 5 (by omega) (by omega) (by omega) (by omega) (by omega)) (by rw [h3]) h4
  have hro : zRo u b C := zRo_c (congrFun (hA b (by omega) (by omega) (by omega) (by omega) (by omega)) 4) (hA _ (by omega) (by omega) (by omega) (by omega) (by omega)) (hA _ (by omega) (by omega) (by omega) (by omega) (by omega)) Q.2.2.1
  have e6 : u.1 1 6 = x.1 1 6 := congrFun (hA 1 (by omega) (by omega) (by omega) (by omega) (by omega)) 6
  obtain ⟨g1, g2⟩ := H.sp (u := u) Q (fun i i1 i2 => hA i (by omega) (by omega) (by omega) (by omega) (fun z => i2 (by rw [z]; exact zFx_b Q.2.1))) (fun k hk => h2 k hk) (fun k _ _ => congrFun (hA 77 (by omega) (by omega) (by omega) (by omega) (by omega)) k) h3 (fun _ => ⟨C, by rw [e6, Q.1]; exact hro, by rw [e6, Q.1]; exact tb⟩)
  exact ⟨g1, g2, tb⟩
theorem zRl.q9 {G : zG} {x u : zX} {N R L b F C : Nat} (H : zRl G x N R L) (Q : zHl x b F C) (h : zQ9 x u) : zRl G u N R L ∧ zHl u b F C := by
  obtain ⟨h1, h2, h3⟩ := h
  have hA : ∀ i, ¬ i = 77 → ¬ (97 ≤ i ∧ i ≤ 101) → u.1 i = x.1 i := fun i i1 i2 => h1 i i1 (by omega)
  exact H.sp Q (fun i i1 i2 => hA i (by omega) (by omega)) (fun k _ => congrFun (hA 0 (by omega) (by omega)) k) (fun k k1 k2 => h2 k k1 k2) h3 (zTa_c (x := x) H.now (fun i hi => hA i (by omega) (by omega)) (fun i i1 i2 _ => hA i (by omega) (by omega)) (hA 5 (by omega) (by omega)) (by rw [h3]) (fun i i1 i2 => hA i (by omega) (by omega)) (congrFun (hA 0 (by omega) (by omega)) 9) (congrFun (hA 1 (by omega) (by omega)) 6) H.ta)
theorem zRl.q6 {G : zG} {x u : zX} {N R L b F C : Nat} (H : zRl G x N R L) (Q : zHl x b F C) (h : zQ6x b x u) : zRl G u N R L ∧ zHl u b F C := by
  obtain ⟨⟨h1, h3⟩, h2⟩ := h
  have hb := zRm_b Q.2.1
  have hA : ∀ i, ¬ i = b + 6 → u.1 i = x.1 i := fun i i1 => by
    by_cases c : 12 ≤ i ∧ i ≤ 14
    · exact h2 i c.1 c.2
    · exact h1 i (by omega) (by omega) (by omega) i1
  have hf : ∀ i, ¬ zFx i → u.1 i = x.1 i := fun i hi => hA i (fun z => hi (by rw [z]; exact zFx_b Q.2.1))
  exact H.sp Q (fun i i1 i2 => hf i i2) (fun k _ => congrFun (hA 0 (by omega)) k) (fun k k1 k2 => congrFun (hA 77 (by omega)) k) h3 (zTa_c (x := x) H.now (fun i hi => hA i (by omega)) (fun i i1 i2 i3 => hf i i3) (hA 5 (by omega)) (by rw [h3]) (fun i i1 i2 => hA i (by omega)) (congrFun (hA 0 (by omega)) 9) (congrFun (hA 1 (by omega)) 6) H.ta)
theorem zoc_e {N : Nat} {v : Int32} (h : v = -1 ∨ ∃ q, q < N ∧ v = nI q) (h8 : N ≤ 8) : zocR v = zocc v := by
  rcases h with rfl | ⟨q, hq, rfl⟩
  · decide
  · unfold zocR zocc
    rw [if_neg (nI_pos (by omega)), if_neg (fun z => absurd (show nI q < 0 from by rw [z]; decide) (nI_pos (by omega)))]
theorem zRl.acr {G : zG} {x : zX} {N R L : Nat} (H : zRl G x N R L) {k : Nat} (hk : k < N) : zocR (x.1 85 (2 * (zse x k / 2 ^^^ 1))) + zocR (x.1 85 (2 * (zse x k / 2 ^^^ 1) + 1)) = zacr x k := by
  obtain ⟨s1, s2, s3, s4, s5⟩ := H.st hk
  rw [s4]
  have h3 := zxor3 s1
  obtain ⟨e1, f1⟩ := H.sc.2.1 (2 * (zst x k / 2 ^^^ 1)) (by omega)
  obtain ⟨e2, f2⟩ := H.sc.2.1 (2 * (zst x k / 2 ^^^ 1) + 1) h3
  unfold zacr
  rw [← e1, ← e2, zoc_e f1 H.sc.1, zoc_e f2 H.sc.1]
theorem e_pair {G : zG} {x u1 u2 : zX} {N R L : Nat} {pa pb rw9 wh : Int32} {r1 r2 : Int32} (H : zRl G x N R L) {b9 F C : Nat} (Q : zHl x b9 F C)
    (h1 : (¬ (zin N pa ∧ zin N pb ∧ (¬ rw9 < 0 ∧ ¬ nI 1 < rw9) ∧ ¬ wh < 0 ∧ wh ≤ nI 3) ∧ x = u1 ∧ -100001 = r1) ∨ ((zin N pa ∧ zin N pb ∧ (¬ rw9 < 0 ∧ ¬ nI 1 < rw9) ∧ ¬ wh < 0 ∧ wh ≤ nI 3) ∧ pa = pb ∧ x = u1 ∧ -100002 = r1) ∨ (∃ ka kb, ka < N ∧ kb < N ∧ ¬ ka = kb ∧ pa = nI ka ∧ pb = nI kb ∧ (¬ rw9 < 0 ∧ ¬ nI 1 < rw9) ∧ (¬ wh < 0 ∧ wh ≤ nI 3) ∧ zQ6x b9 x u1 ∧ (if wh = nI 0 then zsm (zlook x b9 ka kb rw9) b9 (nI 0) C else if wh = nI 1 then zsm (zlook x b9 ka kb rw9) b9 (nI 1) C else if wh = nI 2 then (if zVb x b9 C ka kb rw9 then nI 1 else nI 0) else zVw G x N b9 C ka kb rw9 - (if zk G (zob x ka) = 0 then x.1 (zob x ka) 1 else nI 0) * zacr x ka) = r1))
    (h2 : (¬ (zin N pa ∧ zin N pb ∧ (¬ rw9 < nI 0 ∧ ¬ nI 1 < rw9) ∧ ¬ wh < nI 0 ∧ ¬ nI 3 < wh) ∧ u1 = u2 ∧ -100001 = r2) ∨ ((zin N pa ∧ zin N pb ∧ (¬ rw9 < nI 0 ∧ ¬ nI 1 < rw9) ∧ ¬ wh < nI 0 ∧ ¬ nI 3 < wh) ∧ pa = pb ∧ u1 = u2 ∧ -100002 = r2) ∨ (∃ ka kb, ka < N ∧ kb < N ∧ ¬ ka = kb ∧ pa = nI ka ∧ pb = nI kb ∧ (¬ rw9 < nI 0 ∧ ¬ nI 1 < rw9) ∧ (¬ wh < nI 0 ∧ ¬ nI 3 < wh) ∧ zQ9 u1 u2 ∧ (if wh = nI 0 then zsuR u1 F (nI 0) (zfr9 u1 ka kb rw9) C else if wh = nI 1 then zsuR u1 F (nI 1) (zfr9 u1 ka kb rw9) C else if wh = nI 2 then (if zbaR u1 F C ka kb rw9 then nI 1 else nI 0) else zpwR u1 N F C ka kb rw9 - (if u1.1 78 ka = nI 5 then u1.1 79 ka * (zocR (u1.1 85 (2 * (zse u1 ka / 2 ^^^ 1))) + zocR (u1.1 85 (2 * (zse u1 ka / 2 ^^^ 1) + 1))) else nI 0)) = r2)) : r1 = r2 ∧ ∃ N R L, zRl G u2 N R L := by
  have h8 := H.sc.1
  have hw : ∀ a : Int32, (¬ a < 0 ∧ a ≤ nI 3) ↔ (¬ a < nI 0 ∧ ¬ nI 3 < a) := fun a => ⟨fun z => ⟨z.1, z_nle z.2⟩, fun z => ⟨z.1, z_nlt z.2⟩⟩
  rcases h1 with ⟨a1, rfl, rfl⟩ | ⟨a1, b1, rfl, rfl⟩ | ⟨ka, kb, hka, hkb, hne, rfl, rfl, c1, d1, q1, e1⟩
  · rcases h2 with ⟨a2, rfl, rfl⟩ | ⟨a2, -⟩ | ⟨ka, kb, hka, hkb, hne, rfl, rfl, c1, d1, -⟩
    · exact ⟨rfl, N, R, L, H⟩
    · exact absurd ⟨a2.1, a2.2.1, a2.2.2.1, (hw wh).mpr a2.2.2.2⟩ a1
    · exact absurd ⟨zinI hka (by omega), zinI hkb (by omega), c1, (hw wh).mpr d1⟩ a1
  · rcases h2 with ⟨a2, -⟩ | ⟨a2, b2, rfl, rfl⟩ | ⟨ka, kb, hka, hkb, hne, rfl, rfl, -⟩
    · exact absurd ⟨a1.1, a1.2.1, a1.2.2.1, (hw wh).mp a1.2.2.2⟩ a2
    · exact ⟨rfl, N, R, L, H⟩
    · exact absurd ((zqE (by omega) (by omega)).mp b1) hne
  · rcases h2 with ⟨a2, -⟩ | ⟨a2, b2, -⟩ | ⟨ka2, kb2, hka2, hkb2, hne2, f1, f2, c2, d2, q2, e2⟩
    · exact absurd ⟨zinI hka (by omega), zinI hkb (by omega), c1, (hw wh).mp d1⟩ a2
    · exact absurd ((zqE (by omega) (by omega)).mp b2) hne
    obtain rfl := (zqE (by omega) (by omega)).mp f1
    obtain rfl := (zqE (by omega) (by omega)).mp f2
    obtain ⟨H1, Q1⟩ := H.q6 Q q1
    obtain ⟨H2, Q2⟩ := H1.q9 Q1 q2
    refine ⟨?_, N, R, L, H2⟩
    have hb := Q.2.1
    have hr := zRm_b hb
    have es : ∀ w, zsm (zlook u1 b9 ka kb rw9) b9 w C = zsm (zlook x b9 ka kb rw9) b9 w C := fun w => zsm_q q1.1 hb H.now Q.2.2.1 hka hkb
    have es2 : ∀ w, zsm (zlook u1 b9 kb ka rw9) b9 w C = zsm (zlook x b9 kb ka rw9) b9 w C := fun w => zsm_q q1.1 hb H.now Q.2.2.1 hkb hka
    have ew := zVw_q (row := rw9) q1.1 hb H.now Q.2.2.1 hka hkb
    rw [← e1, ← e2]
    by_cases w0 : wh = nI 0
    · rw [if_pos w0, if_pos w0, ← es, H1.sm Q1 hka hkb (by decide) (by decide)]
    rw [if_neg w0, if_neg w0]
    by_cases w1 : wh = nI 1
    · rw [if_pos w1, if_pos w1, ← es, H1.sm Q1 hka hkb (by decide) (by decide)]
    rw [if_neg w1, if_neg w1]
    by_cases w2 : wh = nI 2
    · rw [if_pos w2, if_pos w2]
      have := H1.vb (row := rw9) Q1 hka hkb
      unfold zVb at this
      rw [es, es2] at this
      exact zif_c this
    rw [if_neg w2, if_neg w2, ← ew, H1.vw Q1 hka hkb, H1.acr hka]
    congr 1
    have eo : zob u1 ka = zob x ka := zob_q q1.1 ka
    have ea : zacr x ka = zacr u1 ka := by
      unfold zacr zst
      rw [q1.1.1 4 (by omega) (by omega) (by omega) (by omega)]
    have e11 : x.1 (zob x ka) 1 = u1.1 79 ka := by
      have := (H1.pp.2.2 ka hka).2.2.1
      rw [eo, q1.1.1 (zob x ka) (by have := (H.pp.2.2 ka hka).1.2.1; omega) (by have := (H.pp.2.2 ka hka).1.2.1; omega) (by have := (H.pp.2.2 ka hka).1.2.1; omega) (by have := (H.pp.2.2 ka hka).1.2.1; omega)] at this
      exact this
    obtain ⟨i, hi⟩ := H1.kd hka
    have p0 := (H1.pp.2.2 ka hka).2.1
    rw [eo] at hi p0
    rw [e11, ea, hi, ← p0, hi]
    match i with
    | 0 => exact (congrArg (· * zacr u1 ka) (if_pos rfl)).trans (if_pos rfl).symm
    | 1 => exact (congrArg (· * zacr u1 ka) (if_neg (by decide))).trans ((Int32.zero_mul).trans (if_neg (by decide)).symm)
    | 2 => exact (congrArg (· * zacr u1 ka) (if_neg (by decide))).trans ((Int32.zero_mul).trans (if_neg (by decide)).symm)
    | 3 => exact (congrArg (· * zacr u1 ka) (if_neg (by decide))).trans ((Int32.zero_mul).trans (if_neg (by decide)).symm)
    | 4 => exact (congrArg (· * zacr u1 ka) (if_neg (by decide))).trans ((Int32.zero_mul).trans (if_neg (by decide)).symm)
    | 5 => exact (congrArg (· * zacr u1 ka) (if_neg (by decide))).trans ((Int32.zero_mul).trans (if_neg (by decide)).symm)
    | 6 => exact (congrArg (· * zacr u1 ka) (if_neg (by decide))).trans ((Int32.zero_mul).trans (if_neg (by decide)).symm)
/-- a row of sitters, none twice -/
def zRw (N : Nat) (f : Nat → Int32) : Prop := (∀ t, t < 8 → f t = -1 ∨ ∃ q, q < N ∧ f t = nI q) ∧ ∀ t t2, t < 8 → t2 < 8 → ¬ t = t2 → ¬ f t = -1 → ¬ f t = f t2
/-- the tables of both -/
def zTW (N : Nat) (u y : zX) : Prop := (∀ a q r, r < 2 → q < N → a < N → ¬ a = q → u.1 12 ((r * 8 + a) * 8 + q) = y.1 98 (16 * a + 2 * q + r) ∧ u.1 13 ((r * 8 + a) * 8 + q) = y.1 99 (16 * a + 2 * q + r)) ∧ (∀ p, p < N → u.1 14 p = if y.1 78 p = nI 5 then y.1 79 p else nI 0) ∧ ∀ q, q < N → (zbit (u.1 1 4) (nI q) ↔ ¬ y.1 86 q = 0)
theorem zsum_2 (f : Nat → Int32) : ∀ n, zsum f (2 * n) = zsum (fun d => f (2 * d) + f (2 * d + 1)) n
  | 0 => rfl
  | n + 1 => by
    rw [show 2 * (n + 1) = 2 * n + 1 + 1 by omega, zsum, zsum, zsum_2 f n, zsum, Int32.add_assoc]
theorem zring (W V z A B : Int32) : (W + V) - z * (A + B) = (W - A * z) + (V - B * z) := by grind
theorem znm1 {q : Nat} (h : q < 1000) : ¬ nI q = -1 := fun z => absurd (show nI q < 0 from by rw [z]; decide) (nI_pos (by omega))
theorem zkind_m {v w : Int32} {y : zX} {a : Nat} {z : Int32} (h : v = if y.1 78 a = nI 5 then y.1 79 a else nI 0) : (if y.1 78 a = nI 5 then y.1 79 a * z else nI 0) = v * z := by
  rw [h]
  by_cases c : y.1 78 a = nI 5
  · rw [if_pos c, if_pos c]
  · rw [if_neg c, if_neg c]
    exact Int32.zero_mul.symm
theorem zwor_e {N : Nat} {u y : zX} {f : Nat → Int32} (h8 : N ≤ 8) (T : zTW N u y) (hf : zRw N f) (hg : ∀ t, t < 8 → y.1 100 t = f t) : zwor u f = zsum (zsw y) 8 := by
  rw [show 8 = 2 * 4 from rfl, zsum_2]
  refine zsum_c (fun d hd => ?_)
  have hx : (2 * d) ^^^ 1 = 2 * d + 1 ∧ (2 * d + 1) ^^^ 1 = 2 * d ∧ 2 * (d ^^^ 1) + 1 < 8 := by
    rcases (show d = 0 ∨ d = 1 ∨ d = 2 ∨ d = 3 by omega) with rfl | rfl | rfl | rfl <;> decide
  have g0 := hg (2 * d) (by omega)
  have g1 := hg (2 * d + 1) (by omega)
  rcases hf.1 (2 * d) (by omega) with c0 | ⟨a, ha, c0⟩
  · rw [zsw_0 (Or.inl (g0.trans c0)), zsw_0 (Or.inr (by rw [hx.2.1]; exact g0.trans c0))]
    exact if_pos (Or.inl (by rw [c0]; decide))
  · rcases hf.1 (2 * d + 1) (by omega) with c1 | ⟨b, hb, c1⟩
    · rw [zsw_0 (Or.inr (by rw [hx.1]; exact g1.trans c1)), zsw_0 (Or.inl (g1.trans c1))]
      exact if_pos (Or.inr (by rw [c1]; decide))
    · have hab : ¬ a = b := fun z => hf.2 (2 * d) (2 * d + 1) (by omega) (by omega) (by omega) (by rw [c0]; exact znm1 (by omega)) (by rw [c0, c1, z])
      rw [zsw_v (qa := a) (qb := b) (g0.trans c0) (by rw [hx.1]; exact g1.trans c1) (by omega) (by omega), zsw_v (qa := b) (qb := a) (g1.trans c1) (by rw [hx.2.1]; exact g0.trans c0) (by omega) (by omega)]
      have z0 := hf.1 (2 * (d ^^^ 1)) (by omega)
      have z1 := hf.1 (2 * (d ^^^ 1) + 1) (by omega)
      have ez0 : zac y (2 * d) = zocc (f (2 * (d ^^^ 1))) + zocc (f (2 * (d ^^^ 1) + 1)) := by
        unfold zac
        rw [show 2 * d / 2 = d by omega, hg _ (by omega), hg _ (by omega), zoc_e z0 h8, zoc_e z1 h8]
      have ez1 : zac y (2 * d + 1) = zocc (f (2 * (d ^^^ 1))) + zocc (f (2 * (d ^^^ 1) + 1)) := by
        unfold zac
        rw [show (2 * d + 1) / 2 = d by omega, hg _ (by omega), hg _ (by omega), zoc_e z0 h8, zoc_e z1 h8]
      rw [zkind_m (T.2.1 a ha) (w := 0), zkind_m (T.2.1 b hb) (w := 0), ez0, ez1, show 2 * d / 4 = d / 2 by omega, show (2 * d + 1) / 4 = d / 2 by omega, ← (T.1 a b (d / 2) (by omega) hb ha hab).1, ← (T.1 b a (d / 2) (by omega) ha hb (fun z => hab z.symm)).1]
      unfold zdw zwa
      rw [c0, c1, if_neg (fun z => z.elim (nI_pos (by omega)) (nI_pos (by omega))), nI_clamp (by omega), nI_clamp (by omega), if_neg hab, if_neg (fun z => hab z.symm)]
      exact zring _ _ _ _ _
theorem zsum_s (f : Nat → Int32) (m : Nat) : ∀ n, zsum f (m + n) = zsum f m + zsum (fun k => f (m + k)) n
  | 0 => (Int32.add_zero _).symm
  | n + 1 => by rw [← Nat.add_assoc, zsum, zsum_s f m n, zsum, Int32.add_assoc]
theorem zbrk_e {N : Nat} {u y : zX} {f : Nat → Int32} {aim aim2 : Int32} (h8 : N ≤ 8) (T : zTW N u y) (hf : zRw N f) (hg : ∀ t, t < 8 → y.1 100 t = f t) (ha0 : aim = 0 ↔ aim2 = 0) (ha1 : aim = nI 1 ↔ aim2 = nI 1) : zbrk u f aim = zsum (zsk y aim2) 8 := by
  have e : zsum (zsk y aim2) 8 = zsum (fun t => if zk1 y aim2 t then nI 1 else nI 0) 8 + zsum (fun t => if zk2 y aim2 t then nI 1 else nI 0) 8 := zsum_a _ _ 8
  rw [e]
  unfold zbrk
  congr 1
  · by_cases c : aim = 0
    · rw [if_pos c]
      refine ((zsum_c (fun t _ => if_neg (fun z => z.1 (ha0.mp c)))).trans (zsum_0 8)).symm
    · rw [if_neg c, show 8 = 2 * 4 from rfl, zsum_2]
      refine zsum_c (fun d hd => ?_)
      have hx : (2 * d) ^^^ 1 = 2 * d + 1 := by
        rcases (show d = 0 ∨ d = 1 ∨ d = 2 ∨ d = 3 by omega) with rfl | rfl | rfl | rfl <;> decide
      have n1 : ¬ zk1 y aim2 (2 * d + 1) := fun z => by have := z.2.1; omega
      rw [if_neg n1]
      refine Eq.trans ?_ (Int32.add_zero _).symm
      refine zif_c ?_
      have g0 := hg (2 * d) (by omega)
      have g1 := hg (2 * d + 1) (by omega)
      unfold zk1 zba
      rw [hx, g0, g1]
      constructor
      · rintro ⟨z1, z2, z3, z4⟩
        obtain ⟨a, ha, ea⟩ := (hf.1 (2 * d) (by omega)).resolve_left (fun q => by rw [q] at z1; exact absurd z1.1 (by decide))
        obtain ⟨b, hb, eb⟩ := (hf.1 (2 * d + 1) (by omega)).resolve_left (fun q => by rw [q] at z2; exact absurd z2.1 (by decide))
        have hab : ¬ a = b := fun z => z3 (by rw [ea, eb, z])
        refine ⟨fun q => c (ha0.mpr q), by omega, z1.1, z2.1, ?_⟩
        rw [ea, eb, nI_clamp (by omega), nI_clamp (by omega)] at z4 ⊢
        rw [show 2 * d / 4 = d / 2 by omega, ← (T.1 a b (d / 2) (by omega) hb ha hab).2]
        exact z4
      · rintro ⟨z0, z1, z2, z3, z4⟩
        obtain ⟨a, ha, ea⟩ := (hf.1 (2 * d) (by omega)).resolve_left (fun q => by rw [q] at z2; exact z2 (by decide))
        obtain ⟨b, hb, eb⟩ := (hf.1 (2 * d + 1) (by omega)).resolve_left (fun q => by rw [q] at z3; exact z3 (by decide))
        have hab : ¬ a = b := fun z => hf.2 (2 * d) (2 * d + 1) (by omega) (by omega) (by omega) (by rw [ea]; exact znm1 (by omega)) (by rw [ea, eb, z])
        rw [ea, eb] at z4 ⊢
        rw [nI_clamp (by omega), nI_clamp (by omega)] at z4 ⊢
        refine ⟨zinI (by omega) (by decide), zinI (by omega) (by decide), fun z => hab ((zqE (by omega) (by omega)).mp z), ?_⟩
        rw [show 2 * d / 4 = d / 2 by omega, ← (T.1 a b (d / 2) (by omega) hb ha hab).2] at z4
        exact z4
  · by_cases c : aim = nI 1
    · rw [if_pos c]
      refine ((zsum_c (fun t _ => if_neg (fun z => z.1 (ha1.mp c)))).trans (zsum_0 8)).symm
    · rw [if_neg c, show 8 = 4 + 4 from rfl, zsum_s, zsum_c (g := fun _ => 0) (n := 4) (f := fun t => if zk2 y aim2 t then nI 1 else nI 0) (fun t ht => if_neg (fun z => z.2.1 (by omega))), zsum_0, Int32.zero_add]
      refine zsum_c (fun t ht => zif_c ?_)
      have g0 := hg (4 + t) (by omega)
      unfold zk2
      rw [g0]
      rcases hf.1 (4 + t) (by omega) with c0 | ⟨a, ha, c0⟩
      · rw [c0]
        exact ⟨fun z => absurd z zbit_n, fun z => absurd (show (-1 : Int32) < 0 from by decide) z.2.2.1⟩
      · rw [c0, T.2.2 a ha, nI_clamp (by omega)]
        exact ⟨fun z => ⟨fun q => c (ha1.mpr q), by omega, nI_pos (by omega), z⟩, fun z => z.2.2.2⟩
/-- the row of now -/
theorem zRl.rw4 {G : zG} {x : zX} {N R L : Nat} (H : zRl G x N R L) : zRw N (x.1 4) := by
  refine ⟨fun t ht => (H.sc.2.1 t ht).2, fun t t2 ht ht2 hne h1 h2 => ?_⟩
  obtain ⟨q, hq, e⟩ := zsitP H.now ht h1
  have h5 := (H.st hq).2.2.2.2
  exact hne (((h5 t ht).mp e).trans ((h5 t2 ht2).mp (h2.symm.trans e)).symm)
/-- the tables of both, filled -/
theorem zRl.tw {G : zG} {u y : zX} {N R L b F C : Nat} (H : zRl G u N R L) (Q : zHl u b F C) (tb : zTb G u N b C u) (h9 : zQ9 u y) (tr : zTR u N F C y) : zTW N u y := by
  refine ⟨fun a q r hr hq ha hne => ?_, fun p hp => ?_, fun q hq => ?_⟩
  · obtain ⟨e1, e2⟩ := tb.1 a q r hr hq ha hne
    obtain ⟨f1, f2⟩ := tr a q r hr hq ha hne
    rw [e1, e2, f1, f2, H.vw Q ha hq]
    exact ⟨rfl, zif_c (H.vb Q ha hq)⟩
  · have h8 := H.sc.1
    rw [tb.2 p (by omega), if_pos hp, h9.1 78 (by omega) (by omega), h9.1 79 (by omega) (by omega), (H.pp.2.2 p hp).2.2.1]
    obtain ⟨i, hi⟩ := H.kd hp
    have p0 := (H.pp.2.2 p hp).2.1
    rw [hi] at p0
    rw [← p0, hi]
    match i with
    | 0 => exact (if_pos rfl).trans (if_pos rfl).symm
    | 1 => exact (if_neg (by decide)).trans (if_neg (by decide)).symm
    | 2 => exact (if_neg (by decide)).trans (if_neg (by decide)).symm
    | 3 => exact (if_neg (by decide)).trans (if_neg (by decide)).symm
    | 4 => exact (if_neg (by decide)).trans (if_neg (by decide)).symm
    | 5 => exact (if_neg (by decide)).trans (if_neg (by decide)).symm
    | 6 => exact (if_neg (by decide)).trans (if_neg (by decide)).symm
  · rw [h9.1 86 (by omega) (by omega)]
    exact H.sc.bit hq
theorem zTW_r {N : Nat} {u y : zX} {w : Nat → Int32} (h : zTW N u y) : zTW N u (zsrI y 100 w) := h
theorem e_sitting {G : zG} {x u1 u2 : zX} {N R L : Nat} {w : Int32} {r1 r2 : Int32} (H : zRl G x N R L) {b9 F C : Nat} (Q : zHl x b9 F C)
    (h1 : (w = nI 0 ∧ zT7 G x N b9 C u1 ∧ zwor u1 (u1.1 4) = r1) ∨ (w = nI 1 ∧ zT7 G x N b9 C u1 ∧ zbrk u1 (u1.1 4) (nI 2) = r1) ∨ (w = nI 2 ∧ x = u1 ∧ x.1 b9 6 = r1) ∨ (¬ w = nI 0 ∧ ¬ w = nI 1 ∧ ¬ w = nI 2 ∧ x = u1 ∧ -100001 = r1))
    (h2 : (¬ (¬ w < 0 ∧ ¬ nI 2 < w) ∧ u1 = u2 ∧ -100001 = r2) ∨ ((¬ w < 0 ∧ ¬ nI 2 < w) ∧ ∃ y, (zQ9 u1 y ∧ zTR u1 N F C y) ∧ (zsrI y 100 (zputn (y.1 85) (y.1 100) 8)) = u2 ∧ (if w = nI 0 then zsum (zsw (zsrI y 100 (zputn (y.1 85) (y.1 100) 8))) 8 else if w = nI 1 then zsum (zsk (zsrI y 100 (zputn (y.1 85) (y.1 100) 8)) (-1)) 8 else zhush (u1.1 90) (u1.1 91) F C) = r2)) : r1 = r2 ∧ ∃ N R L, zRl G u2 N R L := by
  have h8 := H.sc.1
  have key : zT7 G x N b9 C u1 → ∀ y, (zQ9 u1 y ∧ zTR u1 N F C y) → (zwor u1 (u1.1 4) = zsum (zsw (zsrI y 100 (zputn (y.1 85) (y.1 100) 8))) 8) ∧ (zbrk u1 (u1.1 4) (nI 2) = zsum (zsk (zsrI y 100 (zputn (y.1 85) (y.1 100) 8)) (-1)) 8) ∧ zRl G (zsrI y 100 (zputn (y.1 85) (y.1 100) 8)) N R L := fun t7 y hy => by
    obtain ⟨H1, Q1, tb⟩ := H.t7 Q t7
    have T := zTW_r (w := zputn (y.1 85) (y.1 100) 8) (H1.tw Q1 tb hy.1 hy.2)
    have hg : ∀ t, t < 8 → (zsrI y 100 (zputn (y.1 85) (y.1 100) 8)).1 100 t = u1.1 4 t := fun t ht => by
      rw [zsrI_u, zput_l ht, hy.1.1 85 (by omega) (by omega)]
      exact (H1.sc.2.1 t ht).1.symm
    have hq : zQ9 u1 (zsrI y 100 (zputn (y.1 85) (y.1 100) 8)) := hy.1.t (zQ9.w (by omega))
    exact ⟨zwor_e h8 T H1.rw4 hg, zbrk_e h8 T H1.rw4 hg (by decide) (by decide), (H1.q9 Q1 hq).1⟩
  have hw : (w = nI 0 ∨ w = nI 1 ∨ w = nI 2) ↔ (¬ w < 0 ∧ ¬ nI 2 < w) := z02
  rcases h1 with ⟨rfl, t7, rfl⟩ | ⟨rfl, t7, rfl⟩ | ⟨rfl, rfl, rfl⟩ | ⟨n0, n1, n2, rfl, rfl⟩
  · rcases h2 with ⟨a2, -⟩ | ⟨a2, y, hy, rfl, rfl⟩
    · exact absurd (hw.mp (Or.inl rfl)) a2
    · obtain ⟨k1, k2, k3⟩ := key t7 y hy
      exact ⟨k1.trans (if_pos rfl).symm, N, R, L, k3⟩
  · rcases h2 with ⟨a2, -⟩ | ⟨a2, y, hy, rfl, rfl⟩
    · exact absurd (hw.mp (Or.inr (Or.inl rfl))) a2
    · obtain ⟨k1, k2, k3⟩ := key t7 y hy
      exact ⟨k2.trans ((if_neg (by decide)).trans (if_pos rfl)).symm, N, R, L, k3⟩
  · rcases h2 with ⟨a2, -⟩ | ⟨a2, y, hy, rfl, rfl⟩
    · exact absurd (hw.mp (Or.inr (Or.inr rfl))) a2
    · refine ⟨Q.2.2.2.2.1.trans ((if_neg (by decide)).trans (if_neg (by decide))).symm, N, R, L, ?_⟩
      exact (H.q9 Q (hy.1.t (zQ9.w (by omega)))).1
  · rcases h2 with ⟨a2, rfl, rfl⟩ | ⟨a2, -⟩
    · exact ⟨rfl, N, R, L, H⟩
    · exact absurd (hw.mpr a2) (fun z => z.elim n0 (fun z => z.elim n1 n2))
