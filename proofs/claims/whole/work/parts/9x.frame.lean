/-! FRAMES: what stays of the relation where cells that it does not read change -/
def zFx (i : Nat) : Prop := ∃ r, r < 7 ∧ i = 34 + 7 * r
theorem zhf_g {x y : zX} {b fr : Nat} (h4 : y.1 (b + 4) = x.1 (b + 4)) (h6 : y.1 (b + 6) = x.1 (b + 6)) : ∀ n, zhf y b fr n = zhf x b fr n
  | 0 => rfl
  | n + 1 => by
    rw [zhf, zhf, zhf_g h4 h6 n, h4]
    unfold zhs zso
    rw [h6]
theorem zRo_c {x u : zX} {b C : Nat} (h0 : u.1 b 4 = x.1 b 4) (h3 : u.1 (b + 3) = x.1 (b + 3)) (h4 : u.1 (b + 4) = x.1 (b + 4)) (h : zRo x b C) : zRo u b C := by
  obtain ⟨a1, a2, a3⟩ := h
  refine ⟨a1, h0.trans a2, fun k hk => ?_⟩
  have e : zen u b k = zen x b k := by unfold zen; rw [h3]
  rw [e, h3, h4]
  exact a3 k hk
theorem zfr_c {x u : zX} {b k : Nat} (h3 : u.1 (b + 3) = x.1 (b + 3)) : zfr u b k = zfr x b k := by
  cases k with
  | zero => rfl
  | succ k => unfold zfr zen; rw [h3]
theorem zhd_c {x u : zX} {b k : Nat} {g : Nat → Int32} (h3 : u.1 (b + 3) = x.1 (b + 3)) (h4 : u.1 (b + 4) = x.1 (b + 4)) : zhd (zsrI u (b + 6) g) b (zfr u b k) (zen u b k) ↔ zhd (zsrI x (b + 6) g) b (zfr x b k) (zen x b k) := by
  have e : zen u b k = zen x b k := by unfold zen; rw [h3]
  have e2 := zfr_c (k := k) h3
  unfold zhd
  rw [e, e2, zhf_g (x := zsrI x (b + 6) g) (y := zsrI u (b + 6) g) (by rw [zsrI_n (by omega), zsrI_n (by omega), h4]) (by rw [zsrI_u, zsrI_u])]
theorem zrsN_c {g w v : Nat → Int32} {fr : Nat} : ∀ {n : Nat}, (∀ k, k < n → w (fr + k) = v (fr + k)) → zrsN g w fr n = zrsN g v fr n
  | 0, _ => rfl
  | n + 1, h => by rw [zrsN, zrsN, zrsN_c (fun k hk => h k (by omega)), h n (by omega)]
theorem zhush_c {w n w2 n2 : Nat → Int32} {F : Nat} : ∀ {C : Nat}, (∀ k, k < C → w2 (F + k) = w (F + k) ∧ n2 (F + k) = n (F + k)) → zhush w2 n2 F C = zhush w n F C
  | 0, _ => rfl
  | C + 1, h => by rw [zhush, zhush, zhush_c (fun k hk => h k (by omega)), (h C (by omega)).1, (h C (by omega)).2]
/-- a room that is read stays what it is -/
theorem zRk_c {x u : zX} {r : Nat} (h0 : ∀ k, (k = 4 ∨ k = 6) → u.1 (28 + 7 * r) k = x.1 (28 + 7 * r) k) (h1 : u.1 (28 + 7 * r + 1) = x.1 (28 + 7 * r + 1)) (h2 : u.1 (28 + 7 * r + 2) = x.1 (28 + 7 * r + 2)) (h3 : u.1 (28 + 7 * r + 3) = x.1 (28 + 7 * r + 3)) (h4 : u.1 (28 + 7 * r + 4) = x.1 (28 + 7 * r + 4)) (h89 : u.1 89 r = x.1 89 r) (h9 : ∀ i, 90 ≤ i → i ≤ 93 → ∀ k, k < 10 → u.1 i (10 * r + k) = x.1 i (10 * r + k)) (h94 : ∀ k, k < 100 * (r + 1) → u.1 94 k = x.1 94 k) (h : zRk x r) : zRk u r := by
  obtain ⟨C, c1, c2, c3, c4⟩ := h
  have hC := c1.1
  refine ⟨C, zRo_c (h0 4 (Or.inl rfl)) h3 h4 c1, h89.trans c2, ?_, fun k hk => ?_⟩
  · rw [h0 6 (Or.inr rfl), c3]
    exact (zhush_c (fun k hk => ⟨h9 90 (by omega) (by omega) k (by omega), h9 91 (by omega) (by omega) k (by omega)⟩)).symm
  · obtain ⟨d1, d2, d4, d3⟩ := c4 k hk
    rw [h1, h2, h9 90 (by omega) (by omega) k (by omega), h9 91 (by omega) (by omega) k (by omega)]
    refine ⟨d1, d2, d4, fun hh => ?_⟩
    obtain ⟨fr, en, f1, f2, f3, f4, f5, f6, f7, f8⟩ := d3 hh
    refine ⟨fr, en, f1, f2, f3, f4, ?_, ?_, fun j j1 j2 => ?_, fun g => ?_⟩
    · rw [h9 92 (by omega) (by omega) k (by omega), f5]
    · rw [h9 93 (by omega) (by omega) k (by omega), f6]
    · rw [h94 j (by omega)]
      exact f7 j j1 j2
    · rw [zrsN_c (v := x.1 94) (fun j hj => h94 _ (by omega)), f8 g]
      exact congrArg (fun q => some [q]) (decide_eq_decide.mpr (zhd_c h3 h4).symm)
theorem zRq_c {x u : zX} {R : Nat} (a1 : u.1 0 7 = x.1 0 7) (a2 : u.1 77 12 = x.1 77 12) (a3 : ∀ i, 28 ≤ i → i < 77 → ¬ zFx i → u.1 i = x.1 i) (a4 : ∀ i, 89 ≤ i → i ≤ 94 → u.1 i = x.1 i) (h : zRq x R) : zRq u R := by
  obtain ⟨h1, h2, h3, h4, h5, h6⟩ := h
  have e70 : u.1 70 = x.1 70 := a3 70 (by omega) (by omega) (fun ⟨r, h1, h2⟩ => by omega)
  refine ⟨h1, a1.trans h2, a2.trans h3, fun r hr => ?_, by rw [e70]; exact h5, by rw [e70]; exact h6⟩
  have e : ∀ j, j < 6 → u.1 (28 + 7 * r + j) = x.1 (28 + 7 * r + j) := fun j hj => a3 _ (by omega) (by omega) (fun ⟨r, h1, h2⟩ => by omega)
  exact zRk_c (fun k _ => congrFun (e 0 (by omega)) k) (e 1 (by omega)) (e 2 (by omega)) (e 3 (by omega)) (e 4 (by omega)) (congrFun (a4 89 (by omega) (by omega)) r) (fun i i1 i2 k _ => congrFun (a4 i (by omega) (by omega)) _) (fun k _ => congrFun (a4 94 (by omega) (by omega)) k) (h4 r hr)
theorem zRz_c {x u : zX} (a3 : ∀ i, 28 ≤ i → i < 77 → ¬ zFx i → u.1 i = x.1 i) (a4 : u.1 96 = x.1 96) (a5 : ∀ k, (k = 15 ∨ k = 25 ∨ k = 26) → u.1 77 k = x.1 77 k) (h : zRz x) : zRz u := by
  obtain ⟨h1, h2, h3, h4, h5⟩ := h
  refine ⟨fun r hr k hk => ?_, fun k hk => by rw [a4]; exact h2 k hk, by rw [a5 15 (by omega)]; exact h3, by rw [a5 25 (by omega)]; exact h4, by rw [a5 26 (by omega)]; exact h5⟩
  rw [a3 (28 + 7 * r + 5) (by omega) (by omega) (fun ⟨r, h1, h2⟩ => by omega)]
  exact h1 r hr k hk
theorem zfa_c {G : zG} {x u : zX} {N p q : Nat} {row : Int32} (hn : zNow G x N) (p1 : ∀ i, 112 ≤ i → u.1 i = x.1 i) (p3 : u.1 5 = x.1 5) (p4 : u.2.2 3 = x.2.2 3) (hp : p < N) (hq : q < N) (k : Nat) : zfa u p q row k = zfa x p q row k := by
  have e : ∀ q, zob u q = zob x q := fun q => by unfold zob; rw [p4]
  have ep := p1 _ (hn.2.2.1 p hp).2.1
  have eq := p1 _ (hn.2.2.1 q hq).2.1
  unfold zfa znm
  rw [e, e, ep, eq, p3]
theorem zwby_c {G : zG} {x u : zX} {N k p q : Nat} {g : Int32} (hn : zNow G x N) (p1 : ∀ i, 112 ≤ i → u.1 i = x.1 i) (p3 : u.1 5 = x.1 5) (p4 : u.2.2 3 = x.2.2 3) (hp : p < N) (hq : q < N) : zwby u N k p q g = zwby x N k p q g := by
  have e : ∀ q, zob u q = zob x q := fun q => by unfold zob; rw [p4]
  have ep := p1 _ (hn.2.2.1 p hp).2.1
  have eq := p1 _ (hn.2.2.1 q hq).2.1
  unfold zwby zwlf zwhl zwhp zwws znm
  rw [e, e, ep, eq, p3]
theorem zVw_c {G : zG} {x u : zX} {N b C p q : Nat} {row : Int32} (hb : zRm b) (hn : zNow G x N) (hro : zRo x b C) (p1 : ∀ i, 112 ≤ i → u.1 i = x.1 i) (p2 : ∀ j, 1 ≤ j → j ≤ 4 → u.1 (b + j) = x.1 (b + j)) (p3 : u.1 5 = x.1 5) (p4 : u.2.2 3 = x.2.2 3) (hp : p < N) (hq : q < N) : (∀ w, zsm (zlook u b p q row) b w C = zsm (zlook x b p q row) b w C) ∧ zVw G u N b C p q row = zVw G x N b C p q row := by
  have hb8 := zRm_b hb
  have e : ∀ q, zob u q = zob x q := fun q => by unfold zob; rw [p4]
  have hs : ∀ w, zsm (zlook u b p q row) b w C = zsm (zlook x b p q row) b w C := fun w =>
    zsm_c (zRo_c (by rw [zlook_n (by omega)]) (zlook_n (by omega)) (zlook_n (by omega)) hro) (by rw [zlook_n (by omega), zlook_n (by omega), p2 1 (by omega) (by omega)]) (by rw [zlook_n (by omega), zlook_n (by omega), p2 2 (by omega) (by omega)]) (by rw [zlook_n (by omega), zlook_n (by omega), p2 3 (by omega) (by omega)]) (by rw [zlook_n (by omega), zlook_n (by omega), p2 4 (by omega) (by omega)]) (fun k hk => by rw [zlook_6 hk, zlook_6 hk]; exact zfa_c hn p1 p3 p4 hp hq k)
  refine ⟨hs, ?_⟩
  unfold zVw
  rw [hs, hs, zwby_c hn p1 p3 p4 hp hq, e]
theorem zTa_c {G : zG} {x u : zX} {N : Nat} (hn : zNow G x N) (p1 : ∀ i, 112 ≤ i → u.1 i = x.1 i) (p2 : ∀ i, 28 ≤ i → i < 77 → ¬ zFx i → u.1 i = x.1 i) (p3 : u.1 5 = x.1 5) (p4 : u.2.2 3 = x.2.2 3) (p5 : ∀ i, 12 ≤ i → i ≤ 14 → u.1 i = x.1 i) (p6 : u.1 0 9 = x.1 0 9) (p7 : u.1 1 6 = x.1 1 6) (h : zTa G x N) : zTa G u N := by
  intro h9
  rw [p6] at h9
  obtain ⟨C, c1, c2, c3⟩ := h h9
  rw [p7]
  have hb := zrix_ok (x.1 1 6)
  generalize zrix (x.1 1 6) = b at *
  have hb8 := zRm_b hb
  have e : ∀ q, zob u q = zob x q := fun q => by unfold zob; rw [p4]
  have pj : ∀ j, j ≤ 5 → u.1 (b + j) = x.1 (b + j) := fun j hj => p2 _ (by omega) (by omega) (fun ⟨r, h1, h2⟩ => by obtain ⟨r2, h3, h4⟩ := hb; omega)
  refine ⟨C, zRo_c (congrFun (pj 0 (by omega)) 4) (pj 3 (by omega)) (pj 4 (by omega)) c1, fun a q r hr hq ha hne => ?_, fun p hp => ?_⟩
  · obtain ⟨d1, d2⟩ := c2 a q r hr hq ha hne
    obtain ⟨e1, e2⟩ := zVw_c (row := nI r) hb hn c1 p1 (fun j j1 j2 => pj j (by omega)) p3 p4 ha hq
    obtain ⟨e3, e4⟩ := zVw_c (row := nI r) hb hn c1 p1 (fun j j1 j2 => pj j (by omega)) p3 p4 hq ha
    rw [p5 12 (by omega) (by omega), p5 13 (by omega) (by omega), e2, d1, d2]
    refine ⟨rfl, ?_⟩
    unfold zVb
    rw [e1, e3]
  · rw [p5 14 (by omega) (by omega), c3 p hp, e]
    by_cases hpN : p < N
    · rw [if_pos hpN, if_pos hpN, p1 _ (hn.2.2.1 p hpN).2.1]
    · rw [if_neg hpN, if_neg hpN]
