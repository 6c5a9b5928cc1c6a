/-! IMAGES, AND A NEW PUPIL: class and reference answer alike -/
theorem zSc_c {N : Nat} {S Y se si na fr S2 Y2 se2 si2 na2 fr2 : Nat → Int32} {bt : Int32} (h : zSc N S Y bt se si na fr) (e1 : ∀ k, k < 8 → S2 k = S k) (e2 : ∀ k, k < 8 → Y2 k = Y k) (e3 : ∀ k, k < 8 → se2 k = se k) (e4 : ∀ k, k < 8 → si2 k = si k) (e5 : ∀ k, k < 8 → na2 k = na k) (e6 : ∀ k, k < 8 → fr2 k = fr k) : zSc N S2 Y2 bt se2 si2 na2 fr2 := by
  obtain ⟨d1, d2, d3, d4, ⟨m, m1, m2, m3⟩, d6⟩ := h
  refine ⟨d1, fun t ht => ?_, fun q hq => ?_, fun q hq => ?_, ⟨m, m1, m2, fun q hq => ?_⟩, fun q hq => ?_⟩
  · rw [e1 t ht, e4 t ht]
    exact d2 t ht
  · obtain ⟨t, t1, t2, t3⟩ := d3 q hq
    refine ⟨t, t1, (e3 q (by omega)).trans t2, fun t4 h4 => ?_⟩
    rw [e1 t4 h4]
    exact t3 t4 h4
  · rw [e2 q (by omega), e5 q (by omega)]
    exact d4 q hq
  · rw [e6 q hq]
    exact m3 q hq
  · rw [e6 q hq]
    exact d6 q hq
theorem zMo_c {N : Nat} {v : Int64} {dn dn2 : Nat → Int32} {c : Int32} (h : zMo N v dn c) (e : ∀ k, k < 64 → dn2 k = dn k) : zMo N v dn2 c := by
  obtain ⟨h1, h2, h3⟩ := h
  refine ⟨fun k hk => ?_, fun k hk => ?_, h3⟩
  · rw [e k hk]
    exact h1 k hk
  · rw [e k hk]
    exact h2 k hk
theorem zput_l {g f : Nat → Int32} {n k : Nat} (h : k < n) : zputn g f n k = g k := if_pos h
theorem zPok_c {G : zG} {g f : Nat → Option Nat} (h : zPok G g) : zPok G (zputq g f 8) := fun k hk o ho => by
  rw [show zputq g f 8 k = g k from if_pos hk] at ho
  exact h k hk o ho
theorem zPw_cp {G : zG} {x : zX} {fr to : Nat} (h : zPw G x) : zPw G (zcpy x fr to) := fun i j k hk => by
  have e : (zcpy x fr to).2.2 i j = (if i = 3 * to then zputq (x.2.2 (3 * fr)) (x.2.2 (3 * to)) 8 else x.2.2 i) j := rfl
  rw [e] at hk
  by_cases c : i = 3 * to
  · rw [if_pos c] at hk
    by_cases c2 : j < 8
    · rw [show zputq (x.2.2 (3 * fr)) (x.2.2 (3 * to)) 8 j = x.2.2 (3 * fr) j from if_pos c2] at hk
      exact h _ _ _ hk
    · rw [show zputq (x.2.2 (3 * fr)) (x.2.2 (3 * to)) 8 j = x.2.2 (3 * to) j from if_neg c2] at hk
      exact h _ _ _ hk
  · rw [if_neg c] at hk
    exact h _ _ _ hk
theorem e_image {G : zG} {x u1 u2 : zX} {N R L : Nat} {r1 r2 : Int32} (H : zRl G x N R L)
    (h1 : zsI (zcpy x 1 2) 0 2 (nI 1) = u1 ∧ nI N = r1)
    (h2 : zimg u1 64 = u2 ∧ u1.1 77 0 = r2) : r1 = r2 ∧ ∃ N R L, zRl G u2 N R L := by
  obtain ⟨rfl, rfl⟩ := h1
  obtain ⟨rfl, rfl⟩ := h2
  have h8 := H.sc.1
  refine ⟨H.pp.2.1.symm, N, R, L, ?_⟩
  have hx : ∀ i, (i = 0 ∨ 9 ≤ i ∧ i < 77 ∨ 78 ≤ i ∧ i < 102 ∨ 107 ≤ i) → ∀ k, ¬ (i = 0 ∧ k = 2) → (zimg (zsI (zcpy x 1 2) 0 2 (nI 1)) 64).1 i k = x.1 i k := fun i hi k hk => by
    have e1 : (zimg (zsI (zcpy x 1 2) 0 2 (nI 1)) 64).1 i = (zsI (zcpy x 1 2) 0 2 (nI 1)).1 i := by
      unfold zimg zimg1 zimg0 zr4
      rw [zsrI_n (by omega), zsrI_n (by omega), zsrI_n (by omega), zsrI_n (by omega), zsrI_n (by omega), zsI_n (by omega), zsI_n (by omega), zsI_n (by omega), zsI_n (by omega)]
    have e2 : (zcpy x 1 2).1 i = x.1 i := by
      unfold zcpy zcpR
      rw [zsI_n (by omega)]
      show (zsI (zsI _ 2 3 (x.1 1 3)) 2 4 (x.1 1 4)).1 i = _
      rw [zsI_n (by omega), zsI_n (by omega)]
      show zup (zup x.1 7 _) 8 _ i = _
      rw [zup_n (by omega), zup_n (by omega)]
    rw [e1]
    by_cases c : i = 0
    · subst c
      rw [zsI_u]
      show (if k = 2 then _ else (zcpy x 1 2).1 0 k) = _
      rw [if_neg (fun z => hk ⟨rfl, z⟩), e2]
    · rw [zsI_n c, e2]
  have hr : ∀ i, (9 ≤ i ∧ i < 77 ∨ 78 ≤ i ∧ i < 102 ∨ 107 ≤ i) → (zimg (zsI (zcpy x 1 2) 0 2 (nI 1)) 64).1 i = x.1 i := fun i hi => funext fun k => hx i (by omega) k (by omega)
  refine zRl.mk (ok := H.ok) (pp := ?_) (sc := H.sc) (mo := H.mo) (he := H.he) (kp := ?_) (rq := ?_) (rz := ?_) (tc := H.tc) (ta := ?_) (pt := ?_) (rf := H.rf) (rt := ?_) (b5 := ?_) (b6 := ?_)
  · exact zPp_c (x := x) rfl rfl rfl (fun i hi => hr i (by omega)) (fun i i1 i2 => hr i (by omega)) H.pp
  · refine Or.inr ⟨show ¬ nI 1 = 0 from by decide, show ¬ nI 1 = 0 from by decide, N, Nat.le_refl N, H.pp.1, H.pp.2.1, fun q hq => if_pos (by omega), ?_, ?_, ?_⟩
    · exact zSc_c H.sc (fun k hk => zput_l hk) (fun k hk => zput_l hk) (fun k hk => zput_l hk) (fun k hk => zput_l hk) (fun k hk => zput_l hk) (fun k hk => zput_l hk)
    · exact zMo_c H.mo (fun k hk => zput_l hk)
    · exact H.he
  · exact zRq_c (x := x) rfl rfl (fun i i1 i2 _ => hr i (by omega)) (fun i i1 i2 => hr i (by omega)) H.rq
  · exact zRz_c (x := x) (fun i i1 i2 _ => hr i (by omega)) rfl (fun k hk => by rcases hk with rfl | rfl | rfl <;> rfl) H.rz
  · exact zTa_c (x := x) H.now (fun i hi => hr i (by omega)) (fun i i1 i2 _ => hr i (by omega)) rfl rfl (fun i i1 i2 => hr i (by omega)) rfl rfl H.ta
  · exact ⟨zPw_cp (fr := 1) (to := 2) H.pt.1, H.pt.2.1, zPok_c H.pt.2.1⟩
  · have := H.rt
    refine ⟨this.1, this.2.1, fun t ht => ?_⟩
    obtain ⟨g1, g2, g3, g4, g5⟩ := this.2.2 t ht
    refine ⟨g1, g2, g3, g4, fun j hj => ?_⟩
    have e : (zimg (zsI (zcpy x 1 2) 0 2 (nI 1)) 64).2.1 (20 + t) = x.2.1 (20 + t) := by
      show zup x.2.1 2 _ (20 + t) = _
      exact zup_n (by omega)
    rw [e]
    exact g5 j hj
  · exact fun k hk => by
      show zputn (x.1 86) (x.1 105) 8 k = 0 ∨ zputn (x.1 86) (x.1 105) 8 k = 1
      rw [zput_l hk]
      exact H.sc.2.2.2.2.2 k hk
  · exact fun k hk => by
      show zputn (x.1 87) (x.1 106) 64 k = 0 ∨ zputn (x.1 87) (x.1 106) 64 k = 1
      rw [zput_l hk]
      exact H.mo.2.1 k hk
theorem e_undo {G : zG} {x u1 u2 : zX} {N R L : Nat} {r1 r2 : Int32} (H : zRl G x N R L)
    (h1 : (x.1 0 2 = 0 ∧ x = u1 ∧ -3 = r1) ∨ (¬ x.1 0 2 = 0 ∧ zsI (zcpy x 2 1) 0 9 (nI 0) = u1 ∧ x.1 2 3 = r1))
    (h2 : (u1.1 77 36 = 0 ∧ u1 = u2 ∧ -3 = r2) ∨ (¬ u1.1 77 36 = 0 ∧ zund u1 64 = u2 ∧ u1.1 77 38 = r2)) : r1 = r2 ∧ ∃ N R L, zRl G u2 N R L := by
  have h8 := H.sc.1
  rcases H.kp with ⟨k1, k2⟩ | ⟨k1, k2, K, kK, e1, e2, hk, sc, mo, he⟩
  · rcases h1 with ⟨a1, rfl, rfl⟩ | ⟨a1, -⟩
    · rcases h2 with ⟨a2, rfl, rfl⟩ | ⟨a2, -⟩
      · exact ⟨rfl, N, R, L, H⟩
      · exact absurd k2 a2
    · exact absurd k1 a1
  · rcases h1 with ⟨a1, -⟩ | ⟨a1, rfl, rfl⟩
    · exact absurd a1 k1
    rcases h2 with ⟨a2, -⟩ | ⟨a2, rfl, rfl⟩
    · exact absurd a2 k2
    refine ⟨e1.trans e2.symm, K, R, L, ?_⟩
    have hx : ∀ i, (i = 0 ∨ 6 ≤ i ∧ i < 77 ∨ 78 ≤ i ∧ i < 83 ∨ 88 ≤ i) → ∀ k, ¬ (i = 0 ∧ k = 9) → (zund (zsI (zcpy x 2 1) 0 9 (nI 0)) 64).1 i k = x.1 i k := fun i hi k hk => by
      have e1 : (zund (zsI (zcpy x 2 1) 0 9 (nI 0)) 64).1 i = (zsI (zcpy x 2 1) 0 9 (nI 0)).1 i := by
        unfold zund zund1 zund0 zr4
        rw [zsrI_n (by omega), zsrI_n (by omega), zsrI_n (by omega), zsrI_n (by omega), zsrI_n (by omega), zsI_n (by omega), zsI_n (by omega), zsI_n (by omega)]
      have e2 : (zcpy x 2 1).1 i = x.1 i := by
        unfold zcpy zcpR
        rw [zsI_n (by omega)]
        show (zsI (zsI _ 1 3 (x.1 2 3)) 1 4 (x.1 2 4)).1 i = _
        rw [zsI_n (by omega), zsI_n (by omega)]
        show zup (zup x.1 4 _) 5 _ i = _
        rw [zup_n (by omega), zup_n (by omega)]
      rw [e1]
      by_cases c : i = 0
      · subst c
        rw [zsI_u]
        show (if k = 9 then _ else (zcpy x 2 1).1 0 k) = _
        rw [if_neg (fun z => hk ⟨rfl, z⟩), e2]
      · rw [zsI_n c, e2]
    have hr : ∀ i, (6 ≤ i ∧ i < 77 ∨ 78 ≤ i ∧ i < 83 ∨ 88 ≤ i) → (zund (zsI (zcpy x 2 1) 0 9 (nI 0)) 64).1 i = x.1 i := fun i hi => funext fun k => hx i (by omega) k (by omega)
    have hq : ∀ q, q < K → (zund (zsI (zcpy x 2 1) 0 9 (nI 0)) 64).2.2 3 q = x.2.2 3 q := fun q hq => by
      show zputq (x.2.2 6) (x.2.2 3) 8 q = _
      rw [show zputq (x.2.2 6) (x.2.2 3) 8 q = x.2.2 6 q from if_pos (by omega)]
      exact hk q hq
    refine zRl.mk (ok := H.ok) (pp := ?_) (sc := ?_) (mo := ?_) (he := he) (kp := ?_) (rq := ?_) (rz := ?_) (tc := H.tc) (ta := fun z => absurd rfl z) (pt := ?_) (rf := H.rf) (rt := ?_) (b5 := H.b5) (b6 := H.b6)
    · refine ⟨e1, e2, fun q q1 => ?_⟩
      have ez : zob (zund (zsI (zcpy x 2 1) 0 9 (nI 0)) 64) q = zob x q := by
        unfold zob
        rw [hq q q1]
      have hp := H.pp.2.2 q (by omega)
      rw [ez, hq q q1, hr _ (by omega), hr 78 (by omega), hr 79 (by omega), hr 80 (by omega), hr 81 (by omega), hr 82 (by omega)]
      obtain ⟨c3, c4, c5, c6, c7, c8, c9⟩ := hp
      exact ⟨c3, c4, c5, c6, c7, c8, fun i i1 i2 => by rw [hr i (by omega)]; exact c9 i i1 i2⟩
    · exact zSc_c sc (fun k hk => zput_l hk) (fun k hk => zput_l hk) (fun k hk => zput_l hk) (fun k hk => zput_l hk) (fun k hk => zput_l hk) (fun k hk => zput_l hk)
    · exact zMo_c mo (fun k hk => zput_l hk)
    · exact Or.inr ⟨k1, k2, K, Nat.le_refl K, e1, e2, fun q q1 => (hk q q1).trans (hq q q1).symm, sc, mo, he⟩
    · exact zRq_c (x := x) rfl rfl (fun i i1 i2 _ => hr i (by omega)) (fun i i1 i2 => hr i (by omega)) H.rq
    · exact zRz_c (x := x) (fun i i1 i2 _ => hr i (by omega)) rfl (fun k hk => by rcases hk with rfl | rfl | rfl <;> rfl) H.rz
    · exact ⟨zPw_cp (fr := 2) (to := 1) H.pt.1, zPok_c H.pt.2.2, H.pt.2.2⟩
    · have := H.rt
      refine ⟨this.1, this.2.1, fun t ht => ?_⟩
      obtain ⟨g1, g2, g3, g4, g5⟩ := this.2.2 t ht
      refine ⟨g1, g2, g3, g4, fun j hj => ?_⟩
      have e : (zund (zsI (zcpy x 2 1) 0 9 (nI 0)) 64).2.1 (20 + t) = x.2.1 (20 + t) := by
        show zup x.2.1 1 _ (20 + t) = _
        exact zup_n (by omega)
      rw [e]
      exact g5 j hj
theorem zfind_or {S : Nat → Int32} {y : Int32} : ∀ n k, (∀ t, k ≤ t → t < k + n → ¬ S t = y) ∨ ∃ t, k ≤ t ∧ t < k + n ∧ S t = y ∧ zfind S y k n = nI t ∧ ∀ s, k ≤ s → s < t → ¬ S s = y
  | 0, k => Or.inl (fun t h1 h2 => absurd h1 (by omega))
  | n + 1, k => by
    by_cases c : S k = y
    · exact Or.inr ⟨k, by omega, by omega, c, zfind_y c (by omega), fun s h1 h2 => absurd h1 (by omega)⟩
    · rcases zfind_or (S := S) (y := y) n (k + 1) with h | ⟨t, h1, h2, h3, h4, h5⟩
      · exact Or.inl (fun t h1 h2 => by
          by_cases e : t = k
          · rw [e]
            exact c
          · exact h t (by omega) (by omega))
      · exact Or.inr ⟨t, by omega, by omega, h3, by rw [zfind_n c (by omega)]; exact h4, fun s h6 h7 => by
          by_cases e : s = k
          · rw [e]
            exact c
          · exact h5 s (by omega) h7⟩
theorem zsum_k {c : Int32} : ∀ n : Nat, zsum (fun _ => nI 1) n = nI n
  | 0 => rfl
  | n + 1 => by rw [zsum, zsum_k (c := c) n, nI_add]
/-- where fewer than eight sit, a seat is free -/
theorem zRl.free {G : zG} {x : zX} {N R L : Nat} (H : zRl G x N R L) (hN : N < 8) : ∃ t, t < 8 ∧ zfind (x.1 4) (-1) 0 8 = nI t ∧ x.1 4 t = -1 ∧ x.1 85 t = -1 ∧ ∀ s, s < t → ¬ x.1 85 s < 0 := by
  rcases zfind_or (S := x.1 4) (y := -1) 8 0 with h | ⟨t, h1, h2, h3, h4, h5⟩
  · have e := zsum_seat (f := fun t => if x.1 4 t = -1 then 0 else nI 1) (g := fun _ => nI 1) H.sc.1 (fun t ht => (H.sc.2.1 t ht).2) (st := zst x) (fun q hq => ⟨(H.st hq).1, (H.st hq).2.2.2.2⟩) (fun t _ e => if_pos e) (fun q hq => if_neg (fun z => h _ (by omega) (by have := (H.st hq).1; omega) z))
    rw [zsum_c (g := fun _ => nI 1) (fun k hk => if_neg (h k (by omega) (by omega))), zsum_k (c := 0), zsum_k (c := 0)] at e
    have := (zqE (by omega) (by omega)).mp e
    omega
  · refine ⟨t, by omega, h4, h3, by rw [← (H.sc.2.1 t (by omega)).1]; exact h3, fun s hs z => ?_⟩
    obtain ⟨e1, e2⟩ := H.sc.2.1 s (by omega)
    rw [← e1] at z
    rcases e2 with e2 | ⟨q, hq, e2⟩
    · exact h5 s (by omega) hs e2
    · rw [e2] at z
      exact absurd z (nI_pos (by omega))
theorem zkc_t : ∀ i : Fin 7, zkn (zkc (nI i.val)) = nI i.val := by decide +kernel
theorem e_pupil {G G1 : zG} {x u1 u2 : zX} {N R L t1 : Nat} {a v tk kn tg : Int32} {r1 r2 : Int32} (H : zRl G x N R L) (ht1 : N < 8 → t1 < 8 ∧ zfind (x.1 4) (-1) 0 8 = nI t1 ∧ x.1 4 t1 = -1)
    (h1 : (¬ zpg1 a ∧ (G, x) = (G1, u1) ∧ -1 = r1) ∨ (zpg1 a ∧ ¬ zpg2 v tk kn tg ∧ (G, x) = (G1, u1) ∧ -2 = r1) ∨ (zpg1 a ∧ zpg2 v tk kn tg ∧ N = 8 ∧ (G, x) = (G1, u1) ∧ -4 = r1) ∨ (zpg1 a ∧ zpg2 v tk kn tg ∧ N < 8 ∧ (∃ q, (zGx G q (zkc a), zppC x (zn G) N t1 v tk kn tg) = (G1, u1)) ∧ nI N = r1))
    (h2 : (¬ zpg1 a ∧ u1 = u2 ∧ -1 = r2) ∨ (zpg1 a ∧ ¬ zpg2 v tk kn tg ∧ u1 = u2 ∧ -2 = r2) ∨ (zpg1 a ∧ zpg2 v tk kn tg ∧ N = 8 ∧ u1 = u2 ∧ -4 = r2) ∨ (zpg1 a ∧ zpg2 v tk kn tg ∧ N < 8 ∧ zppR u1 N t1 a v tk kn tg = u2 ∧ nI N = r2)) : r1 = r2 ∧ ∃ N R L, zRl G1 u2 N R L := by
  have h8 := H.sc.1
  rcases h1 with ⟨a1, he, rfl⟩ | ⟨a1, b1, he, rfl⟩ | ⟨a1, b1, c1, he, rfl⟩ | ⟨a1, b1, c1, ⟨q, he⟩, rfl⟩
  · obtain ⟨rfl, rfl⟩ := Prod.mk.inj he
    rcases h2 with ⟨a2, rfl, rfl⟩ | ⟨a2, -⟩ | ⟨a2, -⟩ | ⟨a2, -⟩
    · exact ⟨rfl, N, R, L, H⟩
    · exact absurd a2 a1
    · exact absurd a2 a1
    · exact absurd a2 a1
  · obtain ⟨rfl, rfl⟩ := Prod.mk.inj he
    rcases h2 with ⟨a2, -⟩ | ⟨a2, b2, rfl, rfl⟩ | ⟨a2, b2, -⟩ | ⟨a2, b2, -⟩
    · exact absurd a1 a2
    · exact ⟨rfl, N, R, L, H⟩
    · exact absurd b2 b1
    · exact absurd b2 b1
  · obtain ⟨rfl, rfl⟩ := Prod.mk.inj he
    rcases h2 with ⟨a2, -⟩ | ⟨a2, b2, -⟩ | ⟨a2, b2, c2, rfl, rfl⟩ | ⟨a2, b2, c2, -⟩
    · exact absurd a1 a2
    · exact absurd b1 b2
    · exact ⟨rfl, N, R, L, H⟩
    · omega
  · obtain ⟨rfl, rfl⟩ := Prod.mk.inj he
    rcases h2 with ⟨a2, -⟩ | ⟨a2, b2, -⟩ | ⟨a2, b2, c2, -⟩ | ⟨a2, b2, c2, rfl, rfl⟩
    · exact absurd a1 a2
    · exact absurd b1 b2
    · omega
    refine ⟨rfl, N + 1, R, L, ?_⟩
    obtain ⟨t8, tf, tS⟩ := ht1 c1
    have hz := H.ok.1
    have hx : ∀ i, ¬ i = 0 → ¬ i = 1 → ¬ i = 4 → ¬ i = 5 → ¬ i = 77 → ¬ (78 ≤ i ∧ i ≤ 86) → ¬ i = zn G → (zppR (zppC x (zn G) N t1 v tk kn tg) N t1 a v tk kn tg).1 i = x.1 i := fun i i0 i1 i4 i5 i7 i8 ig => by
      unfold zppR zppC zadd
      rw [zsI_n i7, zsI_n (by omega), zsI_n (by omega), zsI_n (by omega), zsI_n (by omega), zsI_n (by omega), zsI_n (by omega), zsI_n (by omega), zsI_n (by omega), zsI_n (by omega), zsI_n i0, zsI_n i1, zsI_n i4, zsI_n i5]
      exact zMade_n ig
    have hl : ∀ i, ¬ i = zn G → (zMade x (zn G) (nI N) v tk kn tg).1 i = x.1 i := fun i hi => zMade_n hi
    have hr : ∀ i, (78 ≤ i ∧ i ≤ 86 ∨ i = 4 ∨ i = 5) → ∀ k, ¬ k = N → ¬ (i = 4 ∨ i = 85) → (zppR (zppC x (zn G) N t1 v tk kn tg) N t1 a v tk kn tg).1 i k = x.1 i k := fun i hi k hk hn => by
      have e := congrFun (hl i (by omega)) k
      rcases (show i = 78 ∨ i = 79 ∨ i = 80 ∨ i = 81 ∨ i = 82 ∨ i = 83 ∨ i = 84 ∨ i = 86 ∨ i = 5 by omega) with rfl | rfl | rfl | rfl | rfl | rfl | rfl | rfl | rfl <;> exact (if_neg hk).trans e
    have hw : ∀ k, (zppR (zppC x (zn G) N t1 v tk kn tg) N t1 a v tk kn tg).2.2 3 k = if k = N then some (zn G) else x.2.2 3 k := fun k => rfl
    have hob : ∀ k, k < N → zob (zppR (zppC x (zn G) N t1 v tk kn tg) N t1 a v tk kn tg) k = zob x k := fun k hk => by
      unfold zob
      rw [hw, if_neg (by omega)]
    have hobN : zob (zppR (zppC x (zn G) N t1 v tk kn tg) N t1 a v tk kn tg) N = zn G := by
      unfold zob
      rw [hw, if_pos rfl]
      rfl
    obtain ⟨ja, hja, rfl⟩ := z_nat a1.1
    have ja7 : ja < 7 := by
      have := a1.2
      rw [zqL (by decide) hja] at this
      omega
    have hS : ∀ k, (zppR (zppC x (zn G) N t1 v tk kn tg) N t1 (nI ja) v tk kn tg).1 4 k = if k = t1 then nI N else x.1 4 k := fun k => by
      have e := congrFun (hl 4 (by omega)) k
      show (if k = t1 then nI N else (zMade x (zn G) (nI N) v tk kn tg).1 4 k) = _
      rw [e]
    have hS2 : ∀ k, (zppR (zppC x (zn G) N t1 v tk kn tg) N t1 (nI ja) v tk kn tg).1 85 k = if k = t1 then nI N else x.1 85 k := fun k => by
      have e := congrFun (hl 85 (by omega)) k
      show (if k = t1 then nI N else (zMade x (zn G) (nI N) v tk kn tg).1 85 k) = _
      rw [e]
    have hB : (zppR (zppC x (zn G) N t1 v tk kn tg) N t1 (nI ja) v tk kn tg).1 1 4 = x.1 1 4 := congrFun (hl 1 (by omega)) 4
    have hH : (zppR (zppC x (zn G) N t1 v tk kn tg) N t1 (nI ja) v tk kn tg).1 1 6 = x.1 1 6 := congrFun (hl 1 (by omega)) 6
    have h0 : ∀ k, ¬ k = 9 → (zppR (zppC x (zn G) N t1 v tk kn tg) N t1 (nI ja) v tk kn tg).1 0 k = x.1 0 k := fun k hk => (if_neg hk).trans (congrFun (hl 0 (by omega)) k)
    have h77 : ∀ k, ¬ k = 0 → (zppR (zppC x (zn G) N t1 v tk kn tg) N t1 (nI ja) v tk kn tg).1 77 k = x.1 77 k := fun k hk => (if_neg hk).trans (congrFun (hl 77 (by omega)) k)
    generalize hU : zppR (zppC x (zn G) N t1 v tk kn tg) N t1 (nI ja) v tk kn tg = u at *
    have e21 : u.2.1 = x.2.1 := by rw [← hU]; rfl
    have e22 : ∀ i, ¬ i = 3 → u.2.2 i = x.2.2 i := fun i hi => by rw [← hU]; exact zup_n hi
    have eN : ∀ i, u.1 i N = (zppR (zppC x (zn G) N t1 v tk kn tg) N t1 (nI ja) v tk kn tg).1 i N := fun i => by rw [hU]
    refine zRl.mk (ok := zGx_ok H.ok (zkc_ok _)) (pp := ?_) (sc := ?_) (mo := ?_) (he := ?_) (kp := ?_) (rq := ?_) (rz := ?_) (tc := ?_) (ta := fun z => absurd (by rw [← hU]; rfl) z) (pt := ?_) (rf := ?_) (rt := ?_) (b5 := ?_) (b6 := ?_)
    · refine ⟨by rw [← hU]; rfl, by rw [← hU]; rfl, fun q0 hq0 => ?_⟩
      by_cases c : q0 = N
      · subst c
        have em : u.1 (zn G) = (zMade x (zn G) (nI q0) v tk kn tg).1 (zn G) := by
          rw [← hU]
          unfold zppR zppC zadd
          rw [zsI_n (by omega), zsI_n (by omega), zsI_n (by omega), zsI_n (by omega), zsI_n (by omega), zsI_n (by omega), zsI_n (by omega), zsI_n (by omega), zsI_n (by omega), zsI_n (by omega), zsI_n (by omega), zsI_n (by omega), zsI_n (by omega), zsI_n (by omega)]
          rfl
        have em2 : (zMade x (zn G) (nI q0) v tk kn tg).1 (zn G) = upd (upd (upd (upd (upd (fun _ => 0) 0 (nI q0)) 1 v) 2 tk) 3 kn) 4 tg := by
          unfold zMade zpN zp0
          rw [zsI_u, zsI_u, zsI_u, zsI_u, zsI_u]
          show upd (upd (upd (upd (upd (zup x.1 (zn G) _ (zn G)) _ _) _ _) _ _) _ _) _ _ = _
          rw [zup_s]
        rw [hobN, em, em2, zGx_k, hw, if_pos rfl, eN 78, eN 79, eN 80, eN 81, eN 82]
        obtain ⟨⟨v1, v2⟩, ⟨tk1, tk2⟩, ⟨kn1, kn2⟩, -⟩ := b1
        obtain ⟨jk, hjk, rfl⟩ := z_nat kn1
        rw [zqL (by decide) hjk] at kn2
        obtain ⟨jv, hjv, rfl⟩ := z_nat v1
        rw [zqL (by decide) hjv] at v2
        obtain ⟨jt, hjt, rfl⟩ := z_nat tk1
        rw [zqL (by decide) hjt] at tk2
        refine ⟨⟨rfl, by omega, Nat.lt_succ_self _, rfl⟩, (zkc_t ⟨ja, ja7⟩).trans ?_, ?_, ?_, ?_, ?_, fun i i1 i2 => ?_⟩
        · exact (if_pos rfl).symm
        · exact (if_pos rfl).symm
        · exact (if_pos rfl).symm
        · exact (if_pos rfl).symm
        · exact (if_pos rfl).symm
        · rw [eN]
          rcases (show i = 79 ∨ i = 80 ∨ i = 81 by omega) with rfl | rfl | rfl
          · exact ⟨jv, by omega, if_pos rfl⟩
          · exact ⟨jt, by omega, if_pos rfl⟩
          · exact ⟨jk, by omega, if_pos rfl⟩
      · have hq : q0 < N := by omega
        obtain ⟨⟨p1, p2, p3, p4⟩, p5⟩ := H.pp.2.2 q0 hq
        have eo : u.1 (zob x q0) = x.1 (zob x q0) := hx _ (by omega) (by omega) (by omega) (by omega) (by omega) (by omega) (by omega)
        rw [hob q0 hq, eo, hw, if_neg c, zGx_kn (by omega), hr 78 (by omega) q0 c (by omega), hr 79 (by omega) q0 c (by omega), hr 80 (by omega) q0 c (by omega), hr 81 (by omega) q0 c (by omega), hr 82 (by omega) q0 c (by omega)]
        obtain ⟨c4, c5, c6, c7, c8, c9⟩ := p5
        exact ⟨⟨p1, p2, Nat.lt_succ_of_lt p3, p4⟩, c4, c5, c6, c7, c8, fun i i1 i2 => by rw [hr i (by omega) q0 c (by omega)]; exact c9 i i1 i2⟩
    · obtain ⟨d1, d2, d3, d4, ⟨m, m1, m2, m3⟩, d6⟩ := H.sc
      rw [hB]
      refine ⟨by omega, fun t ht => ?_, fun q0 hq0 => ?_, fun q0 hq0 => ?_, ⟨m, m1, m2, fun q0 hq0 => ?_⟩, fun q0 hq0 => ?_⟩
      · rw [hS, hS2]
        by_cases c : t = t1
        · rw [if_pos c, if_pos c]
          exact ⟨rfl, Or.inr ⟨N, by omega, rfl⟩⟩
        · rw [if_neg c, if_neg c]
          exact ⟨(d2 t ht).1, (d2 t ht).2.elim Or.inl (fun ⟨q0, z1, z2⟩ => Or.inr ⟨q0, by omega, z2⟩)⟩
      · by_cases c : q0 = N
        · subst c
          refine ⟨t1, t8, by rw [eN]; exact if_pos rfl, fun t2 ht2 => ?_⟩
          rw [hS]
          by_cases c2 : t2 = t1
          · rw [if_pos c2]
            exact ⟨fun _ => c2, fun _ => rfl⟩
          · rw [if_neg c2]
            refine ⟨fun z => ?_, fun z => absurd z c2⟩
            rcases (d2 t2 ht2).2 with z2 | ⟨q2, z1, z2⟩
            · rw [z2] at z
              exact absurd (show nI q0 < 0 from by rw [← z]; decide) (nI_pos (by omega))
            · rw [z2] at z
              have := (zqE (by omega) (by omega)).mp z
              omega
        · obtain ⟨t, z1, z2, z3⟩ := d3 q0 (by omega)
          refine ⟨t, z1, by rw [hr 84 (by omega) q0 c (by omega)]; exact z2, fun t2 ht2 => ?_⟩
          rw [hS]
          by_cases c2 : t2 = t1
          · rw [if_pos c2]
            refine ⟨fun z => absurd ((zqE (by omega) (by omega)).mp z).symm c, fun z => ?_⟩
            have := (z3 t2 ht2).mpr z
            rw [c2, tS] at this
            exact absurd (show nI q0 < 0 from by rw [← this]; decide) (nI_pos (by omega))
          · rw [if_neg c2]
            exact z3 t2 ht2
      · by_cases c : q0 = N
        · subst c
          have e5 : u.1 5 q0 = -1 := by rw [eN]; exact if_pos rfl
          have e8 : u.1 83 q0 = -1 := by rw [eN]; exact if_pos rfl
          rw [e5, e8]
          exact ⟨rfl, Or.inl rfl⟩
        · rw [hr 5 (by omega) q0 c (by omega), hr 83 (by omega) q0 c (by omega)]
          obtain ⟨z1, z2⟩ := d4 q0 (by omega)
          exact ⟨z1, z2.elim Or.inl (fun ⟨o, z3, z4⟩ => Or.inr ⟨o, by omega, z4⟩)⟩
      · rw [m3 q0 hq0]
        by_cases c : q0 = N
        · subst c
          have e8 : u.1 86 q0 = 0 := by rw [eN]; exact if_pos rfl
          rw [e8]
          exact ⟨fun z => absurd z.1 (by omega), fun z => absurd rfl z.2⟩
        · rw [hr 86 (by omega) q0 c (by omega)]
          exact ⟨fun z => ⟨by omega, z.2⟩, fun z => ⟨by omega, z.2⟩⟩
      · by_cases c : q0 = N
        · subst c
          exact Or.inl (by rw [eN]; exact if_pos rfl)
        · rw [hr 86 (by omega) q0 c (by omega)]
          exact d6 q0 hq0
    · rw [e21, hx 87 (by omega) (by omega) (by omega) (by omega) (by omega) (by omega) (by omega), h77 1 (by omega)]
      exact ⟨fun k hk => ⟨(H.mo.1 k hk).1, fun z => by have := (H.mo.1 k hk).2 z; omega⟩, H.mo.2⟩
    · rw [hH, h77 13 (by omega)]
      exact H.he
    · have hk := H.kp
      unfold zKp at hk ⊢
      rw [h0 2 (by omega), h77 36 (by omega), h77 37 (by omega), h77 38 (by omega), h77 39 (by omega), e21, e22 6 (by omega), hx 2 (by omega) (by omega) (by omega) (by omega) (by omega) (by omega) (by omega), hx 7 (by omega) (by omega) (by omega) (by omega) (by omega) (by omega) (by omega), hx 8 (by omega) (by omega) (by omega) (by omega) (by omega) (by omega) (by omega), hx 102 (by omega) (by omega) (by omega) (by omega) (by omega) (by omega) (by omega), hx 103 (by omega) (by omega) (by omega) (by omega) (by omega) (by omega) (by omega), hx 104 (by omega) (by omega) (by omega) (by omega) (by omega) (by omega) (by omega), hx 105 (by omega) (by omega) (by omega) (by omega) (by omega) (by omega) (by omega), hx 106 (by omega) (by omega) (by omega) (by omega) (by omega) (by omega) (by omega)]
      refine hk.elim Or.inl (fun ⟨z1, z2, K, z3, z4, z5, z6, z7⟩ => Or.inr ⟨z1, z2, K, by omega, z4, z5, fun q0 hq0 => ?_, z7⟩)
      rw [hw, if_neg (by omega)]
      exact z6 q0 hq0
    · exact zRq_c (x := x) (h0 7 (by omega)) (h77 12 (by omega)) (fun i i1 i2 _ => hx i (by omega) (by omega) (by omega) (by omega) (by omega) (by omega) (by omega)) (fun i i1 i2 => hx i (by omega) (by omega) (by omega) (by omega) (by omega) (by omega) (by omega)) H.rq
    · exact zRz_c (x := x) (fun i i1 i2 _ => hx i (by omega) (by omega) (by omega) (by omega) (by omega) (by omega) (by omega)) (hx 96 (by omega) (by omega) (by omega) (by omega) (by omega) (by omega) (by omega)) (fun k hk => h77 k (by omega)) H.rz
    · have := H.tc
      unfold zTc at this ⊢
      rw [hx 17 (by omega) (by omega) (by omega) (by omega) (by omega) (by omega) (by omega), hx 18 (by omega) (by omega) (by omega) (by omega) (by omega) (by omega) (by omega), hx 107 (by omega) (by omega) (by omega) (by omega) (by omega) (by omega) (by omega), h77 45 (by omega)]
      exact this
    · refine ⟨fun i j k hk => ?_, fun k hk o ho => ?_, fun k hk o ho => ?_⟩
      · show k < zn G + 1
        by_cases c : i = 3
        · subst c
          rw [hw] at hk
          by_cases c2 : j = N
          · rw [if_pos c2] at hk
            have := Option.some.inj hk
            omega
          · rw [if_neg c2] at hk
            exact Nat.lt_succ_of_lt (H.pt.1 _ _ _ hk)
        · rw [e22 i c] at hk
          exact Nat.lt_succ_of_lt (H.pt.1 _ _ _ hk)
      · rw [hw] at ho
        by_cases c2 : k = N
        · rw [if_pos c2] at ho
          have := Option.some.inj ho
          subst this
          exact ⟨hz, Nat.lt_succ_self _⟩
        · rw [if_neg c2] at ho
          have := H.pt.2.1 k hk o ho
          exact ⟨this.1, Nat.lt_succ_of_lt this.2⟩
      · rw [e22 6 (by omega)] at ho
        have := H.pt.2.2 k hk o ho
        exact ⟨this.1, Nat.lt_succ_of_lt this.2⟩
    · have := H.rf
      unfold zRf at this ⊢
      rw [h0 4 (by omega), h77 14 (by omega), hx 9 (by omega) (by omega) (by omega) (by omega) (by omega) (by omega) (by omega), hx 88 (by omega) (by omega) (by omega) (by omega) (by omega) (by omega) (by omega)]
      exact this
    · have := H.rt
      unfold zRt zTp zTpR zsz zszR at this ⊢
      rw [e21, hx 26 (by omega) (by omega) (by omega) (by omega) (by omega) (by omega) (by omega), hx 27 (by omega) (by omega) (by omega) (by omega) (by omega) (by omega) (by omega), hx 108 (by omega) (by omega) (by omega) (by omega) (by omega) (by omega) (by omega), hx 109 (by omega) (by omega) (by omega) (by omega) (by omega) (by omega) (by omega)]
      exact this
    · rw [hx 105 (by omega) (by omega) (by omega) (by omega) (by omega) (by omega) (by omega)]
      exact H.b5
    · rw [hx 106 (by omega) (by omega) (by omega) (by omega) (by omega) (by omega) (by omega)]
      exact H.b6
