/-! WHO SITS WHERE, WHO NAMES WHOM, WHO MUST SIT IN FRONT: what changes them -/
theorem zRl.fs {G : zG} {x u : zX} {N R L : Nat} (H : zRl G x N R L) (hA : ∀ i, ¬ i = 0 → ¬ i = 1 → ¬ i = 4 → ¬ i = 5 → ¬ (83 ≤ i ∧ i ≤ 86) → u.1 i = x.1 i) (h0 : ∀ k, ¬ k = 9 → u.1 0 k = x.1 0 k) (h1 : ∀ k, ¬ k = 4 → u.1 1 k = x.1 1 k) (h2 : u.2 = x.2) (sc : zSc N (u.1 4) (u.1 5) (u.1 1 4) (u.1 84) (u.1 85) (u.1 83) (u.1 86)) (ta : zTa G u N) : zRl G u N R L := by
  have hR : ∀ i, (2 ≤ i ∧ i ≤ 3 ∨ 6 ≤ i ∧ i ≤ 82 ∨ 87 ≤ i) → u.1 i = x.1 i := fun i hi => hA i (by omega) (by omega) (by omega) (by omega) (by omega)
  refine zRl.mk (ok := H.ok) (pp := ?_) (sc := sc) (mo := ?_) (he := ?_) (kp := ?_) (rq := ?_) (rz := ?_) (tc := ?_) (ta := ta) (pt := ?_) (rf := ?_) (rt := ?_) (b5 := ?_) (b6 := ?_)
  · exact zPp_c (h1 3 (by omega)) (congrFun (hR 77 (by omega)) 0) (by rw [h2]) (fun i hi => hR i (by omega)) (fun i h1 h2 => hR i (by omega)) H.pp
  · rw [h2, hR 87 (by omega), hR 77 (by omega)]
    exact H.mo
  · rw [h1 6 (by omega), hR 77 (by omega)]
    exact H.he
  · have := H.kp
    unfold zKp at this ⊢
    rw [h0 2 (by omega), hR 77 (by omega), h2, hR 2 (by omega), hR 7 (by omega), hR 8 (by omega), hR 102 (by omega), hR 103 (by omega), hR 104 (by omega), hR 105 (by omega), hR 106 (by omega)]
    exact this
  · exact zRq_c (h0 7 (by omega)) (congrFun (hR 77 (by omega)) 12) (fun i _ _ _ => hR i (by omega)) (fun i h1 h2 => hR i (by omega)) H.rq
  · exact zRz_c (fun i _ _ _ => hR i (by omega)) (hR 96 (by omega)) (fun k hk => congrFun (hR 77 (by omega)) k) H.rz
  · have := H.tc
    unfold zTc at this ⊢
    rw [hR 17 (by omega), hR 18 (by omega), hR 107 (by omega), hR 77 (by omega)]
    exact this
  · have := H.pt
    unfold zPt zPw at this ⊢
    rw [h2]
    exact this
  · have := H.rf
    unfold zRf at this ⊢
    rw [h0 4 (by omega), hR 77 (by omega), hR 9 (by omega), hR 88 (by omega)]
    exact this
  · have := H.rt
    unfold zRt zTp zTpR zsz zszR at this ⊢
    rw [h2, hR 26 (by omega), hR 27 (by omega), hR 108 (by omega), hR 109 (by omega)]
    exact this
  · rw [hR 105 (by omega)]
    exact H.b5
  · rw [hR 106 (by omega)]
    exact H.b6
theorem zfr_t : ∀ m : Fin 256, ∀ k : Fin 8, (nI m.val &&& ((nI 1 <<< (nI k.val &&& 31)) ^^^ (-1))) = nI (m.val &&& (255 - 2 ^ k.val)) := by decide +kernel
theorem zfr_u : ∀ k j : Fin 8, (255 - 2 ^ k.val).testBit j.val = decide (¬ j = k) := by decide +kernel
theorem zRl.fb {G : zG} {x : zX} {N R L k : Nat} {b : Int32} (H : zRl G x N R L) (hk : k < N) (hb : b = 0 ∨ b = 1) : zSc N (x.1 4) (x.1 5) (if b = 0 then (x.1 1 4) &&& ((nI 1 <<< (nI k &&& 31)) ^^^ (-1)) else (x.1 1 4) ||| (nI 1 <<< (nI k &&& 31))) (x.1 84) (x.1 85) (x.1 83) (upd (x.1 86) k b) := by
  obtain ⟨a1, a2, a3, a4, ⟨m, m1, m2, m3⟩, a6⟩ := H.sc
  have hu : ∀ q, upd (x.1 86) k b q = if q = k then b else x.1 86 q := fun _ => rfl
  refine ⟨a1, a2, a3, a4, ?_, fun q hq => ?_⟩
  · rw [m2]
    rcases hb with rfl | rfl
    · rw [if_pos rfl, zfr_t ⟨m, m1⟩ ⟨k, by omega⟩]
      refine ⟨m &&& (255 - 2 ^ k), Nat.lt_of_le_of_lt Nat.and_le_left m1, rfl, fun q hq => ?_⟩
      have e := zfr_u ⟨k, by omega⟩ ⟨q, hq⟩
      dsimp only at e
      rw [Nat.testBit_and, e, hu, Bool.and_eq_true, m3 q hq, decide_eq_true_eq]
      by_cases c : q = k
      · subst c
        rw [if_pos rfl]
        exact ⟨fun z => absurd rfl z.2, fun z => absurd rfl z.2⟩
      · rw [if_neg c]
        exact ⟨fun z => z.1, fun z => ⟨z, fun z2 => c (congrArg Fin.val z2)⟩⟩
    · rw [if_neg (by decide), zp2 (by omega), znI_or]
      refine ⟨m ||| 2 ^ k, Nat.or_lt_two_pow (n := 8) m1 (Nat.pow_lt_pow_right (by decide) (by omega)), rfl, fun q hq => ?_⟩
      rw [Nat.testBit_or, Nat.testBit_two_pow, hu, Bool.or_eq_true, m3 q hq, decide_eq_true_eq]
      by_cases c : q = k
      · subst c
        rw [if_pos rfl]
        exact ⟨fun _ => ⟨hk, by decide⟩, fun _ => Or.inr rfl⟩
      · rw [if_neg c]
        exact ⟨fun z => z.resolve_right (fun z2 => c z2.symm), fun z => Or.inl z⟩
  · rw [hu]
    by_cases c : q = k
    · rw [if_pos c]
      exact hb
    · rw [if_neg c]
      exact a6 q hq
theorem e_front {G : zG} {x u1 u2 : zX} {N R L : Nat} {q b : Int32} {r1 r2 : Int32} (H : zRl G x N R L) (hb : b = 0 ∨ b = 1)
    (h1 : (zin N q ∧ zsI x 1 4 (if b = 0 then (x.1 1 4) &&& ((nI 1 <<< (q &&& 31)) ^^^ (-1)) else (x.1 1 4) ||| (nI 1 <<< (q &&& 31))) = u1 ∧ (if zbit (x.1 1 4) q then nI 1 else nI 0) = r1) ∨ (¬ zin N q ∧ x = u1 ∧ -1 = r1))
    (h2 : (¬ zin N q ∧ u1 = u2 ∧ -1 = r2) ∨ (∃ k, k < N ∧ q = nI k ∧ zsI u1 86 k b = u2 ∧ (if u1.1 86 k = 0 then nI 0 else nI 1) = r2)) : r1 = r2 ∧ ∃ N R L, zRl G u2 N R L := by
  have h8 := H.sc.1
  rcases h1 with ⟨a1, rfl, rfl⟩ | ⟨a1, rfl, rfl⟩
  · obtain ⟨k, hk, rfl⟩ := zin_k h8 a1
    rcases h2 with ⟨a2, -⟩ | ⟨k2, hk2, e2, rfl, rfl⟩
    · exact absurd a1 a2
    · obtain rfl := (zqE (by omega) (by omega)).mp e2
      refine ⟨?_, N, R, L, ?_⟩
      · have hbit := H.sc.bit hk
        show (if zbit (x.1 1 4) (nI k) then nI 1 else nI 0) = (if x.1 86 k = 0 then nI 0 else nI 1)
        by_cases c : x.1 86 k = 0
        · rw [if_pos c, if_neg (fun z => hbit.mp z c)]
        · rw [if_neg c, if_pos (hbit.mpr c)]
      · refine H.fs (fun i i0 i1 i4 i5 i8 => ?_) (fun k hk => rfl) (fun j hj => ?_) rfl (H.fb hk hb) ?_
        · rw [zsI_n (by omega), zsI_n i1]
        · rw [zsI_n (by omega), zsI_u]
          exact if_neg hj
        · exact zTa_c H.now (fun i hi => by rw [zsI_n (by omega), zsI_n (by omega)]) (fun i i1 i2 _ => by rw [zsI_n (by omega), zsI_n (by omega)]) rfl rfl (fun i i1 i2 => by rw [zsI_n (by omega), zsI_n (by omega)]) rfl rfl H.ta
  · rcases h2 with ⟨a2, rfl, rfl⟩ | ⟨k2, hk2, rfl, -⟩
    · exact ⟨rfl, N, R, L, H⟩
    · exact absurd (zinI hk2 (by omega)) a1
theorem e_name {G : zG} {x u1 u2 : zX} {N R L : Nat} {q y : Int32} {r1 r2 : Int32} (H : zRl G x N R L)
    (h1 : (¬ (zin N q ∧ (y = -1 ∨ zin N y)) ∧ x = u1 ∧ -1 = r1) ∨ (zin N q ∧ (y = -1 ∨ zin N y) ∧ q = y ∧ x = u1 ∧ -2 = r1) ∨ (∃ k, k < N ∧ q = nI k ∧ (y = -1 ∨ zin N y) ∧ ¬ q = y ∧ zsI (zsI x 5 k y) 0 9 (nI 0) = u1 ∧ (if 0 ≤ x.1 5 k then x.1 5 k else (-5)) = r1))
    (h2 : (¬ (zin N q ∧ (y = -1 ∨ zin N y)) ∧ u1 = u2 ∧ -1 = r2) ∨ (zin N q ∧ (y = -1 ∨ zin N y) ∧ q = y ∧ u1 = u2 ∧ -2 = r2) ∨ (∃ k, k < N ∧ q = nI k ∧ (y = -1 ∨ zin N y) ∧ ¬ q = y ∧ zsI u1 83 k y = u2 ∧ (if 0 ≤ u1.1 83 k then u1.1 83 k else (-5)) = r2)) : r1 = r2 ∧ ∃ N R L, zRl G u2 N R L := by
  have h8 := H.sc.1
  rcases h1 with ⟨a1, rfl, rfl⟩ | ⟨a1, b1, c1, rfl, rfl⟩ | ⟨k, hk, rfl, b1, c1, rfl, rfl⟩
  · rcases h2 with ⟨a2, rfl, rfl⟩ | ⟨a2, b2, -⟩ | ⟨k2, hk2, rfl, b2, -⟩
    · exact ⟨rfl, N, R, L, H⟩
    · exact absurd ⟨a2, b2⟩ a1
    · exact absurd ⟨zinI hk2 (by omega), b2⟩ a1
  · rcases h2 with ⟨a2, rfl, rfl⟩ | ⟨a2, b2, c2, rfl, rfl⟩ | ⟨k2, hk2, rfl, b2, c2, -⟩
    · exact absurd ⟨a1, b1⟩ a2
    · exact ⟨rfl, N, R, L, H⟩
    · exact absurd c1 c2
  · rcases h2 with ⟨a2, rfl, rfl⟩ | ⟨a2, b2, c2, rfl, rfl⟩ | ⟨k2, hk2, e2, b2, c2, rfl, rfl⟩
    · exact absurd ⟨zinI hk (by omega), b1⟩ a2
    · exact absurd c2 c1
    · obtain rfl := (zqE (by omega) (by omega)).mp e2
      refine ⟨?_, N, R, L, ?_⟩
      · show (if 0 ≤ x.1 5 k then x.1 5 k else (-5)) = (if 0 ≤ x.1 83 k then x.1 83 k else (-5))
        rw [(H.sc.2.2.2.1 k hk).1]
      · refine H.fs (fun i i0 i1 i4 i5 i8 => ?_) (fun j hj => ?_) (fun j hj => rfl) rfl ?_ (fun z => absurd rfl z)
        · rw [zsI_n (by omega), zsI_n i0, zsI_n i5]
        · rw [zsI_n (by omega), zsI_u]
          exact if_neg hj
        · obtain ⟨d1, d2, d3, d4, d5, d6⟩ := H.sc
          refine ⟨d1, d2, d3, fun q hq => ?_, d5, d6⟩
          show (if q = k then y else x.1 5 q) = (if q = k then y else x.1 83 q) ∧ ((if q = k then y else x.1 5 q) = -1 ∨ ∃ o, o < N ∧ (if q = k then y else x.1 5 q) = nI o)
          by_cases c : q = k
          · rw [if_pos c, if_pos c]
            refine ⟨rfl, ?_⟩
            rcases b1 with b1 | b1
            · exact Or.inl b1
            · obtain ⟨o, ho, e⟩ := zin_k h8 b1
              exact Or.inr ⟨o, ho, e⟩
          · rw [if_neg c, if_neg c]
            exact d4 q hq
/-- k moves to t, who sat there to where k was -/
theorem zsit_sc {N k t s : Nat} {S Y se si na fr S2 se2 : Nat → Int32} {bt : Int32} {st : Nat → Nat} (h : zSc N S Y bt se si na fr) (hk : k < N) (ht : t < 8) (hs : s < 8) (hst : ∀ q, q < N → st q < 8 ∧ se q = nI (st q) ∧ ∀ t2, t2 < 8 → (S t2 = nI q ↔ t2 = st q)) (es : s = st k)
    (hS2 : ∀ j, S2 j = if j = t then nI k else if j = s then S t else S j) (hse : ∀ q, q < N → se2 q = if q = k then nI t else if S t = nI q then nI s else se q) : zSc N S2 Y bt se2 S2 na fr := by
  obtain ⟨d1, d2, d3, d4, d5, d6⟩ := h
  refine ⟨d1, fun j hj => ⟨rfl, ?_⟩, fun q hq => ?_, d4, d5, d6⟩
  · rw [hS2]
    by_cases c1 : j = t
    · rw [if_pos c1]
      exact Or.inr ⟨k, hk, rfl⟩
    · rw [if_neg c1]
      by_cases c2 : j = s
      · rw [if_pos c2]
        exact (d2 t ht).2
      · rw [if_neg c2]
        exact (d2 j hj).2
  · obtain ⟨q1, q2, q3⟩ := hst q hq
    obtain ⟨k1, k2, k3⟩ := hst k hk
    rw [hse q hq]
    by_cases c1 : q = k
    · subst c1
      refine ⟨t, ht, if_pos rfl, fun t2 ht2 => ?_⟩
      rw [hS2]
      by_cases e1 : t2 = t
      · rw [if_pos e1]
        exact ⟨fun _ => e1, fun _ => rfl⟩
      · rw [if_neg e1]
        by_cases e2 : t2 = s
        · rw [if_pos e2]
          refine ⟨fun z => ?_, fun z => absurd z e1⟩
          have := (q3 t ht).mp z
          omega
        · rw [if_neg e2]
          refine ⟨fun z => ?_, fun z => absurd z e1⟩
          have := (q3 t2 ht2).mp z
          omega
    · rw [if_neg c1]
      have nk : ¬ nI k = nI q := fun z => c1 ((zqE (by omega) (by omega)).mp z).symm
      by_cases c2 : S t = nI q
      · rw [if_pos c2]
        have et := (q3 t ht).mp c2
        refine ⟨s, hs, rfl, fun t2 ht2 => ?_⟩
        rw [hS2]
        have hne : ¬ t = s := by
          intro z
          have := (k3 t ht).mpr (by omega)
          rw [c2] at this
          exact nk this.symm
        by_cases e1 : t2 = t
        · rw [if_pos e1]
          refine ⟨fun z => absurd z nk, fun z => absurd (e1.symm.trans z) hne⟩
        · rw [if_neg e1]
          by_cases e2 : t2 = s
          · rw [if_pos e2]
            exact ⟨fun _ => e2, fun _ => c2⟩
          · rw [if_neg e2]
            refine ⟨fun z => ?_, fun z => absurd z e2⟩
            have := (q3 t2 ht2).mp z
            omega
      · rw [if_neg c2]
        refine ⟨st q, q1, q2, fun t2 ht2 => ?_⟩
        rw [hS2]
        have n1 : ¬ st q = t := fun z => c2 ((q3 t ht).mpr z.symm)
        have n2 : ¬ st q = s := by
          intro z
          have h1 := (q3 s hs).mpr z.symm
          have h2 := (k3 s hs).mpr es
          rw [h1] at h2
          exact nk h2.symm
        by_cases e1 : t2 = t
        · rw [if_pos e1]
          exact ⟨fun z => absurd z nk, fun z => absurd (z.symm.trans e1) n1⟩
        · rw [if_neg e1]
          by_cases e2 : t2 = s
          · rw [if_pos e2]
            exact ⟨fun z => absurd z c2, fun z => absurd (z.symm.trans e2) n2⟩
          · rw [if_neg e2]
            exact q3 t2 ht2
theorem e_sit {G : zG} {x u1 u2 : zX} {N R L : Nat} {q s0 : Int32} {r1 r2 : Int32} (H : zRl G x N R L)
    (h1 : (¬ (zin N q ∧ zin 8 s0) ∧ x = u1 ∧ -1 = r1) ∨ (∃ k t, k < N ∧ q = nI k ∧ t < 8 ∧ s0 = nI t ∧ zsI (zsI x 4 (zst x k) (x.1 4 t)) 4 t (x.1 4 (zst x k)) = u1 ∧ nI (zst x k) = r1))
    (h2 : (¬ (zin N q ∧ zin 8 s0) ∧ u1 = u2 ∧ -1 = r2) ∨ (∃ k t, k < N ∧ q = nI k ∧ t < 8 ∧ s0 = nI t ∧ nI (zse u1 k) = r2 ∧ ((u1.1 85 t = -1 ∧ zsI (zsI (zsI u1 85 (zse u1 k) (-1)) 85 t (nI k)) 84 k (nI t) = u2) ∨ (∃ o, o < N ∧ u1.1 85 t = nI o ∧ zsI (zsI (zsI (zsI u1 85 (zse u1 k) (nI o)) 84 o (nI (zse u1 k))) 85 t (nI k)) 84 k (nI t) = u2)))) : r1 = r2 ∧ ∃ N R L, zRl G u2 N R L := by
  have h8 := H.sc.1
  rcases h1 with ⟨a1, rfl, rfl⟩ | ⟨k, t, hk, rfl, ht, rfl, rfl, rfl⟩
  · rcases h2 with ⟨a2, rfl, rfl⟩ | ⟨k2, t2, hk2, rfl, ht2, rfl, -⟩
    · exact ⟨rfl, N, R, L, H⟩
    · exact absurd ⟨zinI hk2 (by omega), zinI ht2 (by decide)⟩ a1
  · rcases h2 with ⟨a2, -⟩ | ⟨k2, t2, hk2, e2, ht2, e3, hr2, h2⟩
    · exact absurd ⟨zinI hk (by omega), zinI ht (by decide)⟩ a2
    · obtain rfl := (zqE (by omega) (by omega)).mp e2
      obtain rfl := (zqE (by omega) (by omega)).mp e3
      obtain ⟨s1, s2, s3, s4, s5⟩ := H.st hk
      have hst : ∀ q, q < N → zst x q < 8 ∧ x.1 84 q = nI (zst x q) ∧ ∀ t2, t2 < 8 → (x.1 4 t2 = nI q ↔ t2 = zst x q) := fun q hq => ⟨(H.st hq).1, (H.st hq).2.2.1, (H.st hq).2.2.2.2⟩
      have ek : x.1 4 (zst x k) = nI k := (s5 _ s1).mpr rfl
      have ezse : zse (zsI (zsI x 4 (zst x k) (x.1 4 t)) 4 t (x.1 4 (zst x k))) k = zst x k := s4
      rw [ezse] at hr2 h2
      have e4 : (zsI (zsI x 4 (zst x k) (x.1 4 t)) 4 t (x.1 4 (zst x k))).1 4 = upd (upd (x.1 4) (zst x k) (x.1 4 t)) t (nI k) := by
        rw [zsI_u, zsI_u, ek]
      have et := (H.sc.2.1 t ht).1
      have hA : ∀ j, upd (upd (x.1 4) (zst x k) (x.1 4 t)) t (nI k) j = if j = t then nI k else if j = zst x k then x.1 4 t else x.1 4 j := fun j => rfl
      have eY : ∀ i, ¬ i = 4 → (zsI (zsI x 4 (zst x k) (x.1 4 t)) 4 t (x.1 4 (zst x k))).1 i = x.1 i := fun i hi => by rw [zsI_n hi, zsI_n hi]
      have e85 : ∀ v : Int32, v = x.1 4 t → ∀ j, j < 8 → upd (upd (x.1 85) (zst x k) v) t (nI k) j = upd (upd (x.1 4) (zst x k) (x.1 4 t)) t (nI k) j := fun v hv j hj => by
        show (if j = t then nI k else if j = zst x k then v else x.1 85 j) = (if j = t then nI k else if j = zst x k then x.1 4 t else x.1 4 j)
        rw [hv, (H.sc.2.1 j hj).1]
      refine ⟨hr2, N, R, L, ?_⟩
      have fin : ∀ u2 : zX, (∀ i, ¬ i = 4 → ¬ (84 ≤ i ∧ i ≤ 85) → u2.1 i = x.1 i) → u2.2 = x.2 → u2.1 4 = upd (upd (x.1 4) (zst x k) (x.1 4 t)) t (nI k) → (∀ j, j < 8 → u2.1 85 j = upd (upd (x.1 4) (zst x k) (x.1 4 t)) t (nI k) j) → (∀ q, q < N → u2.1 84 q = if q = k then nI t else if x.1 4 t = nI q then nI (zst x k) else x.1 84 q) → zRl G u2 N R L := fun u2 g1 g2 g3 g4 g5 => by
        refine H.fs (fun i i0 i1 i4 i5 i8 => g1 i i4 (by omega)) (fun k _ => by rw [g1 0 (by omega) (by omega)]) (fun k _ => by rw [g1 1 (by omega) (by omega)]) g2 ?_ ?_
        · have hz := zsit_sc (se2 := u2.1 84) H.sc hk ht s1 hst rfl hA g5
          rw [g3, g1 5 (by omega) (by omega), g1 1 (by omega) (by omega), g1 83 (by omega) (by omega), g1 86 (by omega) (by omega)]
          exact ⟨hz.1, fun j hj => ⟨(g4 j hj).symm, (hz.2.1 j hj).2⟩, hz.2.2⟩
        · exact zTa_c H.now (fun i hi => g1 i (by omega) (by omega)) (fun i i1 i2 _ => g1 i (by omega) (by omega)) (g1 5 (by omega) (by omega)) (by rw [g2]) (fun i i1 i2 => g1 i (by omega) (by omega)) (by rw [g1 0 (by omega) (by omega)]) (by rw [g1 1 (by omega) (by omega)]) H.ta
      rcases h2 with ⟨c, rfl⟩ | ⟨o, ho, c, rfl⟩
      · have c2 : x.1 4 t = -1 := et.trans c
        refine fin _ (fun i i4 i8 => ?_) rfl ?_ (fun j hj => ?_) (fun q hq => ?_)
        · rw [zsI_n (by omega), zsI_n (by omega), zsI_n (by omega), eY i i4]
        · rw [zsI_n (by omega), zsI_n (by omega), zsI_n (by omega), e4]
        · rw [zsI_n (by omega), zsI_u, zsI_u, eY 85 (by omega)]
          exact e85 (-1) c2.symm j hj
        · rw [zsI_u, zsI_n (by omega), zsI_n (by omega), eY 84 (by omega)]
          show (if q = k then nI t else x.1 84 q) = _
          by_cases c3 : q = k
          · rw [if_pos c3, if_pos c3]
          · rw [if_neg c3, if_neg c3, if_neg]
            rw [c2]
            intro z
            exact absurd (show nI q < 0 from by rw [← z]; decide) (nI_pos (by omega))
      · have c2 : x.1 4 t = nI o := et.trans c
        refine fin _ (fun i i4 i8 => ?_) rfl ?_ (fun j hj => ?_) (fun q hq => ?_)
        · rw [zsI_n (by omega), zsI_n (by omega), zsI_n (by omega), zsI_n (by omega), eY i i4]
        · rw [zsI_n (by omega), zsI_n (by omega), zsI_n (by omega), zsI_n (by omega), e4]
        · rw [zsI_n (by omega), zsI_u, zsI_n (by omega), zsI_u, eY 85 (by omega)]
          exact e85 (nI o) c2.symm j hj
        · rw [zsI_u, zsI_n (by omega), zsI_u, zsI_n (by omega), eY 84 (by omega)]
          show (if q = k then nI t else if q = o then nI (zst x k) else x.1 84 q) = _
          by_cases c3 : q = k
          · rw [if_pos c3, if_pos c3]
          · rw [if_neg c3, if_neg c3, c2]
            by_cases c4 : q = o
            · rw [if_pos c4, if_pos (by rw [c4])]
            · rw [if_neg c4, if_neg (fun z => c4 ((zqE (by omega) (by omega)).mp z).symm)]
