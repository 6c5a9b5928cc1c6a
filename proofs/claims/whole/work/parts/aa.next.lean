/-! NEXT: class and reference answer alike -/
/-- the new pairs of a row: by bits, and by looking -/
theorem zpc_row {N : Nat} {f dn : Nat → Int32} {v : Int64} (h8 : N ≤ 8) (hf : zRw N f) (hm : ∀ k, k < 64 → (zlb v k = true ↔ ¬ dn k = 0)) : ∀ d, d ≤ 4 →
    (∀ k, k < 64 → zlb (zorl (fun d => zpair (f (2 * d)) (f (2 * d + 1))) d) k = true → ∃ e a b, e < d ∧ a < N ∧ b < N ∧ ¬ a = b ∧ f (2 * e) = nI a ∧ f (2 * e + 1) = nI b ∧ k = zpo a b) ∧
    zsum (fun d => if ¬ f (2 * d) < 0 ∧ ¬ f (2 * d + 1) < 0 ∧ dn (zpo (f (2 * d)).toNatClampNeg (f (2 * d + 1)).toNatClampNeg) = 0 then nI 1 else nI 0) d = nI (zpc (fun k => zlb (zorl (fun d => zpair (f (2 * d)) (f (2 * d + 1))) d) k && !zlb v k) 64)
  | 0, _ => ⟨fun k _ z => by
      rw [show zorl (fun d => zpair (f (2 * d)) (f (2 * d + 1))) 0 = 0 from rfl, zlb_0] at z
      exact absurd z (by decide), by
      rw [show zorl (fun d => zpair (f (2 * d)) (f (2 * d + 1))) 0 = 0 from rfl, zpc_z (fun k _ => by rw [zlb_0]; rfl)]
      rfl⟩
  | d + 1, hd => by
    obtain ⟨f4, f5⟩ := zpc_row h8 hf hm d (by omega)
    have ca := hf.1 (2 * d) (by omega)
    have cb := hf.1 (2 * d + 1) (by omega)
    have hor := zorl_s (fun d => zpair (f (2 * d)) (f (2 * d + 1))) d
    rw [zsum, f5]
    generalize hV : zorl (fun d => zpair (f (2 * d)) (f (2 * d + 1))) d = V at *
    have hno : f (2 * d) = -1 ∨ f (2 * d + 1) = -1 → zpair (f (2 * d)) (f (2 * d + 1)) = 0 := by
      intro z
      have hmn : ∀ o : Nat, o < N → ¬ nI o < 0 := fun o ho => nI_pos (by omega)
      unfold zpair
      rw [if_pos]
      rcases z with z | z
      · rw [z]
        by_cases q : f (2 * d + 1) < -1
        · rcases cb with cb | ⟨o, ho, cb⟩
          · rw [cb] at q
            exact absurd q (by decide)
          · rw [cb] at q
            exact absurd (Int32.lt_trans q (by decide)) (hmn o ho)
        · rw [if_neg q]
          decide
      · rw [z]
        by_cases q : -1 < f (2 * d)
        · rw [if_pos q]
          decide
        · rw [if_neg q]
          rcases ca with ca | ⟨o, ho, ca⟩
          · rw [ca]
            decide
          · rw [ca] at q
            exfalso
            apply q
            rw [Int32.lt_iff_toInt_lt, nI_toInt (by omega)]
            exact Int.lt_of_lt_of_le (by decide) (Int.natCast_nonneg o)
    have free : f (2 * d) = -1 ∨ f (2 * d + 1) = -1 → (∀ k, k < 64 → zlb (zorl (fun d => zpair (f (2 * d)) (f (2 * d + 1))) (d + 1)) k = true → ∃ e a b, e < d + 1 ∧ a < N ∧ b < N ∧ ¬ a = b ∧ f (2 * e) = nI a ∧ f (2 * e + 1) = nI b ∧ k = zpo a b) ∧ nI (zpc (fun k => zlb V k && !zlb v k) 64) + (if ¬ f (2 * d) < 0 ∧ ¬ f (2 * d + 1) < 0 ∧ dn (zpo (f (2 * d)).toNatClampNeg (f (2 * d + 1)).toNatClampNeg) = 0 then nI 1 else nI 0) = nI (zpc (fun k => zlb (zorl (fun d => zpair (f (2 * d)) (f (2 * d + 1))) (d + 1)) k && !zlb v k) 64) := fun z => by
      have e0 := hno z
      rw [e0, Int64.or_zero] at hor
      rw [hor]
      refine ⟨fun k hk z => by obtain ⟨e, a, b, e1, e2⟩ := f4 k hk z; exact ⟨e, a, b, by omega, e2⟩, ?_⟩
      rw [if_neg (fun q => by
        rcases z with z | z
        · rw [z] at q
          exact absurd (by decide) q.1
        · rw [z] at q
          exact absurd (by decide) q.2.1)]
      exact Int32.add_zero _
    rcases ca with ca | ⟨a, ha, ca⟩
    · exact free (Or.inl ca)
    · rcases cb with cb | ⟨b, hb, cb⟩
      · exact free (Or.inr cb)
      · have hab : ¬ a = b := fun z => hf.2 (2 * d) (2 * d + 1) (by omega) (by omega) (by omega) (by rw [ca]; exact znm1 (by omega)) (by rw [ca, cb, z])
        obtain ⟨p1, p2, p3, p4⟩ := zpo_t ⟨a, by omega⟩ ⟨b, by omega⟩ (fun z => hab (congrArg Fin.val z))
        dsimp only at p1 p2 p3 p4
        have hbit : ∀ k, k < 64 → zlb (zpair (f (2 * d)) (f (2 * d + 1))) k = decide (k = zpo a b) := fun k hk => by
          rw [ca, cb, p4]
          exact zpo_u ⟨zpo a b, p1⟩ ⟨k, hk⟩
        have hu : ∀ t t2 q, t < 8 → t2 < 8 → q < N → f t = nI q → f t2 = nI q → t = t2 := fun t t2 q ht ht2 hq e1 e2 => by
          by_cases z : t = t2
          · exact z
          · exact absurd (e1.trans e2.symm) (hf.2 t t2 ht ht2 z (by rw [e1]; exact znm1 (by omega)))
        have hVp : zlb V (zpo a b) = false := by
          cases hc : zlb V (zpo a b) with
          | false => rfl
          | true =>
            obtain ⟨e, a2, b2, e1, e2, e3, e4, e5, e6, e7⟩ := f4 _ p1 hc
            rcases zpo_i e7 (by omega) (by omega) (by omega) (by omega) with z | z
            · rw [← z] at e5
              have := hu _ _ a (by omega) (by omega) ha ca e5
              omega
            · rw [← z] at e6
              have := hu _ _ a (by omega) (by omega) ha ca e6
              omega
        rw [hor]
        refine ⟨fun k hk z => ?_, ?_⟩
        · rw [zlb_or, hbit k hk, Bool.or_eq_true, decide_eq_true_eq] at z
          rcases z with z | z
          · obtain ⟨e, a2, b2, e1, e2⟩ := f4 k hk z
            exact ⟨e, a2, b2, by omega, e2⟩
          · exact ⟨d, a, b, by omega, ha, hb, hab, ca, cb, z⟩
        · have hvp := hm (zpo a b) p1
          rw [ca, cb, nI_clamp (by omega), nI_clamp (by omega)]
          rw [ca, cb] at hbit
          by_cases c0 : dn (zpo a b) = 0
          · have hv : zlb v (zpo a b) = false := by
              cases hc : zlb v (zpo a b) with
              | false => rfl
              | true => exact absurd c0 (hvp.mp hc)
            rw [if_pos ⟨nI_pos (by omega), nI_pos (by omega), c0⟩, nI_add]
            congr 1
            have e1 : zpc (fun k => zlb (V ||| zpair (nI a) (nI b)) k && !zlb v k) 64 = zpc (fun k => (zlb V k && !zlb v k) || decide (k = zpo a b)) 64 := zpc_c (fun k hk => by
              rw [zlb_or, hbit k hk]
              by_cases e : k = zpo a b
              · rw [e, hv, hVp]
                simp
              · simp [e])
            have e2 : zpc (fun k => decide (k = zpo a b) && !(zlb V k && !zlb v k)) 64 = zpc (fun k => decide (k = zpo a b)) 64 := zpc_c (fun k hk => by
              by_cases e : k = zpo a b
              · rw [e, hVp]
                simp
              · simp [e])
            rw [e1, zpc_or, e2, zpc_1 p1]
          · rw [if_neg (fun z => c0 z.2.2)]
            have e1 : zpc (fun k => zlb (V ||| zpair (nI a) (nI b)) k && !zlb v k) 64 = zpc (fun k => zlb V k && !zlb v k) 64 := zpc_c (fun k hk => by
              rw [zlb_or, hbit k hk]
              by_cases e : k = zpo a b
              · rw [e, hvp.mpr c0]
                simp
              · simp [e])
            rw [e1]
            exact Int32.add_zero _
theorem znw_e {N : Nat} {f : Nat → Int32} {u : zX} {v : Int64} (h8 : N ≤ 8) (hf : zRw N f) (hm : ∀ k, k < 64 → (zlb v k = true ↔ ¬ u.1 87 k = 0)) (hg : ∀ t, t < 8 → u.1 100 t = f t) : zlc (zpairs f &&& (v ^^^ (-1))) = znw u ∧ ¬ znw u < 0 := by
  obtain ⟨-, e⟩ := zpc_row h8 hf hm 4 (by omega)
  have e1 : znw u = zsum (fun d => if ¬ f (2 * d) < 0 ∧ ¬ f (2 * d + 1) < 0 ∧ u.1 87 (zpo (f (2 * d)).toNatClampNeg (f (2 * d + 1)).toNatClampNeg) = 0 then nI 1 else nI 0) 4 := zsum_c (fun d hd => by
    unfold znp
    rw [hg (2 * d) (by omega), hg (2 * d + 1) (by omega)])
  have hle := zpc_le (fun k => zlb (zorl (fun d => zpair (f (2 * d)) (f (2 * d + 1))) 4) k && !zlb v k) 64
  rw [e1, e]
  refine ⟨?_, nI_pos (by omega)⟩
  rw [zlc_e]
  congr 1
  exact zpc_c (fun k hk => zlb_an _ _ hk)
/-- the reference's state of the search for the most new pairs -/
def zHn (N : Nat) (m : Int32) (z : zX) (T : zB3) : Prop := match T with | none => m = -1 | some (k, w, g) => k = nI 0 ∧ m = w ∧ ¬ w < 0 ∧ ∀ q, q < N → ∃ s, s < 8 ∧ g s = nI q ∧ z.1 101 q = nI s
theorem znst_e {N c : Nat} {y : zX × Int32} {T : zB3} {V : (Nat → Int32) → Int32 × Int32} (h8 : N ≤ 8) (hc : c < 8 ^ N) (hB : ∀ f, zRw N f → (∀ k, k < 8 → (zlay y.1 N c).1 k = f k) → (V f).1 = nI 0 ∧ znw (zsrI y.1 100 (zlay y.1 N c).1) = (V f).2 ∧ ¬ (V f).2 < 0) (h : zHn N y.2 y.1 T) : zHn N (znst N c y).2 (znst N c y).1 (zcmb T (zev0 V (zex N 0 c (fun _ => -1)))) := by
  have hkeep : ∀ w : Nat → Int32, zHn N y.2 (zsrI y.1 100 w) T := fun w => by
    match T, h with
    | none, h => exact h
    | some (k, w2, g), h => exact h
  unfold znst
  rcases zlay_e (x := y.1) h8 hc with ⟨h1, h2⟩ | ⟨h1, g, h2, h3, h4, h5⟩
  · rw [if_neg h1, h2]
    exact hkeep _
  · rw [if_pos h1, h2]
    obtain ⟨e0, eW, hnn⟩ := hB g h4 h3
    rw [eW]
    have hnew : ∀ T2 : zB3, zcmb T2 (zev0 V (some g)) = zcon T2 (V g).1 (V g).2 g := fun T2 => rfl
    rw [hnew]
    have hput : zHn N (V g).2 (zkpR (zsrI y.1 100 (zlay y.1 N c).1)) (some ((V g).1, (V g).2, g)) := by
      refine ⟨e0, rfl, hnn, fun q hq => ?_⟩
      obtain ⟨s, s1, s2⟩ := h5 q hq
      refine ⟨s, s1, s2, ?_⟩
      unfold zkpR
      rw [zsrI_u, zsrI_u]
      refine zkp_s ((h3 s s1).trans s2) (by omega) 8 s1 (fun k hk hn => ?_) (fun k hk e => ?_)
      · rw [h3 k hk] at hn ⊢
        rcases h4.1 k hk with z | ⟨p, hp, z⟩
        · rw [z] at hn
          exact absurd (by decide) hn
        · exact ⟨p, by omega, z⟩
      · rw [h3 k hk] at e
        by_cases z : k = s
        · exact z
        · exact absurd (e.trans s2.symm) (h4.2 k s hk s1 z (by rw [e]; exact znm1 (by omega)))
    match T, h with
    | none, h =>
      have hf : y.2 = -1 := h
      have hlt : y.2 < (V g).2 := by
        rw [hf, Int32.lt_iff_toInt_lt]
        rw [Int32.lt_iff_toInt_lt, Int32.toInt_zero] at hnn
        have : (-1 : Int32).toInt = -1 := by decide
        omega
      rw [if_pos hlt]
      exact hput
    | some (k, w, g9), h =>
      obtain ⟨k1, k2, k3, k4⟩ := h
      rw [k2]
      show zHn N _ _ (if k < (V g).1 ∨ ((V g).1 = k ∧ (V g).2 ≤ w) then some (k, w, g9) else some ((V g).1, (V g).2, g))
      by_cases c1 : w < (V g).2
      · rw [if_pos c1, if_neg (fun z => by
          rcases z with z | z
          · rw [k1, e0] at z
            exact absurd z (by decide)
          · exact z_nle z.2 c1)]
        exact hput
      · rw [if_neg c1, if_pos (Or.inr ⟨by rw [e0, k1], z_nlt c1⟩)]
        exact ⟨k1, rfl, k3, k4⟩
theorem znfd_q {N : Nat} {y : zX × Int32} : ∀ n, (∀ i, ¬ i = 100 → ¬ i = 101 → (znfd N y n).1.1 i = y.1.1 i) ∧ (znfd N y n).1.2 = y.1.2
  | 0 => ⟨fun _ _ _ => rfl, rfl⟩
  | n + 1 => by
    obtain ⟨h1, h2⟩ := znfd_q (N := N) (y := y) n
    rw [znfd]
    unfold znst zkpR
    split
    · split
      · exact ⟨fun i i1 i2 => by rw [zsrI_n i2, zsrI_n i1]; exact h1 i i1 i2, h2⟩
      · exact ⟨fun i i1 i2 => by rw [zsrI_n i1]; exact h1 i i1 i2, h2⟩
    · exact ⟨fun i i1 i2 => by rw [zsrI_n i1]; exact h1 i i1 i2, h2⟩
theorem e_next {G : zG} {x u1 u2 : zX} {N R L : Nat} {q : Int32} {r1 r2 : Int32} (H : zRl G x N R L)
    (h1 : (¬ (¬ q < -1 ∧ q < nI N) ∧ x = u1 ∧ -100001 = r1) ∨ ((¬ q < -1 ∧ q < nI N) ∧ 6 < N ∧ x = u1 ∧ -9 = r1) ∨ ((¬ q < -1 ∧ q < nI N) ∧ N ≤ 6 ∧ (zplc (nI 3) N 0 (zbg x (fun _ => -1))) = u1 ∧ (if q = -1 then u1.1 11 7 else zfind (u1.1 16) q 0 8) = r1))
    (h2 : (¬ (¬ q < (-1) ∧ ¬ (nI N - nI 1) < q) ∧ u1 = u2 ∧ -100001 = r2) ∨ ((¬ q < (-1) ∧ ¬ (nI N - nI 1) < q) ∧ 6 < N ∧ u1 = u2 ∧ -9 = r2) ∨ ((¬ q < (-1) ∧ ¬ (nI N - nI 1) < q) ∧ N ≤ 6 ∧ (znfd N (u1, -1) (8 ^ N)).1 = u2 ∧ (if q < 0 then (znfd N (u1, -1) (8 ^ N)).2 else u2.1 101 q.toNatClampNeg) = r2)) : r1 = r2 ∧ ∃ N R L, zRl G u2 N R L := by
  have h8 := H.sc.1
  have hq9 : ∀ (a : Int32) (m : Int32), (¬ a < m ∧ a < nI N) ↔ (¬ a < m ∧ ¬ (nI N - nI 1) < a) := fun a m => by
    have e1 : (nI N - nI 1).toInt = (N : Int) - 1 := pk_sub_toInt (by omega) (by omega)
    have e2 : (nI N).toInt = (N : Int) := nI_toInt (by omega)
    rw [Int32.lt_iff_toInt_lt, Int32.lt_iff_toInt_lt, Int32.lt_iff_toInt_lt, e1, e2]
    omega
  rcases h1 with ⟨a1, rfl, rfl⟩ | ⟨a1, b1, rfl, rfl⟩ | ⟨a1, b1, hu, rfl⟩
  · rcases h2 with ⟨a2, rfl, rfl⟩ | ⟨a2, -⟩ | ⟨a2, -⟩
    · exact ⟨rfl, N, R, L, H⟩
    · exact absurd ((hq9 q (-1)).mpr a2) a1
    · exact absurd ((hq9 q (-1)).mpr a2) a1
  · rcases h2 with ⟨a2, -⟩ | ⟨a2, b2, rfl, rfl⟩ | ⟨a2, b2, -⟩
    · exact absurd ((hq9 q (-1)).mp a1) a2
    · exact ⟨rfl, N, R, L, H⟩
    · omega
  · rcases h2 with ⟨a2, -⟩ | ⟨a2, b2, -⟩ | ⟨a2, b2, rfl, rfl⟩
    · exact absurd ((hq9 q (-1)).mp a1) a2
    · omega
    have hs : zSr x u1 := by
      rw [← hu]
      exact zSr.b.o (zplc_o (nI 3) N 0 _)
    -- the class
    have e13 : zVc (zsrI x 13 (fun _ => 0)) (nI 3) = zVc x (nI 3) := by
      funext f
      unfold zVc
      rw [if_pos rfl, if_pos rfl, if_pos rfl, if_pos rfl]
      rfl
    have hB : zBs N (zsrI x 13 (fun _ => 0)) := fun a b r _ _ _ _ => by rw [zsrI_u]
    have h0 : zHas (zbg x (fun _ => -1)) none := rfl
    have hc := zplc_e (v := x) (aim := nI 3) N 0 _ none (fun _ => -1) zSr.b (fun k hk => if_pos hk) h0
    rw [zcmb_0, ← e13, zP_e (V := zVc (zsrI x 13 (fun _ => 0)) (nI 3)) (N := N) (fun d hd => zVc_1 h8 hB hd) (fun r hr => zVc_2 hr) N 0 _ (by omega) (by omega) zRw_0 ⟨fun t _ _ h => absurd rfl h, fun t _ _ h => absurd rfl h⟩, e13, hu] at hc
    -- the reference
    have hr : zHn N (znfd N (u1, -1) (8 ^ N)).2 (znfd N (u1, -1) (8 ^ N)).1 (zM (zVc x (nI 3)) N 0 (fun _ => -1)) := by
      rw [zM_x]
      have key : ∀ n, n ≤ 8 ^ N → zHn N (znfd N (u1, -1) n).2 (znfd N (u1, -1) n).1 (zfl (fun c => zev0 (zVc x (nI 3)) (zex N 0 c (fun _ => -1))) n) := by
        intro n
        induction n with
        | zero => intro _; rfl
        | succ n ih =>
          intro hn
          rw [zfl, znfd]
          refine znst_e h8 (by omega) (fun f hf he => ?_) (ih (by omega))
          obtain ⟨q1, q2⟩ := znfd_q (N := N) (y := (u1, -1)) n
          have e87 : (zsrI (znfd N (u1, -1) n).1 100 (zlay (znfd N (u1, -1) n).1 N n).1).1 87 = x.1 87 := by
            rw [zsrI_n (by omega), q1 87 (by omega) (by omega)]
            exact hs.2 87 (by omega) (by omega) (by omega)
          obtain ⟨w1, w2⟩ := znw_e (u := zsrI (znfd N (u1, -1) n).1 100 (zlay (znfd N (u1, -1) n).1 N n).1) (v := x.2.1 1 5) h8 hf (fun k hk => by rw [e87]; exact (H.mo.1 k hk).1) (fun t ht => by rw [zsrI_u]; exact he t ht)
          unfold zVc
          rw [if_pos rfl, if_pos rfl, w1]
          exact ⟨rfl, rfl, w2⟩
      exact key _ (Nat.le_refl _)
    obtain ⟨kk, hkk⟩ := zM_some (V := zVc x (nI 3)) N 0 (fun _ => -1) (by omega) (fun _ _ _ => rfl)
    have hrw : ∀ k w g, zM (zVc x (nI 3)) N 0 (fun _ => -1) = some (k, w, g) → zRw N g := fun k w g h => zM_r h8 h
    have hq2 : zQ9 u1 (znfd N (u1, -1) (8 ^ N)).1 := by
      obtain ⟨q1, q2⟩ := znfd_q (N := N) (y := (u1, -1)) (8 ^ N)
      exact ⟨fun i i1 i2 => q1 i (by omega) (by omega), fun k _ _ => congrFun (q1 77 (by omega) (by omega)) k, q2⟩
    have HU : zRl G u1 N R L := by
      obtain ⟨b9, F9, C9, Q⟩ := H.hl
      have hA := hs.2
      exact (H.sp (u := u1) Q (fun i i1 i2 => hA i (by omega) (by omega) (by omega)) (fun k _ => congrFun (hA 0 (by omega) (by omega) (by omega)) k) (fun k _ _ => congrFun (hA 77 (by omega) (by omega) (by omega)) k) hs.1 (zTa_c (x := x) H.now (fun i hi => hA i (by omega) (by omega) (by omega)) (fun i i1 i2 _ => hA i (by omega) (by omega) (by omega)) (hA 5 (by omega) (by omega) (by omega)) (by rw [hs.1]) (fun i i1 i2 => hA i (by omega) (by omega) (by omega)) (congrFun (hA 0 (by omega) (by omega) (by omega)) 9) (congrFun (hA 1 (by omega) (by omega) (by omega)) 6) H.ta)).1
    refine ⟨?_, N, R, L, ?_⟩
    · generalize hT : zM (zVc x (nI 3)) N 0 (fun _ => -1) = T at *
      match T, hc, hr, hkk, hrw with
      | none, _, _, hkk, _ => exact absurd hkk (by unfold zky; simp)
      | some (k, w, g), hc, hr, _, hrw =>
        obtain ⟨c1, c2, c3, c4⟩ := hc
        obtain ⟨d1, d2, d3, d4⟩ := hr
        have hg := hrw k w g rfl
        by_cases c : q = -1
        · rw [if_pos c, if_pos (by rw [c]; decide), d2, c3]
        · have hk0 : ¬ q < 0 := fun z => by
            have z1 := a1.1
            have e9 : (-1 : Int32).toInt = -1 := by decide
            rw [Int32.lt_iff_toInt_lt, Int32.toInt_zero] at z
            rw [Int32.lt_iff_toInt_lt, e9] at z1
            exact c (Int32.toInt_inj.mp ((show q.toInt = -1 by omega).trans e9.symm))
          rw [if_neg c, if_neg hk0]
          obtain ⟨p, hp, rfl⟩ := z_nat hk0
          have hpN : p < N := (zqL (by omega) (by omega)).mp a1.2
          rw [nI_clamp (by omega)]
          obtain ⟨s, s1, s2, s3⟩ := d4 p hpN
          rw [s3]
          refine zfind_at 8 0 (by omega) (by omega) (fun t ht => ?_)
          rw [c4 t (by omega)]
          constructor
          · intro e
            by_cases z : t = s
            · exact z
            · exact absurd (e.trans s2.symm) (hg.2 t s (by omega) s1 z (by rw [e]; exact znm1 (by omega)))
          · intro e
            rw [e]
            exact s2
    · obtain ⟨b9, F9, C9, Q⟩ := HU.hl
      exact (HU.q9 Q hq2).1
