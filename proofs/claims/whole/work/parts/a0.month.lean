/-! MONTHS: class and reference answer alike -/
theorem zpc_z {f : Nat → Bool} : ∀ {n : Nat}, (∀ k, k < n → f k = false) → zpc f n = 0
  | 0, _ => rfl
  | n + 1, h => by rw [zpc, zpc_z (fun k hk => h k (by omega)), h n (by omega)]; rfl
def zsN (f : Nat → Nat) : Nat → Nat
  | 0 => 0
  | n + 1 => zsN f n + f n
theorem zsN_c {f g : Nat → Nat} : ∀ {n : Nat}, (∀ k, k < n → f k = g k) → zsN f n = zsN g n
  | 0, _ => rfl
  | n + 1, h => by rw [zsN, zsN, zsN_c (fun k hk => h k (by omega)), h n (by omega)]
theorem zsN_a (f g : Nat → Nat) : ∀ n : Nat, zsN (fun k => f k + g k) n = zsN f n + zsN g n
  | 0 => rfl
  | n + 1 => by
    rw [zsN, zsN, zsN, zsN_a f g n]
    omega
theorem zsN_t {f : Nat → Nat} {m : Nat} : ∀ {n : Nat}, (∀ k, m ≤ k → f k = 0) → zsN f (m + n) = zsN f m
  | 0, _ => rfl
  | n + 1, h => by rw [← Nat.add_assoc, zsN, zsN_t h, h _ (by omega), Nat.add_zero]
theorem zpc_8 (f : Nat → Bool) : ∀ n : Nat, zpc f (8 * n) = zsN (fun a => zpc (fun b => f (8 * a + b)) 8) n
  | 0 => rfl
  | n + 1 => by rw [Nat.mul_succ, zpc_a, zpc_8 f n, zsN]
theorem zsum_nI {f : Nat → Int32} {g : Nat → Nat} : ∀ {n : Nat}, (∀ k, k < n → f k = nI (g k)) → zsum f n = nI (zsN g n)
  | 0, _ => rfl
  | n + 1, h => by rw [zsum, zsum_nI (fun k hk => h k (by omega)), h n (by omega), nI_add, zsN]
theorem ztri : ∀ N : Fin 9, nI N.val * (nI N.val - nI 1) / nI 2 = nI (zsN (fun i => N.val - (i + 1)) N.val) := by decide +kernel
/-- pairs of N pupils: those that have sat, and those that lack -/
theorem zlk_e {N : Nat} {v : Int64} {dn : Nat → Int32} {c : Int32} (h8 : N ≤ 8) (h : zMo N v dn c) : nI N * (nI N - nI 1) / nI 2 - zlc v = zsum (fun i => zsum (fun k => if dn (8 * i + (i + 1 + k)) = 0 then nI 1 else nI 0) (N - (i + 1))) N := by
  obtain ⟨h1, h2, h3⟩ := h
  have hf : ∀ k, k < 64 → ¬ (k / 8 < k % 8 ∧ k % 8 < N) → zlb v k = false := fun k hk hn => by
    cases e : zlb v k with
    | false => rfl
    | true => exact absurd ((h1 k hk).2 ((h1 k hk).1.mp e)) hn
  have hrow : ∀ i, i < N → zpc (fun b => zlb v (8 * i + b)) 8 = zpc (fun k => zlb v (8 * i + (i + 1 + k))) (N - (i + 1)) := fun i hi => by
    have e8 : 8 = (i + 1) + ((N - (i + 1)) + (8 - N)) := by omega
    have e := zpc_a (fun b => zlb v (8 * i + b)) (i + 1) ((N - (i + 1)) + (8 - N))
    rw [← e8] at e
    rw [e, zpc_a (fun k => zlb v (8 * i + (i + 1 + k))) (N - (i + 1)) (8 - N), zpc_z (f := fun b => zlb v (8 * i + b)) (n := i + 1) (fun k hk => hf _ (by omega) (by omega)), zpc_z (f := fun k => zlb v (8 * i + (i + 1 + (N - (i + 1) + k)))) (fun k hk => hf _ (by omega) (by omega))]
    omega
  have hz : ∀ i, N ≤ i → i < 8 → zpc (fun b => zlb v (8 * i + b)) 8 = 0 := fun i hi h9 => zpc_z (fun k hk => hf _ (by omega) (by omega))
  have ht : zpc (zlb v) 64 = zsN (fun i => zpc (fun k => zlb v (8 * i + (i + 1 + k))) (N - (i + 1))) N := by
    have e := zpc_8 (zlb v) 8
    rw [show 8 * 8 = 64 from rfl] at e
    have e2 : zsN (fun a => zpc (fun b => zlb v (8 * a + b)) 8) 8 = zsN (fun a => if a < 8 then zpc (fun b => zlb v (8 * a + b)) 8 else 0) (N + (8 - N)) := by
      rw [show N + (8 - N) = 8 by omega]
      exact zsN_c (fun k hk => by rw [if_pos hk])
    rw [e, e2, zsN_t (fun k hk => by
      by_cases c : k < 8
      · rw [if_pos c]
        exact hz k hk c
      · rw [if_neg c])]
    exact zsN_c (fun k hk => by rw [if_pos (by omega), hrow k hk])
  have hin : ∀ i n, i < N → n ≤ N - (i + 1) → zsum (fun k => if dn (8 * i + (i + 1 + k)) = 0 then nI 1 else nI 0) n = nI (n - zpc (fun k => zlb v (8 * i + (i + 1 + k))) n) := by
    intro i n hi
    induction n with
    | zero => intro _; rfl
    | succ n ih =>
      intro hn
      have hle := zpc_le (fun k => zlb v (8 * i + (i + 1 + k))) n
      rw [zsum, ih (by omega), zpc]
      have hb := (h1 (8 * i + (i + 1 + n)) (by omega)).1
      by_cases c : dn (8 * i + (i + 1 + n)) = 0
      · have : ¬ zlb v (8 * i + (i + 1 + n)) = true := fun z => hb.mp z c
        rw [if_pos c, if_neg this, nI_add]
        congr 1
        omega
      · rw [if_neg c, if_pos (hb.mpr c), nI_add]
        congr 1
        omega
  rw [zsum_nI (g := fun i => N - (i + 1) - zpc (fun k => zlb v (8 * i + (i + 1 + k))) (N - (i + 1))) (fun i hi => hin i _ hi (Nat.le_refl _)), ztri ⟨N, by omega⟩, zlc_e, ht]
  have hs : zsN (fun i => N - (i + 1)) N = zsN (fun i => N - (i + 1) - zpc (fun k => zlb v (8 * i + (i + 1 + k))) (N - (i + 1))) N + zsN (fun i => zpc (fun k => zlb v (8 * i + (i + 1 + k))) (N - (i + 1))) N := by
    rw [← zsN_a]
    refine zsN_c (fun i hi => ?_)
    have := zpc_le (fun k => zlb v (8 * i + (i + 1 + k))) (N - (i + 1))
    omega
  show nI (zsN (fun i => N - (i + 1)) N) - _ = _
  rw [hs, ← nI_add]
  exact Int32.add_sub_cancel _ _
theorem e_lacks {G : zG} {x u1 u2 : zX} {N R L : Nat} {w : Int32} {r1 r2 : Int32} (H : zRl G x N R L)
    (h1 : x = u1 ∧ (if w = nI 0 then nI N * (nI N - nI 1) / nI 2 - zlc (x.2.1 1 5) else if w = nI 1 then (if nI N * (nI N - nI 1) / nI 2 - zlc (x.2.1 1 5) = 0 then nI 1 else nI 0) else -1) = r1)
    (h2 : u1 = u2 ∧ (if ¬ w < nI 0 ∧ ¬ nI 1 < w then (if w = 0 then zlkR u1 N else if zlkR u1 N = 0 then nI 1 else nI 0) else -1) = r2) : r1 = r2 ∧ x = u2 := by
  obtain ⟨rfl, rfl⟩ := h1
  obtain ⟨rfl, rfl⟩ := h2
  refine ⟨?_, rfl⟩
  have e := zlk_e H.sc.1 H.mo
  have hw : (w = nI 0 ∨ w = nI 1) ↔ (¬ w < nI 0 ∧ ¬ nI 1 < w) := z01
  have e2 : nI N * (nI N - nI 1) / nI 2 - zlc (x.2.1 1 5) = zlkR x N := e
  rw [e2]
  by_cases c0 : w = nI 0
  · rw [if_pos c0, if_pos (hw.mp (Or.inl c0)), if_pos (show w = 0 from c0)]
  · rw [if_neg c0]
    by_cases c1 : w = nI 1
    · rw [if_pos c1, if_pos (hw.mp (Or.inr c1)), if_neg (show ¬ w = 0 from c0)]
    · rw [if_neg c1, if_neg (fun z => (hw.mpr z).elim c0 c1)]
theorem zpo_t : ∀ a b : Fin 8, ¬ a = b → zpo a.val b.val < 64 ∧ zpo a.val b.val / 8 < zpo a.val b.val % 8 ∧ (zpo a.val b.val % 8 = a.val ∨ zpo a.val b.val % 8 = b.val) ∧ zpair (nI a.val) (nI b.val) = (1 : Int64) <<< (zpo a.val b.val).toUInt64.toInt64 := by decide +kernel
theorem zpo_u : ∀ k j : Fin 64, zlb ((1 : Int64) <<< (k.val).toUInt64.toInt64) j.val = decide (j.val = k.val) := by decide +kernel
theorem zpo_i {a b c d : Nat} (h : zpo a b = zpo c d) (ha : a < 8) (hb : b < 8) (hc : c < 8) (hd : d < 8) : a = c ∨ a = d := by
  unfold zpo at h
  split at h <;> split at h <;> omega
theorem zorl_s (f : Nat → Int64) (d : Nat) : zorl f (d + 1) = zorl f d ||| f d := rfl
/-- the desks of a month, d of them, in the reference and in the class -/
theorem zms_e {N : Nat} {u : zX} {S : Nat → Int32} {v : Int64} {c : Int32} (h8 : N ≤ 8) (hS : ∀ t, t < 8 → S t = u.1 85 t ∧ (S t = -1 ∨ ∃ q, q < N ∧ S t = nI q)) (hu : ∀ t t2 q, t < 8 → t2 < 8 → q < N → S t = nI q → S t2 = nI q → t = t2) (hm : zMo N v (u.1 87) c) : ∀ d, d ≤ 4 →
    ∃ f : Nat → Int32, (zms u d).1 = zsrI u 87 f ∧ zbo f 64 ∧ (∀ k, k < 64 → (¬ f k = 0 ↔ ¬ u.1 87 k = 0 ∨ zlb (zorl (fun d => zpair (S (2 * d)) (S (2 * d + 1))) d) k = true)) ∧
      (∀ k, k < 64 → zlb (zorl (fun d => zpair (S (2 * d)) (S (2 * d + 1))) d) k = true → ∃ e a b, e < d ∧ a < N ∧ b < N ∧ ¬ a = b ∧ S (2 * e) = nI a ∧ S (2 * e + 1) = nI b ∧ k = zpo a b) ∧
      (zms u d).2 = nI (zpc (fun k => zlb (zorl (fun d => zpair (S (2 * d)) (S (2 * d + 1))) d) k && !zlb v k) 64)
  | 0, _ => ⟨u.1 87, zX_ext (fun i k => by
      by_cases e : i = 87
      · subst e
        rw [zsrI_u]
        rfl
      · rw [zsrI_n e]
        rfl) rfl, hm.2.1, fun k hk => ⟨fun z => Or.inl z, fun z => z.resolve_right (fun q => by rw [show zorl (fun d => zpair (S (2 * d)) (S (2 * d + 1))) 0 = 0 from rfl, zlb_0] at q; exact absurd q (by decide))⟩, fun k _ z => by
      rw [show zorl (fun d => zpair (S (2 * d)) (S (2 * d + 1))) 0 = 0 from rfl, zlb_0] at z
      exact absurd z (by decide), by
      rw [show zorl (fun d => zpair (S (2 * d)) (S (2 * d + 1))) 0 = 0 from rfl, zpc_z (fun k _ => by rw [zlb_0]; rfl)]
      rfl⟩
  | d + 1, hd => by
    obtain ⟨f, f1, f2, f3, f4, f5⟩ := zms_e h8 hS hu hm d (by omega)
    obtain ⟨sa, ca⟩ := hS (2 * d) (by omega)
    obtain ⟨sb, cb⟩ := hS (2 * d + 1) (by omega)
    have hms : zms u (d + 1) = zmst u d (zms u d) := rfl
    have hor := zorl_s (fun d => zpair (S (2 * d)) (S (2 * d + 1))) d
    generalize hV : zorl (fun d => zpair (S (2 * d)) (S (2 * d + 1))) d = V at *
    have hno : S (2 * d) = -1 ∨ S (2 * d + 1) = -1 → zpair (S (2 * d)) (S (2 * d + 1)) = 0 := by
      intro z
      have hmn : ∀ o : Nat, o < N → ¬ nI o < 0 := fun o ho => nI_pos (by omega)
      unfold zpair
      rw [if_pos]
      rcases z with z | z
      · rw [z]
        by_cases q : S (2 * d + 1) < -1
        · rcases cb with cb | ⟨o, ho, cb⟩
          · rw [cb] at q
            exact absurd q (by decide)
          · rw [cb] at q
            exact absurd (Int32.lt_trans q (by decide)) (hmn o ho)
        · rw [if_neg q]
          decide
      · rw [z]
        by_cases q : -1 < S (2 * d)
        · rw [if_pos q]
          decide
        · rw [if_neg q]
          rcases ca with ca | ⟨o, ho, ca⟩
          · rw [ca]
            decide
          · rw [ca] at q
            exfalso
            apply q
            rw [Int32.lt_iff_toInt_lt, nI_toInt (by omega)]
            exact Int.lt_of_lt_of_le (by decide) (Int.natCast_nonneg o)
    rcases ca with ca | ⟨a, ha, ca⟩
    · have e0 := hno (Or.inl ca)
      rw [e0, Int64.or_zero] at hor
      rw [hms, zmst_0 (Or.inl (by rw [← sa]; exact ca)), hor]
      exact ⟨f, f1, f2, f3, fun k hk z => by obtain ⟨e, a, b, e1, e2⟩ := f4 k hk z; exact ⟨e, a, b, by omega, e2⟩, f5⟩
    · rcases cb with cb | ⟨b, hb, cb⟩
      · have e0 := hno (Or.inr cb)
        rw [e0, Int64.or_zero] at hor
        rw [hms, zmst_0 (Or.inr (by rw [← sb]; exact cb)), hor]
        exact ⟨f, f1, f2, f3, fun k hk z => by obtain ⟨e, a, b, e1, e2⟩ := f4 k hk z; exact ⟨e, a, b, by omega, e2⟩, f5⟩
      · have hab : ¬ a = b := fun z => by
          rw [z] at ca
          have := hu (2 * d) (2 * d + 1) b (by omega) (by omega) hb ca cb
          omega
        obtain ⟨p1, p2, p3, p4⟩ := zpo_t ⟨a, by omega⟩ ⟨b, by omega⟩ (fun z => hab (congrArg Fin.val z))
        dsimp only at p1 p2 p3 p4
        have hbit : ∀ k, k < 64 → zlb (zpair (S (2 * d)) (S (2 * d + 1))) k = decide (k = zpo a b) := fun k hk => by
          rw [ca, cb, p4]
          exact zpo_u ⟨zpo a b, p1⟩ ⟨k, hk⟩
        have hVp : zlb V (zpo a b) = false := by
          cases hc : zlb V (zpo a b) with
          | false => rfl
          | true =>
            obtain ⟨e, a2, b2, e1, e2, e3, e4, e5, e6, e7⟩ := f4 _ p1 hc
            rcases zpo_i e7 (by omega) (by omega) (by omega) (by omega) with z | z
            · rw [← z] at e5
              have := hu _ _ a (by omega) (by omega) ha ca e5
              omega
            · rw [← z] at e6
              have := hu _ _ a (by omega) (by omega) ha ca e6
              omega
        have hfp : f (zpo a b) = 0 ↔ u.1 87 (zpo a b) = 0 := by
          have := f3 _ p1
          rw [hVp] at this
          constructor
          · intro z
            exact Classical.byContradiction (fun q => this.mpr (Or.inl q) z)
          · intro z
            exact Classical.byContradiction (fun q => (this.mp q).elim (fun y => y z) (fun y => absurd y (by decide)))
        have hstep := zmst_v (y := (zms u d).1) (a := (zms u d).2) (v := if (zms u d).1.1 87 (zpo a b) = 0 then nI 1 else nI 0) (x := u) (d := d) (qa := a) (qb := b) (by rw [← sa]; exact ca) (by rw [← sb]; exact cb) (by omega) (by omega) rfl
        have hpe : zmst u d (zms u d) = (zsI (zms u d).1 87 (zpo a b) (nI 1), (zms u d).2 + (if (zms u d).1.1 87 (zpo a b) = 0 then nI 1 else nI 0)) := hstep
        rw [hms, hpe, f1, zsI_sr, zsrI_u, f5]
        refine ⟨upd f (zpo a b) (nI 1), rfl, fun j hj => ?_, fun k hk => ?_, fun k hk z => ?_, ?_⟩
        · show (if j = zpo a b then nI 1 else f j) = 0 ∨ (if j = zpo a b then nI 1 else f j) = 1
          by_cases e : j = zpo a b
          · rw [if_pos e]
            exact Or.inr rfl
          · rw [if_neg e]
            exact f2 j hj
        · rw [hor, zlb_or, hbit k hk, Bool.or_eq_true, decide_eq_true_eq]
          show ¬ (if k = zpo a b then nI 1 else f k) = 0 ↔ _
          by_cases e : k = zpo a b
          · rw [if_pos e]
            exact ⟨fun _ => Or.inr (Or.inr e), fun _ => by decide⟩
          · rw [if_neg e, f3 k hk]
            constructor
            · rintro (z | z)
              · exact Or.inl z
              · exact Or.inr (Or.inl z)
            · rintro (z | z | z)
              · exact Or.inl z
              · exact Or.inr z
              · exact absurd z e
        · rw [hor, zlb_or, hbit k hk, Bool.or_eq_true, decide_eq_true_eq] at z
          rcases z with z | z
          · obtain ⟨e, a2, b2, e1, e2⟩ := f4 k hk z
            exact ⟨e, a2, b2, by omega, e2⟩
          · exact ⟨d, a, b, by omega, ha, hb, hab, ca, cb, z⟩
        · rw [hor]
          have hvp := (hm.1 (zpo a b) p1).1
          by_cases c0 : u.1 87 (zpo a b) = 0
          · have hv : zlb v (zpo a b) = false := by
              cases hc : zlb v (zpo a b) with
              | false => rfl
              | true => exact absurd c0 (hvp.mp hc)
            rw [if_pos (hfp.mpr c0), nI_add]
            congr 1
            have e1 : zpc (fun k => zlb (V ||| zpair (S (2 * d)) (S (2 * d + 1))) k && !zlb v k) 64 = zpc (fun k => (zlb V k && !zlb v k) || decide (k = zpo a b)) 64 := zpc_c (fun k hk => by
              rw [zlb_or, hbit k hk]
              by_cases e : k = zpo a b
              · rw [e, hv, hVp]
                simp
              · simp [e])
            have e2 : zpc (fun k => decide (k = zpo a b) && !(zlb V k && !zlb v k)) 64 = zpc (fun k => decide (k = zpo a b)) 64 := zpc_c (fun k hk => by
              by_cases e : k = zpo a b
              · rw [e, hVp]
                simp
              · simp [e])
            rw [e1, zpc_or, e2, zpc_1 p1]
          · rw [if_neg (fun z => c0 (hfp.mp z))]
            have e1 : zpc (fun k => zlb (V ||| zpair (S (2 * d)) (S (2 * d + 1))) k && !zlb v k) 64 = zpc (fun k => zlb V k && !zlb v k) 64 := zpc_c (fun k hk => by
              rw [zlb_or, hbit k hk]
              by_cases e : k = zpo a b
              · rw [e, hvp.mpr c0]
                simp
              · simp [e])
            rw [e1]
            exact Int32.add_zero _
theorem e_month {G : zG} {x u1 u2 : zX} {N R L : Nat} {r1 r2 : Int32} (H : zRl G x N R L)
    (h1 : zsL x 1 5 (x.2.1 1 5 ||| zpairs (x.1 4)) = u1 ∧ zlc (zpairs (x.1 4) &&& (x.2.1 1 5 ^^^ (-1))) = r1)
    (h2 : zsI (zms u1 4).1 77 1 ((zms u1 4).1.1 77 1 + (zms u1 4).2) = u2 ∧ (zms u1 4).2 = r2) : r1 = r2 ∧ ∃ N R L, zRl G u2 N R L := by
  obtain ⟨rfl, rfl⟩ := h1
  obtain ⟨rfl, rfl⟩ := h2
  have h8 := H.sc.1
  have hu : ∀ t t2 q, t < 8 → t2 < 8 → q < N → x.1 4 t = nI q → x.1 4 t2 = nI q → t = t2 := fun t t2 q ht ht2 hq e1 e2 => by
    have h5 := (H.st hq).2.2.2.2
    rw [(h5 t ht).mp e1, (h5 t2 ht2).mp e2]
  obtain ⟨f, f1, f2, f3, f4, f5⟩ := zms_e (u := zsL x 1 5 (x.2.1 1 5 ||| zpairs (x.1 4))) (S := x.1 4) (v := x.2.1 1 5) (c := x.1 77 1) h8 (fun t ht => H.sc.2.1 t ht) hu H.mo 4 (by omega)
  have hP : zorl (fun d => zpair (x.1 4 (2 * d)) (x.1 4 (2 * d + 1))) 4 = zpairs (x.1 4) := rfl
  rw [hP] at f3 f4 f5
  have ec : zpc (zlb (zpairs (x.1 4) &&& (x.2.1 1 5 ^^^ (-1)))) 64 = zpc (fun k => zlb (zpairs (x.1 4)) k && !zlb (x.2.1 1 5) k) 64 := zpc_c (fun k hk => zlb_an _ _ hk)
  refine ⟨by rw [f5, zlc_e, ec], N, R, L, ?_⟩
  rw [f1, f5]
  refine zRl.mk (ok := H.ok) (pp := ?_) (sc := H.sc) (mo := ?_) (he := H.he) (kp := H.kp) (rq := ?_) (rz := ?_) (tc := H.tc) (ta := ?_) (pt := H.pt) (rf := H.rf) (rt := ?_) (b5 := H.b5) (b6 := H.b6)
  · exact zPp_c (x := x) rfl rfl rfl (fun i hi => by rw [zsI_n (by omega), zsrI_n (by omega)]; rfl) (fun i i1 i2 => by rw [zsI_n (by omega), zsrI_n (by omega)]; rfl) H.pp
  · refine ⟨fun k hk => ?_, f2, ?_⟩
    · show (zlb (x.2.1 1 5 ||| zpairs (x.1 4)) k = true ↔ ¬ f k = 0) ∧ (¬ f k = 0 → k / 8 < k % 8 ∧ k % 8 < N)
      have hk2 := H.mo.1 k hk
      have hk3 := f3 k hk
      refine ⟨?_, fun z => ?_⟩
      · rw [zlb_or, Bool.or_eq_true, hk2.1]
        exact hk3.symm
      · rcases hk3.mp z with z | z
        · exact hk2.2 z
        · obtain ⟨e, a, b, e1, e2, e3, e4, e5, e6, e7⟩ := f4 k hk z
          obtain ⟨p1, p2, p3, p4⟩ := zpo_t ⟨a, by omega⟩ ⟨b, by omega⟩ (fun z => e4 (congrArg Fin.val z))
          dsimp only at p1 p2 p3 p4
          omega
    · show x.1 77 1 + nI _ = nI (zpc (zlb (x.2.1 1 5 ||| zpairs (x.1 4))) 64)
      rw [H.mo.2.2, nI_add]
      congr 1
      rw [zpc_c (f := zlb (x.2.1 1 5 ||| zpairs (x.1 4))) (g := fun k => zlb (x.2.1 1 5) k || zlb (zpairs (x.1 4)) k) (fun k _ => zlb_or _ _ k), zpc_or]
  · exact zRq_c (x := x) rfl rfl (fun i i1 i2 _ => by rw [zsI_n (by omega), zsrI_n (by omega)]; rfl) (fun i i1 i2 => by rw [zsI_n (by omega), zsrI_n (by omega)]; rfl) H.rq
  · exact zRz_c (x := x) (fun i i1 i2 _ => by rw [zsI_n (by omega), zsrI_n (by omega)]; rfl) rfl (fun k hk => by rcases hk with rfl | rfl | rfl <;> rfl) H.rz
  · exact zTa_c (x := x) H.now (fun i hi => by rw [zsI_n (by omega), zsrI_n (by omega)]; rfl) (fun i i1 i2 _ => by rw [zsI_n (by omega), zsrI_n (by omega)]; rfl) rfl rfl (fun i i1 i2 => by rw [zsI_n (by omega), zsrI_n (by omega)]; rfl) rfl rfl H.ta
  · have := H.rt
    refine ⟨this.1, this.2.1, fun t ht => ?_⟩
    obtain ⟨g1, g2, g3, g4, g5⟩ := this.2.2 t ht
    refine ⟨g1, g2, g3, g4, fun j hj => ?_⟩
    show (zsL x 1 5 (x.2.1 1 5 ||| zpairs (x.1 4))).2.1 (20 + t) j = _
    rw [zsL_n (by omega)]
    exact g5 j hj
