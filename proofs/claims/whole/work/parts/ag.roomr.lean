/-! ROOM: class and reference answer alike -/
theorem zwl_w {w5 : Nat → Int32} : ∀ (n s : Nat) (o : Int32) (w4 : Nat → Int32), s ≤ (zwl w5 n s o w4).1 ∧ ∀ j, j < s → (zwl w5 n s o w4).2.2.2 j = w4 j
  | 0, s, o, w4 => ⟨Nat.le_refl _, fun _ _ => rfl⟩
  | n + 1, s, o, w4 => by
    rw [zwl]
    split
    · obtain ⟨h1, h2⟩ := zwl_w (w5 := w5) n (s + 1) (o - nI 1) (upd w4 s (-33))
      exact ⟨by omega, fun j hj => (h2 j (by omega)).trans (if_neg (by omega))⟩
    · exact ⟨Nat.le_refl _, fun _ _ => rfl⟩
theorem zsl_w {w5 : Nat → Int32} {g : Int32} : ∀ (n s : Nat) (w4 : Nat → Int32), s ≤ (zsl w5 g n s w4).1 ∧ ∀ j, j < s → (zsl w5 g n s w4).2.2 j = w4 j
  | 0, s, w4 => ⟨Nat.le_refl _, fun _ _ => rfl⟩
  | n + 1, s, w4 => by
    rw [zsl]
    split
    · obtain ⟨h1, h2⟩ := zsl_w (w5 := w5) (g := g) n (s + 1) (upd w4 s (-(w5 n)))
      exact ⟨by omega, fun j hj => (h2 j (by omega)).trans (if_neg (by omega))⟩
    · exact ⟨Nat.le_refl _, fun _ _ => rfl⟩
theorem zrT_w {T : Nat → Int32} {p s n : Nat} {o d : Int32} {w4 w5 : Nat → Int32} : s ≤ (zrT T p s n o d w4 w5).2.2.1 ∧ ∀ j, j < s → (zrT T p s n o d w4 w5).2.2.2.2.2.2.1 j = w4 j := by
  unfold zrT
  split
  · exact ⟨Nat.le_refl _, fun _ _ => rfl⟩
  · split
    · split
      · obtain ⟨h1, h2⟩ := zwl_w (w5 := w5) n (s + 1) o (upd w4 s (nI 1000 * zpl (T p) + nI 100 * (T (p + 1) - nI 60) + (znuR T (p + 2) d).2.2))
        refine ⟨?_, fun j hj => ?_⟩
        · show s ≤ (zwl w5 n (s + 1) o (upd w4 s _)).1
          omega
        · exact (h2 j (by omega)).trans (if_neg (by omega))
      · exact ⟨Nat.le_refl _, fun _ _ => rfl⟩
    · exact ⟨Nat.le_refl _, fun _ _ => rfl⟩
/-- codes ahead of s stay -/
theorem zrE_w {T : Nat → Int32} : ∀ (g : Nat) (b : Bool) (p s n : Nat) (o d : Int32) (w4 w5 : Nat → Int32) (tv : Int32), s ≤ (zrE T g b p s n o d w4 w5 tv).2.2.2.1 ∧ ∀ j, j < s → (zrE T g b p s n o d w4 w5 tv).2.2.2.2.2.2.2.1 j = w4 j
  | 0, b, p, s, n, o, d, w4, w5, tv => ⟨Nat.le_refl _, fun _ _ => rfl⟩
  | g + 1, true, p, s, n, o, d, w4, w5, tv => by
    rw [zrE]
    split
    · split
      · exact ⟨Nat.le_refl _, fun _ _ => rfl⟩
      · exact zrE_w g true _ _ _ _ _ _ _ _
    · obtain ⟨h1, h2⟩ := zrT_w (T := T) (p := p) (s := s) (n := n) (o := o) (d := d) (w4 := w4) (w5 := w5)
      split
      · obtain ⟨h3, h4⟩ := zrE_w (T := T) g false (zrT T p s n o d w4 w5).2.1 (zrT T p s n o d w4 w5).2.2.1 (zrT T p s n o d w4 w5).2.2.2.1 (zrT T p s n o d w4 w5).2.2.2.2.1 (zrT T p s n o d w4 w5).2.2.2.2.2.1 (zrT T p s n o d w4 w5).2.2.2.2.2.2.1 (zrT T p s n o d w4 w5).2.2.2.2.2.2.2 tv
        exact ⟨Nat.le_trans h1 h3, fun j hj => (h4 j (by omega)).trans (h2 j hj)⟩
      · exact ⟨h1, h2⟩
  | g + 1, false, p, s, n, o, d, w4, w5, tv => by
    rw [zrE]
    split
    · obtain ⟨h1, h2⟩ := zsl_w (w5 := w5) (g := T p) n s w4
      obtain ⟨h3, h4⟩ := zrE_w (T := T) g true (p + 1) (zsl w5 (T p) n s w4).1 ((zsl w5 (T p) n s w4).2.1 + 1) o d (zsl w5 (T p) n s w4).2.2 (upd w5 (zsl w5 (T p) n s w4).2.1 (T p)) tv
      exact ⟨Nat.le_trans h1 h3, fun j hj => (h4 j (by omega)).trans (h2 j hj)⟩
    · obtain ⟨h1, h2⟩ := zsl_w (w5 := w5) (g := nI 124) n s w4
      split
      · exact ⟨h1, h2⟩
      · split
        · obtain ⟨h5, h6⟩ := zwl_w (w5 := w5) ((zsl w5 (nI 124) n s w4).2.1 - 1) (zsl w5 (nI 124) n s w4).1 (o - nI 1) (zsl w5 (nI 124) n s w4).2.2
          obtain ⟨h3, h4⟩ := zrE_w (T := T) g false (p + 1) (zwl w5 ((zsl w5 (nI 124) n s w4).2.1 - 1) (zsl w5 (nI 124) n s w4).1 (o - nI 1) (zsl w5 (nI 124) n s w4).2.2).1 (zwl w5 ((zsl w5 (nI 124) n s w4).2.1 - 1) (zsl w5 (nI 124) n s w4).1 (o - nI 1) (zsl w5 (nI 124) n s w4).2.2).2.1 (zwl w5 ((zsl w5 (nI 124) n s w4).2.1 - 1) (zsl w5 (nI 124) n s w4).1 (o - nI 1) (zsl w5 (nI 124) n s w4).2.2).2.2.1 d (zwl w5 ((zsl w5 (nI 124) n s w4).2.1 - 1) (zsl w5 (nI 124) n s w4).1 (o - nI 1) (zsl w5 (nI 124) n s w4).2.2).2.2.2 w5 (nI (zsl w5 (nI 124) n s w4).1)
          exact ⟨by omega, fun j hj => (h4 j (by omega)).trans ((h6 j (by omega)).trans (h2 j hj))⟩
        · exact ⟨h1, h2⟩
theorem zrC_w {T : Nat → Int32} {F : Nat} {y : zX} {c p s n : Nat} {o d : Int32} {w4 w5 : Nat → Int32} : s ≤ (zrC y T F c p s n o d w4 w5).2.2.2.1 ∧ ∀ j, j < s → (zrC y T F c p s n o d w4 w5).2.2.2.2.2.2.2.1 j = w4 j := by
  have hE : ∀ (x : zX) (p n : Nat) (o d : Int32) (w5 : Nat → Int32), s ≤ (zrCE x T F c p s n o d w4 w5).2.2.2.1 ∧ ∀ j, j < s → (zrCE x T F c p s n o d w4 w5).2.2.2.2.2.2.2.1 j = w4 j := fun x p n o d w5 => zrE_w _ _ _ _ _ _ _ _ _ _
  unfold zrC
  split
  · split
    · exact hE _ _ _ _ _ _
    · split
      · split
        · exact ⟨Nat.le_refl _, fun _ _ => rfl⟩
        · split
          · exact hE _ _ _ _ _ _
          · exact ⟨Nat.le_refl _, fun _ _ => rfl⟩
      · exact ⟨Nat.le_refl _, fun _ _ => rfl⟩
  · exact ⟨Nat.le_refl _, fun _ _ => rfl⟩
/-- what reading a room leaves as it was -/
def zGf (f1 s : Nat) (w4 : Nat → Int32) (z u : zX) : Prop := (∀ i, ¬ i = 77 → (i < 89 ∨ 95 < i) → u.1 i = z.1 i) ∧ u.2 = z.2 ∧ (∀ k, ¬ k = f1 → u.1 89 k = z.1 89 k) ∧ (∀ i k, 90 ≤ i → i ≤ 93 → k < 10 * f1 → u.1 i k = z.1 i k) ∧ (∀ j, j < s → u.1 94 j = w4 j) ∧ (∃ q, u.1 77 15 = nI q) ∧ (∃ q, u.1 77 25 = nI q) ∧ ∃ q, u.1 77 26 = nI q
theorem zru_g {f1 s : Nat} {w4 : Nat → Int32} {z y : zX} {R : zRS} (h1 : ∀ i, ¬ i = 77 → (i < 89 ∨ 95 < i) → y.1 i = z.1 i) (h2 : y.2 = z.2) (h3 : ∀ k, ¬ k = f1 → y.1 89 k = z.1 89 k) (h4 : ∀ i k, 90 ≤ i → i ≤ 93 → k < 10 * f1 → y.1 i k = z.1 i k) (h5 : ∀ j, j < s → R.2.2.2.2.2.1 j = w4 j) : zGf f1 s w4 z (zru y R) := by
  unfold zru
  refine ⟨fun i i1 i2 => (zrr_n i1 (by omega) (by omega)).trans (h1 i i1 i2), h2, fun k hk => ?_, fun i k i1 i2 hk => ?_, fun j hj => ?_, ⟨R.1, zrr_p⟩, ⟨R.2.1, ?_⟩, R.2.2.1, ?_⟩
  · rw [zrr_n (by omega) (by omega) (by omega)]
    exact h3 k hk
  · rw [zrr_n (by omega) (by omega) (by omega)]
    exact h4 i k i1 i2 hk
  · unfold zrr
    rw [zsrI_n (by omega), zsrI_u]
    exact h5 j hj
  · rw [zrr_7r]
    rfl
  · rw [zrr_7r]
    rfl
theorem zrG_g {T : Nat → Int32} {F f1 : Nat} : ∀ (m k : Nat) (z : zX) (p s n : Nat) (o d : Int32) (w4 w5 : Nat → Int32), zGf f1 s w4 z (zrG T F f1 m k z p s n o d w4 w5).2
  | 0, k, z, p, s, n, o, d, w4, w5 => zru_g (R := (p, s, n, o, d, w4, w5)) (fun _ _ _ => rfl) rfl (fun _ _ => rfl) (fun _ _ _ _ _ => rfl) (fun _ _ => rfl)
  | m + 1, k, z, p, s, n, o, d, w4, w5 => by
    obtain ⟨k1, k2⟩ := zrC_k (T := T) (F := F) (y := z) (c := 10 * f1 + k) (p := p) (s := s) (n := n) (o := o) (d := d) (w4 := w4) (w5 := w5)
    obtain ⟨w1, w2⟩ := zrC_w (T := T) (F := F) (y := z) (c := 10 * f1 + k) (p := p) (s := s) (n := n) (o := o) (d := d) (w4 := w4) (w5 := w5)
    have kn : ∀ i, i ≠ 90 → i ≠ 91 → i ≠ 92 → i ≠ 93 → (zrC z T F (10 * f1 + k) p s n o d w4 w5).2.1.1 i = z.1 i := fun i i0 i1 i2 i3 => zrC_n i0 i1 i2 i3
    rw [zrG]
    generalize zrC z T F (10 * f1 + k) p s n o d w4 w5 = Rc at *
    have a1 : ∀ i, ¬ i = 77 → (i < 89 ∨ 95 < i) → (zsI Rc.2.1 89 f1 (nI (k + 1))).1 i = z.1 i := fun i i1 i2 => (zsI_n (by omega)).trans (kn i (by omega) (by omega) (by omega) (by omega))
    have a3 : ∀ k2, ¬ k2 = f1 → (zsI Rc.2.1 89 f1 (nI (k + 1))).1 89 k2 = z.1 89 k2 := fun k2 hk => by
      rw [zsI_u]
      refine (if_neg hk).trans ?_
      rw [kn 89 (by omega) (by omega) (by omega) (by omega)]
    have a4 : ∀ i k2, 90 ≤ i → i ≤ 93 → k2 < 10 * f1 → (zsI Rc.2.1 89 f1 (nI (k + 1))).1 i k2 = z.1 i k2 := fun i k2 i1 i2 hk => by
      rw [zsI_n (by omega)]
      exact k1 i k2 (by omega)
    split
    · split
      · exact zru_g a1 k2 a3 a4 w2
      · split
        · exact zru_g a1 k2 a3 a4 w2
        · split
          · obtain ⟨b1, b2, b3, b4, b5, b6⟩ := zrG_g (T := T) (F := F) (f1 := f1) m (k + 1) (zsI Rc.2.1 89 f1 (nI (k + 1))) (Rc.2.2.1 + 1) Rc.2.2.2.1 Rc.2.2.2.2.1 Rc.2.2.2.2.2.1 Rc.2.2.2.2.2.2.1 Rc.2.2.2.2.2.2.2.1 Rc.2.2.2.2.2.2.2.2
            exact ⟨fun i i1 i2 => (b1 i i1 i2).trans (a1 i i1 i2), b2.trans k2, fun k3 hk => (b3 k3 hk).trans (a3 k3 hk), fun i k3 i1 i2 hk => (b4 i k3 i1 i2 hk).trans (a4 i k3 i1 i2 hk), fun j hj => (b5 j (by omega)).trans (w2 j hj), b6⟩
          · exact zru_g a1 k2 a3 a4 w2
    · exact zru_g (fun i i1 i2 => kn i (by omega) (by omega) (by omega) (by omega)) k2 (fun k3 hk => by rw [kn 89 (by omega) (by omega) (by omega) (by omega)]) (fun i k3 i1 i2 hk => k1 i k3 (by omega)) w2
theorem zkq_22 {y : zX} {b C : Nat} {q : zCR} : (zkq y b C q).2 = y.2 := by
  unfold zkq
  split
  · rfl
  · unfold zke1 zke0
    split
    · rfl
    · rfl
theorem zrd_2 {T : Nat → Int32} {L b : Nat} : ∀ {n C : Nat} {y : zX} {p : Nat} {cs : List Int32}, (zrd T L b n C y p cs).2.2 = y.2
  | 0, _, y, p, cs => rfl
  | n + 1, C, y, p, cs => by
    have e : (zpz (zkq y b C (zcla T p cs)) b (zcla T p cs).2.1 (zcla T p cs).2.2).2 = y.2 := zkq_22
    rw [zrd]
    split
    · split
      · exact e
      · split
        · exact e
        · split
          · exact zrd_2.trans zkq_22
          · exact e
    · exact e
theorem zTa_c2 {G : zG} {x u : zX} {N : Nat} (hn : zNow G x N) (p1 : ∀ i, 112 ≤ i → u.1 i = x.1 i) (p2 : ∀ j, j ≤ 5 → u.1 (zrix (x.1 1 6) + j) = x.1 (zrix (x.1 1 6) + j)) (p3 : u.1 5 = x.1 5) (p4 : u.2.2 3 = x.2.2 3) (p5 : ∀ i, 12 ≤ i → i ≤ 14 → u.1 i = x.1 i) (p6 : u.1 0 9 = x.1 0 9) (p7 : u.1 1 6 = x.1 1 6) (h : zTa G x N) : zTa G u N := by
  intro h9
  rw [p6] at h9
  obtain ⟨C, c1, c2, c3⟩ := h h9
  rw [p7]
  have hb := zrix_ok (x.1 1 6)
  generalize zrix (x.1 1 6) = b at *
  have e : ∀ q, zob u q = zob x q := fun q => by unfold zob; rw [p4]
  refine ⟨C, zRo_c (congrFun (p2 0 (by omega)) 4) (p2 3 (by omega)) (p2 4 (by omega)) c1, fun a q r hr hq ha hne => ?_, fun p hp => ?_⟩
  · obtain ⟨d1, d2⟩ := c2 a q r hr hq ha hne
    obtain ⟨e1, e2⟩ := zVw_c (row := nI r) hb hn c1 p1 (fun j j1 j2 => p2 j (by omega)) p3 p4 ha hq
    obtain ⟨e3, e4⟩ := zVw_c (row := nI r) hb hn c1 p1 (fun j j1 j2 => p2 j (by omega)) p3 p4 hq ha
    rw [p5 12 (by omega) (by omega), p5 13 (by omega) (by omega), e2, d1, d2]
    refine ⟨rfl, ?_⟩
    unfold zVb
    rw [e1, e3]
  · rw [p5 14 (by omega) (by omega), c3 p hp, e]
    by_cases hpN : p < N
    · rw [if_pos hpN, if_pos hpN, p1 _ (hn.2.2.1 p hpN).2.1]
    · rw [if_neg hpN, if_neg hpN]
theorem zfi_R {v : Int32} (h : zcdO v) : zcdR (zfi v) := by
  rcases h with rfl | rfl | rfl | ⟨q, hq, rfl⟩
  · exact Or.inl rfl
  · exact Or.inr (Or.inl rfl)
  · exact Or.inr (Or.inr (Or.inl rfl))
  · rw [zfi_q hq]
    exact Or.inr (Or.inr (Or.inr ⟨_, by omega, rfl⟩))
theorem zget_m {cs : List Int32} {j : Nat} (h : j < cs.length) : cs.getD j 0 ∈ cs := by
  rw [List.getD_eq_getElem?_getD, List.getElem?_eq_getElem h]
  exact List.getElem_mem h
/-- the room that both have read -/
theorem zRk_new {u : zX} {R C : Nat} {cs : List Int32} (hC : C ≤ 10) (hcs : cs.length ≤ 100) (h4 : u.1 (28 + 7 * R) 4 = nI C) (h89 : u.1 89 R = nI C) (hc : ∀ j, j < cs.length → u.1 (28 + 7 * R + 4) j = cs.getD j 0) (h : zKf u u (u.1 94) cs (28 + 7 * R) R C) : zRk u R := by
  obtain ⟨a1, a2, a3, a4, a5⟩ := h
  refine ⟨C, ⟨hC, h4, fun k hk => ?_⟩, h89, a1, fun k hk => ?_⟩
  · obtain ⟨w, st, l, b1, b2, b3, b4, b5, b6, b7, b8, b9, b10, b11⟩ := a5 k hk
    have ez : zen u (28 + 7 * R) k = st + l.length := by
      unfold zen
      rw [b7, nI_clamp (Nat.lt_of_le_of_lt b8 (Nat.lt_of_le_of_lt hcs (by decide)))]
    rw [ez]
    refine ⟨b7, Nat.le_trans b8 hcs, fun c hc2 => ?_⟩
    have hc3 : c < cs.length := Nat.lt_of_lt_of_le hc2 b8
    rw [hc c hc3]
    exact a4 _ (zget_m hc3)
  · obtain ⟨w, st, l, b1, b2, b3, b4, b5, b6, b7, b8, b9, b10, b11⟩ := a5 k hk
    have ez : zen u (28 + 7 * R) k = st + l.length := by
      unfold zen
      rw [b7, nI_clamp (Nat.lt_of_le_of_lt b8 (Nat.lt_of_le_of_lt hcs (by decide)))]
    have hwE : ∀ j, j < 4 → (nI w = nI j ↔ w = j) := fun j hj => zqE (Nat.lt_trans b1 (by decide)) (Nat.lt_trans hj (by decide))
    refine ⟨b2.trans b3.symm, fun e => b5 (fun z => e (by rw [b3, z])), fun e => b4 ((hwE 2 (by decide)).mp (b3.symm.trans e)), fun e => ?_⟩
    obtain ⟨s1, s2, s3⟩ := b11 (fun z => e (by rw [b3, z]))
    have hst : st + l.length ≤ 100 := Nat.le_trans b8 hcs
    clear b5 a5
    refine ⟨100 * R + st, 100 * R + (st + l.length), by omega, by omega, by omega, by omega, s2, s3, fun j j1 j2 => ?_, fun g => ?_⟩
    · have hj : j - 100 * R < cs.length := by omega
      have := a3 (j - 100 * R) hj
      rw [show 100 * R + (j - 100 * R) = j by omega] at this
      rw [this]
      exact zfi_R (a4 _ (zget_m hj))
    · have e1 : 100 * R + (st + l.length) - (100 * R + st) = l.length := by omega
      have e2 := zSeg_ev s1 (by decide) (x := zsrI u (28 + 7 * R + 6) g) (b := 28 + 7 * R) (fr := st) (fr2 := 100 * R + st) (w := u.1 94) (g := g) (fun i hi => by
        rw [zsrI_n (by omega), hc _ (by omega)]
        exact b10 i hi) zsrI_u (fun i hi => by
        have := a3 (st + i) (by omega)
        rw [show 100 * R + (st + i) = 100 * R + st + i by omega] at this
        rw [this, b10 i hi])
      rw [e1, e2]
      unfold zhd
      rw [ez, b6, show st + l.length - st = l.length by omega]
/-- the relation, where a room has been read, or has not -/
theorem zRl.rm {G : zG} {x u : zX} {N R L : Nat} {ok : Bool} (H : zRl G x N R L) (hR : R < 6)
    (hA : ∀ i, ¬ i = 0 → ¬ i = 1 → ¬ i = 77 → ¬ (28 + 7 * R ≤ i ∧ i ≤ 28 + 7 * R + 5) → ¬ (89 ≤ i ∧ i ≤ 95) → u.1 i = x.1 i) (h0 : ∀ k, ¬ k = 4 → ¬ k = 7 → ¬ k = 9 → u.1 0 k = x.1 0 k) (h1 : ∀ k, ¬ k = 6 → u.1 1 k = x.1 1 k) (h77 : ∀ k, ¬ k = 12 → ¬ k = 13 → ¬ k = 14 → ¬ k = 15 → ¬ k = 16 → ¬ k = 25 → ¬ k = 26 → ¬ k = 27 → u.1 77 k = x.1 77 k) (h2 : u.2 = x.2)
    (h89 : ∀ k, ¬ k = R → u.1 89 k = x.1 89 k) (h9 : ∀ i k, 90 ≤ i → i ≤ 93 → k < 10 * R → u.1 i k = x.1 i k) (h94 : ∀ j, j < 100 * R → u.1 94 j = x.1 94 j) (hz : (∃ q, u.1 77 15 = nI q) ∧ (∃ q, u.1 77 25 = nI q) ∧ ∃ q, u.1 77 26 = nI q) (hT : zTx u (28 + 7 * R)) (h04 : u.1 0 4 = nI 0) (h14 : u.1 77 14 = nI 0)
    (hok : (ok = true ∧ u.1 1 6 = nI R ∧ u.1 77 13 = nI R ∧ u.1 0 7 = nI (R + 1) ∧ u.1 77 12 = nI (R + 1) ∧ u.1 0 9 = nI 0 ∧ zRk u R) ∨ (ok = false ∧ u.1 1 6 = x.1 1 6 ∧ u.1 77 13 = x.1 77 13 ∧ u.1 0 7 = x.1 0 7 ∧ u.1 77 12 = x.1 77 12 ∧ u.1 0 9 = x.1 0 9)) : zRl G u N (if ok = true then R + 1 else R) 0 := by
  have hr : ∀ i, (2 ≤ i ∧ i < 28 ∨ 78 ≤ i ∧ i < 89 ∨ 95 < i) → u.1 i = x.1 i := fun i hi => hA i (by omega) (by omega) (by omega) (by omega) (by omega)
  have hold : ∀ r, r < R → zRk u r := fun r hr2 => by
    have e : ∀ j, j ≤ 5 → u.1 (28 + 7 * r + j) = x.1 (28 + 7 * r + j) := fun j hj => hA _ (by omega) (by omega) (by omega) (by omega) (by omega)
    exact zRk_c (x := x) (fun k _ => congrFun (e 0 (by omega)) k) (e 1 (by omega)) (e 2 (by omega)) (e 3 (by omega)) (e 4 (by omega)) (h89 r (by omega)) (fun i i1 i2 k hk => h9 i _ i1 i2 (by omega)) (fun k hk => h94 k (by omega)) (H.rq.2.2.2.1 r hr2)
  have e70 : u.1 70 = x.1 70 := hA 70 (by omega) (by omega) (by omega) (by omega) (by omega)
  have hkp : ∀ R2, R ≤ R2 → zKp u N R2 := fun R2 hR2 => by
    have := H.kp
    unfold zKp at this ⊢
    rw [h0 2 (by omega) (by omega) (by omega), h77 36 (by omega) (by omega) (by omega) (by omega) (by omega) (by omega) (by omega) (by omega), h77 37 (by omega) (by omega) (by omega) (by omega) (by omega) (by omega) (by omega) (by omega), h77 38 (by omega) (by omega) (by omega) (by omega) (by omega) (by omega) (by omega) (by omega), h77 39 (by omega) (by omega) (by omega) (by omega) (by omega) (by omega) (by omega) (by omega), h2, hr 2 (by omega), hr 7 (by omega), hr 8 (by omega), hr 102 (by omega), hr 103 (by omega), hr 104 (by omega), hr 105 (by omega), hr 106 (by omega)]
    refine this.elim Or.inl (fun ⟨z1, z2, K, z3, z4, z5, z6, z7, z8, z9, z10⟩ => Or.inr ⟨z1, z2, K, z3, z4, z5, z6, z7, z8, z9, ?_⟩)
    exact z10.elim Or.inl (fun ⟨r, r1, r2⟩ => Or.inr ⟨r, by omega, r2⟩)
  have mk : ∀ R2, R ≤ R2 → zHe R2 (u.1 1 6) (u.1 77 13) → zRq u R2 → zTa G u N → zRl G u N R2 0 := fun R2 hR2 he rq ta => by
    refine zRl.mk (ok := H.ok) (pp := ?_) (sc := ?_) (mo := ?_) (he := he) (kp := hkp R2 hR2) (rq := rq) (rz := ?_) (tc := ?_) (ta := ta) (pt := ?_) (rf := ?_) (rt := ?_) (b5 := ?_) (b6 := ?_)
    · exact zPp_c (x := x) (h1 3 (by omega)) (h77 0 (by omega) (by omega) (by omega) (by omega) (by omega) (by omega) (by omega) (by omega)) (by rw [h2]) (fun i hi => hr i (by omega)) (fun i i1 i2 => hr i (by omega)) H.pp
    · rw [hr 4 (by omega), hr 5 (by omega), h1 4 (by omega), hr 84 (by omega), hr 85 (by omega), hr 83 (by omega), hr 86 (by omega)]
      exact H.sc
    · rw [h2, hr 87 (by omega), h77 1 (by omega) (by omega) (by omega) (by omega) (by omega) (by omega) (by omega) (by omega)]
      exact H.mo
    · refine ⟨fun r hr2 => ?_, fun k hk => ?_, hz⟩
      · by_cases c : r = R
        · rw [c]
          exact hT
        · intro k hk
          rw [hA (28 + 7 * r + 5) (by omega) (by omega) (by omega) (by omega) (by omega)]
          exact H.rz.1 r hr2 k hk
      · rw [hr 96 (by omega)]
        exact H.rz.2.1 k hk
    · have := H.tc
      unfold zTc at this ⊢
      rw [hr 17 (by omega), hr 18 (by omega), hr 107 (by omega), h77 45 (by omega) (by omega) (by omega) (by omega) (by omega) (by omega) (by omega) (by omega)]
      exact this
    · have := H.pt
      unfold zPt zPw at this ⊢
      rw [h2]
      exact this
    · refine ⟨by omega, h04, h14, fun k hk => ?_, fun k hk => absurd hk (by omega)⟩
      rw [hr 9 (by omega)]
      exact H.rf.2.2.2.1 k hk
    · have := H.rt
      unfold zRt zTp zTpR zsz zszR at this ⊢
      rw [h2, hr 26 (by omega), hr 27 (by omega), hr 108 (by omega), hr 109 (by omega)]
      exact this
    · rw [hr 105 (by omega)]
      exact H.b5
    · rw [hr 106 (by omega)]
      exact H.b6
  rcases hok with ⟨rfl, o1, o2, o3, o4, o5, o6⟩ | ⟨rfl, o1, o2, o3, o4, o5⟩
  · rw [if_pos rfl]
    refine mk (R + 1) (by omega) ⟨o1.trans o2.symm, Or.inr ⟨R, by omega, o1⟩⟩ ⟨by omega, o3, o4, fun r hr2 => ?_, by rw [e70]; exact H.rq.2.2.2.2.1, by rw [e70]; exact H.rq.2.2.2.2.2⟩ (fun z => absurd o5 z)
    by_cases c : r = R
    · rw [c]
      exact o6
    · exact hold r (by omega)
  · rw [if_neg (by decide)]
    have hheld : ∀ j, j ≤ 5 → u.1 (zrix (x.1 1 6) + j) = x.1 (zrix (x.1 1 6) + j) := fun j hj => by
      obtain ⟨C, c1, c2⟩ := H.held
      rcases c2 with ⟨-, -, c3⟩ | ⟨r, c2, -, -, -, c3, -⟩
      · rw [c3]
        exact hA _ (by omega) (by omega) (by omega) (by omega) (by omega)
      · rw [c3]
        exact hA _ (by omega) (by omega) (by omega) (by omega) (by omega)
    refine mk R (Nat.le_refl R) (by rw [o1, o2]; exact H.he) ⟨by omega, o3.trans H.rq.2.1, o4.trans H.rq.2.2.1, hold, by rw [e70]; exact H.rq.2.2.2.2.1, by rw [e70]; exact H.rq.2.2.2.2.2⟩ ?_
    exact zTa_c2 H.now (fun i hi => hr i (by omega)) hheld (hr 5 (by omega)) (by rw [h2]) (fun i i1 i2 => hr i (by omega)) o5 o1 H.ta
theorem e_room {G : zG} {x u1 u2 : zX} {N R L na : Nat} {r1 r2 : Int32} (H : zRl G x N R L)
    (h1 : (R = 6 ∧ x = u1 ∧ -4 = r1) ∨ (R < 6 ∧ 0 ≤ (zrd (zby (zt0 x (28 + 7 * R) L) (28 + 7 * R) L) L (28 + 7 * R) 10 0 (zt0 x (28 + 7 * R) L) 0 []).1 ∧ zsI (zrd (zby (zt0 x (28 + 7 * R) L) (28 + 7 * R) L) L (28 + 7 * R) 10 0 (zt0 x (28 + 7 * R) L) 0 []).2 0 4 (nI 0) = u1 ∧ (-10) - (zrd (zby (zt0 x (28 + 7 * R) L) (28 + 7 * R) L) L (28 + 7 * R) 10 0 (zt0 x (28 + 7 * R) L) 0 []).1 = r1) ∨ (R < 6 ∧ ¬ 0 ≤ (zrd (zby (zt0 x (28 + 7 * R) L) (28 + 7 * R) L) L (28 + 7 * R) 10 0 (zt0 x (28 + 7 * R) L) 0 []).1 ∧ zsI (zsI (zsI (zsI (zrd (zby (zt0 x (28 + 7 * R) L) (28 + 7 * R) L) L (28 + 7 * R) 10 0 (zt0 x (28 + 7 * R) L) 0 []).2 0 4 (nI 0)) 1 6 (nI R)) 0 7 (nI (R + 1))) 0 9 (nI 0) = u1 ∧ nI R = r1))
    (h2 : (R = 6 ∧ u1 = u2 ∧ -4 = r2) ∨ (R < 6 ∧ ¬ (zrG (zrt u1 L) L R 10 0 u1 0 (100 * R) na (u1.1 77 27) (u1.1 77 16) (u1.1 94) (u1.1 95)).1 = true ∧ zsI (zrG (zrt u1 L) L R 10 0 u1 0 (100 * R) na (u1.1 77 27) (u1.1 77 16) (u1.1 94) (u1.1 95)).2 77 14 (nI 0) = u2 ∧ (-10) - (zrG (zrt u1 L) L R 10 0 u1 0 (100 * R) na (u1.1 77 27) (u1.1 77 16) (u1.1 94) (u1.1 95)).2.1 77 15 = r2) ∨ (R < 6 ∧ (zrG (zrt u1 L) L R 10 0 u1 0 (100 * R) na (u1.1 77 27) (u1.1 77 16) (u1.1 94) (u1.1 95)).1 = true ∧ zsI (zsI (zsI (zrG (zrt u1 L) L R 10 0 u1 0 (100 * R) na (u1.1 77 27) (u1.1 77 16) (u1.1 94) (u1.1 95)).2 77 14 (nI 0)) 77 13 (nI R)) 77 12 (nI (R + 1)) = u2 ∧ nI R = r2)) : r1 = r2 ∧ ∃ N R L, zRl G u2 N R L := by
  have hR6 := H.rq.1
  rcases h1 with ⟨c6, rfl, rfl⟩ | h1
  · rcases h2 with ⟨d6, rfl, rfl⟩ | ⟨d6, -⟩ | ⟨d6, -⟩
    · exact ⟨rfl, N, R, L, H⟩
    · omega
    · omega
  · have c6 : R < 6 := by rcases h1 with h | h <;> exact h.1
    obtain ⟨F1, F2, F3, F4, F5⟩ := H.rf
    have hTc : zby (zt0 x (28 + 7 * R) L) (28 + 7 * R) L = fun k => if k < L then x.1 9 k else -1 := zt0_by
    have hTe : zTe (zby (zt0 x (28 + 7 * R) L) (28 + 7 * R) L) L := fun k hk => by rw [hTc]; exact if_neg (by omega)
    have hB : ∀ k, zby1 (zby (zt0 x (28 + 7 * R) L) (28 + 7 * R) L k) := fun k => by
      rw [hTc]
      show zby1 (if k < L then x.1 9 k else -1)
      by_cases c : k < L
      · rw [if_pos c]
        exact Or.inr (F4 k (by omega))
      · rw [if_neg c]
        exact Or.inl rfl
    have hcl : ∀ i, ¬ (28 + 7 * R ≤ i ∧ i ≤ 28 + 7 * R + 5) → (zrd (zby (zt0 x (28 + 7 * R) L) (28 + 7 * R) L) L (28 + 7 * R) 10 0 (zt0 x (28 + 7 * R) L) 0 []).2.1 i = x.1 i := fun i hi => by
      rw [zrd_n (by omega) (by omega) (by omega) (by omega) (by omega), zt0_n (by omega) (by omega)]
    have hcl2 : (zrd (zby (zt0 x (28 + 7 * R) L) (28 + 7 * R) L) L (28 + 7 * R) 10 0 (zt0 x (28 + 7 * R) L) 0 []).2.2 = x.2 := zrd_2
    have hcx : zTx (zrd (zby (zt0 x (28 + 7 * R) L) (28 + 7 * R) L) L (28 + 7 * R) 10 0 (zt0 x (28 + 7 * R) L) 0 []).2 (28 + 7 * R) := fun k hk => by
      rw [zrd_n (by omega) (by omega) (by omega) (by omega) (by omega)]
      exact zt0_x F1 (H.rz.1 R (by omega)) F4 k hk
    have hz6 : (zt0 x (28 + 7 * R) L).1 (28 + 7 * R) 6 = nI 5 ∧ (zt0 x (28 + 7 * R) L).1 (28 + 7 * R) 4 = nI 0 := by
      rw [zt0_b]
      exact ⟨rfl, rfl⟩
    have key : ∀ u1 : zX, (∀ i, 78 ≤ i → i < 112 → u1.1 i = x.1 i) → zrt u1 L = zby (zt0 x (28 + 7 * R) L) (28 + 7 * R) L ∧ _ := fun u1 hu => ⟨by
      rw [hTc]
      funext k
      unfold zrt
      by_cases c : k < L
      · rw [if_pos c, if_pos c, hu 88 (by omega) (by omega)]
        exact (F5 k c).symm
      · rw [if_neg c, if_neg c], zrd_e (b := 28 + 7 * R) (f1 := R) F1 hTe hB 10 0 (zt0 x (28 + 7 * R) L) u1 0 (100 * R) na (u1.1 77 27) (u1.1 77 16) (u1.1 94) (u1.1 95) [] (by omega) (fun k hk => by rw [hu 96 (by omega) (by omega)]; exact H.rz.2.1 k hk) (by omega) (Nat.le_refl _) rfl hz6.2 ⟨hz6.1, rfl, fun j hj => absurd hj (by simp), fun v hv => absurd hv (by simp), fun k hk => absurd hk (by omega)⟩⟩
    generalize hA9 : zrd (zby (zt0 x (28 + 7 * R) L) (28 + 7 * R) L) L (28 + 7 * R) 10 0 (zt0 x (28 + 7 * R) L) 0 [] = A9 at *
    have hru : ∀ u1 : zX, (∀ i, 78 ≤ i → i < 112 → u1.1 i = A9.2.1 i) → ∀ i, 78 ≤ i → i < 112 → u1.1 i = x.1 i := fun u1 h i i1 i2 => (h i i1 i2).trans (hcl i (by omega))
    rcases h1 with ⟨-, ha, hu, rfl⟩ | ⟨-, ha, hu, rfl⟩
    · have hu78 : ∀ i, 78 ≤ i → i < 112 → u1.1 i = x.1 i := hru u1 (fun i i1 i2 => by rw [← hu]; exact zsI_n (by omega))
      have hu77 : u1.1 77 = x.1 77 := by rw [← hu, zsI_n (by omega)]; exact hcl 77 (by omega)
      obtain ⟨kT, kE⟩ := key u1 hu78
      rw [kT] at h2
      have hg := zrG_g (T := zby (zt0 x (28 + 7 * R) L) (28 + 7 * R) L) (F := L) (f1 := R) 10 0 u1 0 (100 * R) na (u1.1 77 27) (u1.1 77 16) (u1.1 94) (u1.1 95)
      have hg7 : ∀ k, k ≠ 15 → k ≠ 16 → k ≠ 25 → k ≠ 26 → k ≠ 27 → (zrG (zby (zt0 x (28 + 7 * R) L) (28 + 7 * R) L) L R 10 0 u1 0 (100 * R) na (u1.1 77 27) (u1.1 77 16) (u1.1 94) (u1.1 95)).2.1 77 k = u1.1 77 k := fun k k1 k2 k3 k4 k5 => zrG_7 k1 k2 k3 k4 k5 _ _ _ _ _ _ _ _ _ _
      generalize zrG (zby (zt0 x (28 + 7 * R) L) (28 + 7 * R) L) L R 10 0 u1 0 (100 * R) na (u1.1 77 27) (u1.1 77 16) (u1.1 94) (u1.1 95) = B at *
      rcases kE with ⟨k1, -⟩ | ⟨p2, kp2, k1, k2, k3⟩
      · rw [k1] at ha
        exact absurd ha (by decide)
      · rcases h2 with ⟨d6, -⟩ | ⟨-, d1, rfl, rfl⟩ | ⟨-, d1, -⟩
        · omega
        · obtain ⟨g1, g2, g3, g4, g5, g6⟩ := hg
          refine ⟨by rw [k1, k3], N, _, 0, H.rm (ok := false) (u := zsI B.2 77 14 (nI 0)) c6 (fun i i0 i1 i7 ib i9 => ?_) (fun k h4 h7 h9 => ?_) (fun k hk => ?_) (fun k k1 k2 k3 k4 k5 k6 k7 k8 => ?_) ?_ (fun k hk => ?_) (fun i k i1 i2 hk => ?_) (fun j hj => ?_) ?_ ?_ ?_ rfl (Or.inr ⟨rfl, ?_, ?_, ?_, ?_, ?_⟩)⟩
          · rw [zsI_n i7, g1 i i7 (by omega), ← hu, zsI_n i0]
            exact hcl i ib
          · rw [zsI_n (by omega), g1 0 (by omega) (by omega), ← hu, zsI_u]
            exact (if_neg h4).trans (congrFun (hcl 0 (by omega)) k)
          · rw [zsI_n (by omega), g1 1 (by omega) (by omega), ← hu, zsI_n (by omega), hcl 1 (by omega)]
          · rw [zsI_u]
            refine (if_neg k3).trans ?_
            rw [hg7 k k4 k5 k6 k7 k8, hu77]
          · show B.2.2 = x.2
            rw [g2, ← hu]
            exact hcl2
          · rw [zsI_n (by omega), g3 k hk, hu78 89 (by omega) (by omega)]
          · rw [zsI_n (by omega), g4 i k i1 i2 hk, hu78 i (by omega) (by omega)]
          · rw [zsI_n (by omega), g5 j hj, hu78 94 (by omega) (by omega)]
          · rw [zsI_u]
            exact g6
          · intro k hk
            rw [zsI_n (by omega), g1 _ (by omega) (by omega), ← hu, zsI_n (by omega)]
            exact hcx k hk
          · rw [zsI_n (by omega), g1 0 (by omega) (by omega), ← hu]
            rfl
          · rw [zsI_n (by omega), g1 1 (by omega) (by omega), ← hu, zsI_n (by omega), hcl 1 (by omega)]
          · rw [zsI_u]
            refine (if_neg (by omega)).trans ?_
            rw [hg7 13 (by omega) (by omega) (by omega) (by omega) (by omega), hu77]
          · rw [zsI_n (by omega), g1 0 (by omega) (by omega), ← hu, zsI_u]
            exact (if_neg (by omega)).trans (congrFun (hcl 0 (by omega)) 7)
          · rw [zsI_u]
            refine (if_neg (by omega)).trans ?_
            rw [hg7 12 (by omega) (by omega) (by omega) (by omega) (by omega), hu77]
          · rw [zsI_n (by omega), g1 0 (by omega) (by omega), ← hu, zsI_u]
            exact (if_neg (by omega)).trans (congrFun (hcl 0 (by omega)) 9)
        · rw [k2] at d1
          exact absurd d1 (by decide)
    · have hu78 : ∀ i, 78 ≤ i → i < 112 → u1.1 i = x.1 i := hru u1 (fun i i1 i2 => by rw [← hu, zsI_n (by omega), zsI_n (by omega), zsI_n (by omega), zsI_n (by omega)])
      have huc : ∀ i, ¬ i = 0 → ¬ i = 1 → u1.1 i = A9.2.1 i := fun i i0 i1 => by rw [← hu, zsI_n i0, zsI_n i0, zsI_n i1, zsI_n i0]
      have hu77 : u1.1 77 = x.1 77 := by rw [huc 77 (by omega) (by omega)]; exact hcl 77 (by omega)
      obtain ⟨kT, kE⟩ := key u1 hu78
      rw [kT] at h2
      have hg := zrG_g (T := zby (zt0 x (28 + 7 * R) L) (28 + 7 * R) L) (F := L) (f1 := R) 10 0 u1 0 (100 * R) na (u1.1 77 27) (u1.1 77 16) (u1.1 94) (u1.1 95)
      have hg7 : ∀ k, k ≠ 15 → k ≠ 16 → k ≠ 25 → k ≠ 26 → k ≠ 27 → (zrG (zby (zt0 x (28 + 7 * R) L) (28 + 7 * R) L) L R 10 0 u1 0 (100 * R) na (u1.1 77 27) (u1.1 77 16) (u1.1 94) (u1.1 95)).2.1 77 k = u1.1 77 k := fun k k1 k2 k3 k4 k5 => zrG_7 k1 k2 k3 k4 k5 _ _ _ _ _ _ _ _ _ _
      generalize zrG (zby (zt0 x (28 + 7 * R) L) (28 + 7 * R) L) L R 10 0 u1 0 (100 * R) na (u1.1 77 27) (u1.1 77 16) (u1.1 94) (u1.1 95) = B at *
      rcases kE with ⟨k1, k2, C2, cs2, k3, k4, k5, k6, k7, k8⟩ | ⟨p2, kp2, k1, k2, k3⟩
      · rcases h2 with ⟨d6, -⟩ | ⟨-, d1, -⟩ | ⟨-, d1, rfl, rfl⟩
        · omega
        · exact absurd k2 d1
        · obtain ⟨g1, g2, g3, g4, g5, g6⟩ := hg
          have e77 : ∀ i, ¬ i = 77 → (zsI (zsI (zsI B.2 77 14 (nI 0)) 77 13 (nI R)) 77 12 (nI (R + 1))).1 i = B.2.1 i := fun i hi => by rw [zsI_n hi, zsI_n hi, zsI_n hi]
          have ecl : ∀ i, ¬ i = 0 → ¬ i = 1 → ¬ i = 77 → (i < 89 ∨ 95 < i) → (zsI (zsI (zsI B.2 77 14 (nI 0)) 77 13 (nI R)) 77 12 (nI (R + 1))).1 i = A9.2.1 i := fun i i0 i1 i7 i8 => by rw [e77 i i7, g1 i i7 i8, huc i i0 i1]
          have e0 : ∀ k, (zsI (zsI (zsI B.2 77 14 (nI 0)) 77 13 (nI R)) 77 12 (nI (R + 1))).1 0 k = if k = 9 then nI 0 else if k = 7 then nI (R + 1) else if k = 4 then nI 0 else x.1 0 k := fun k => by
            rw [e77 0 (by omega), g1 0 (by omega) (by omega), ← hu]
            show (if k = 9 then nI 0 else if k = 7 then nI (R + 1) else if k = 4 then nI 0 else A9.2.1 0 k) = _
            rw [hcl 0 (by omega)]
          have e1 : ∀ k, (zsI (zsI (zsI B.2 77 14 (nI 0)) 77 13 (nI R)) 77 12 (nI (R + 1))).1 1 k = if k = 6 then nI R else x.1 1 k := fun k => by
            rw [e77 1 (by omega), g1 1 (by omega) (by omega), ← hu]
            show (if k = 6 then nI R else A9.2.1 1 k) = _
            rw [hcl 1 (by omega)]
          refine ⟨rfl, N, _, 0, H.rm (ok := true) (u := zsI (zsI (zsI B.2 77 14 (nI 0)) 77 13 (nI R)) 77 12 (nI (R + 1))) c6 (fun i i0 i1 i7 ib i9 => ?_) (fun k h4 h7 h9 => ?_) (fun k hk => ?_) (fun k k1 k2 k3 k4 k5 k6 k7 k8 => ?_) ?_ (fun k hk => ?_) (fun i k i1 i2 hk => ?_) (fun j hj => ?_) ?_ ?_ ?_ rfl (Or.inl ⟨rfl, ?_, rfl, ?_, rfl, ?_, ?_⟩)⟩
          · rw [ecl i i0 i1 i7 (by omega)]
            exact hcl i ib
          · rw [e0, if_neg h9, if_neg h7, if_neg h4]
          · rw [e1, if_neg hk]
          · rw [zsI_u, zsI_u, zsI_u]
            refine (if_neg k1).trans ((if_neg k2).trans ((if_neg k3).trans ?_))
            rw [hg7 k k4 k5 k6 k7 k8, hu77]
          · show B.2.2 = x.2
            rw [g2, ← hu]
            exact hcl2
          · rw [e77 89 (by omega), g3 k hk, hu78 89 (by omega) (by omega)]
          · rw [e77 i (by omega), g4 i k i1 i2 hk, hu78 i (by omega) (by omega)]
          · rw [e77 94 (by omega), g5 j hj, hu78 94 (by omega) (by omega)]
          · rw [zsI_u, zsI_u, zsI_u]
            exact g6
          · intro k hk
            rw [ecl _ (by omega) (by omega) (by omega) (by omega)]
            exact hcx k hk
          · rw [e0, if_neg (by omega), if_neg (by omega), if_pos rfl]
          · rw [e1, if_pos rfl]
          · rw [e0, if_neg (by omega), if_pos rfl]
          · rw [e0, if_pos rfl]
          · refine zRk_new (C := C2) (cs := cs2) k3 k4 ?_ ?_ (fun j hj => ?_) ?_
            · rw [ecl _ (by omega) (by omega) (by omega) (by omega)]
              exact k5
            · rw [e77 89 (by omega)]
              exact k6
            · rw [ecl _ (by omega) (by omega) (by omega) (by omega)]
              exact k7 j hj
            · obtain ⟨b1, b2, b3, b4, b5⟩ := k8
              have eb : ∀ j, j ≤ 5 → (zsI (zsI (zsI B.2 77 14 (nI 0)) 77 13 (nI R)) 77 12 (nI (R + 1))).1 (28 + 7 * R + j) = A9.2.1 (28 + 7 * R + j) := fun j hj => ecl _ (by omega) (by omega) (by omega) (by omega)
              have efr : ∀ k, zfr (zsI (zsI (zsI B.2 77 14 (nI 0)) 77 13 (nI R)) 77 12 (nI (R + 1))) (28 + 7 * R) k = zfr A9.2 (28 + 7 * R) k := fun k => zfr_c (eb 3 (by omega))
              refine ⟨?_, ?_, ?_, b4, fun k hk => ?_⟩
              · rw [show (zsI (zsI (zsI B.2 77 14 (nI 0)) 77 13 (nI R)) 77 12 (nI (R + 1))).1 (28 + 7 * R) = A9.2.1 (28 + 7 * R) from eb 0 (by omega), e77 90 (by omega), e77 91 (by omega)]
                exact b1
              · rw [efr]
                exact b2
              · rw [e77 94 (by omega)]
                exact b3
              · have := b5 k hk
                unfold zKc at this ⊢
                rw [eb 1 (by omega), eb 2 (by omega), eb 3 (by omega), efr, e77 90 (by omega), e77 91 (by omega), e77 92 (by omega), e77 93 (by omega)]
                exact this
      · rw [k1] at ha
        exact absurd (show (0 : Int32) ≤ nI p2 from z_nlt (nI_pos (by omega))) ha
