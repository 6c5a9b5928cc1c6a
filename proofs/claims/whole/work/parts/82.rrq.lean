/-! READING A TEXT, in the reference: bounds, clauses -/
theorem zsI_e {x : zX} {i k : Nat} {y : Int32} (h : x.1 i k = y) : zsI x i k y = x := by
  refine zX_ext (fun j q => ?_) rfl
  by_cases hj : j = i
  · rw [hj, zsI_u]
    show (if q = k then y else x.1 i q) = x.1 i q
    by_cases hq : q = k
    · rw [if_pos hq, hq, h]
    · rw [if_neg hq]
  · rw [zsI_n hj]
theorem zsI_t {x : zX} {i k : Nat} {y z : Int32} : zsI (zsI x i k y) i k z = zsI x i k z := by
  refine zX_ext (fun j q => ?_) rfl
  by_cases hj : j = i
  · rw [hj, zsI_u, zsI_u, zsI_u]
    show (if q = k then z else if q = k then y else x.1 i q) = (if q = k then z else x.1 i q)
    by_cases hq : q = k
    · rw [if_pos hq, if_pos hq]
    · rw [if_neg hq, if_neg hq, if_neg hq]
  · rw [zsI_n hj, zsI_n hj, zsI_n hj]
theorem znuR_f {T : Nat → Int32} {p : Nat} {d : Int32} (h : ¬ (znuR T p d).1 = true) : znuR T p d = (false, p, d) := by
  unfold znuR at h ⊢
  by_cases h1 : zdr (T p)
  · rw [if_pos h1] at h
    refine absurd ?_ h
    split <;> rfl
  · rw [if_neg h1]
theorem zT_lt {T : Nat → Int32} {F p : Nat} (hT : zTe T F) (h : ¬ T p = -1) : p + 1 ≤ F := by
  by_cases hp : p < F
  · exact hp
  · exact absurd (hT p (by omega)) h
theorem zpl_lt {T : Nat → Int32} {F p : Nat} (hT : zTe T F) (h : ¬ zpl (T p) < 0) : p + 1 ≤ F := zT_lt hT (fun e => h (by rw [e]; decide))
theorem zdrs_lt {T : Nat → Int32} {F p : Nat} (hT : zTe T F) (h : zdrs (T p)) : p + 1 ≤ F := zT_lt hT (fun e => absurd h (by rw [e]; decide))
theorem zdr_lt {T : Nat → Int32} {F p : Nat} (hT : zTe T F) (h : zdr (T p)) : p + 1 ≤ F := zT_lt hT (fun e => absurd h (by rw [e]; decide))
theorem znuR_in {T : Nat → Int32} {F p : Nat} {d : Int32} (hT : zTe T F) (hp : p ≤ F) : (znuR T p d).2.1 ≤ F ∧ p ≤ (znuR T p d).2.1 := by
  unfold znuR
  split
  · next h =>
    have h1 := zdr_lt hT h
    split
    · next h2 =>
      have h3 := zdr_lt hT h2
      exact ⟨h3, by show p ≤ p + 2; omega⟩
    · exact ⟨h1, by show p ≤ p + 1; omega⟩
  · exact ⟨hp, Nat.le_refl _⟩
/-- bounds of a state that reads: what is put down and waits, with what is left, stays in its row -/
def zrI (F p : Nat) (R : zRS) : Prop := R.1 ≤ F ∧ p ≤ R.1 ∧ R.2.2.1 ≤ R.1 ∧ R.2.1 + R.2.2.1 + (F - R.1) ≤ 600
theorem zrT_in {T : Nat → Int32} {F p s n : Nat} {o d : Int32} {w4 w5 : Nat → Int32} (hT : zTe T F) (hp : p ≤ F) (hn : n ≤ p) (hs : s + n + (F - p) ≤ 600) : zrI F p (zrT T p s n o d w4 w5).2 ∧ ((zrT T p s n o d w4 w5).1 = true → p + 1 ≤ (zrT T p s n o d w4 w5).2.1) := by
  unfold zrT
  split
  · exact ⟨⟨hp, Nat.le_refl _, hn, hs⟩, fun h => absurd h Bool.false_ne_true⟩
  · next h1 =>
    have d1 := zpl_lt hT h1
    split
    · next h2 =>
      have d2 : p + 2 ≤ F := zdrs_lt hT h2
      have d3 := znuR_in (p := p + 2) (d := d) hT d2
      split
      · have d4 := zwl_le (w5 := w5) n (s + 1) o (upd w4 s (nI 1000 * zpl (T p) + nI 100 * (T (p + 1) - nI 60) + (znuR T (p + 2) d).2.2))
        refine ⟨⟨d3.1, ?_, ?_, ?_⟩, fun _ => ?_⟩
        · show p ≤ (znuR T (p + 2) d).2.1
          omega
        · show (zwl w5 n (s + 1) o _).2.1 ≤ (znuR T (p + 2) d).2.1
          omega
        · show (zwl w5 n (s + 1) o _).1 + (zwl w5 n (s + 1) o _).2.1 + (F - (znuR T (p + 2) d).2.1) ≤ 600
          omega
        · show p + 1 ≤ (znuR T (p + 2) d).2.1
          omega
      · exact ⟨⟨d2, by show p ≤ p + 2; omega, by show n ≤ p + 2; omega, by show s + n + (F - (p + 2)) ≤ 600; omega⟩, fun h => absurd h Bool.false_ne_true⟩
    · exact ⟨⟨d1, by show p ≤ p + 1; omega, by show n ≤ p + 1; omega, by show s + n + (F - (p + 1)) ≤ 600; omega⟩, fun h => absurd h Bool.false_ne_true⟩
theorem zrE_in {T : Nat → Int32} {F : Nat} (hT : zTe T F) : ∀ (g : Nat) (bw : Bool) (p s n : Nat) (o d : Int32) (w4 w5 : Nat → Int32) (tv : Int32), p ≤ F → n ≤ p → s + n + (F - p) ≤ 600 → zrI F p (zrE T g bw p s n o d w4 w5 tv).2.2
  | 0, _, p, s, n, _, _, _, _, _, hp, hn, hs => ⟨hp, Nat.le_refl _, hn, hs⟩
  | g + 1, true, p, s, n, o, d, w4, w5, tv, hp, hn, hs => by
    rw [zrE]
    split
    · next h =>
      have d1 : p + 1 ≤ F := zT_lt hT (fun e => by rw [e] at h; exact absurd h (by decide))
      split
      · exact ⟨hp, Nat.le_refl _, hn, hs⟩
      · have h9 := zrE_in hT g true (p + 1) s (n + 1) (o + nI 1) d w4 (upd w5 n (T p)) tv d1 (by omega) (by omega)
        exact ⟨h9.1, by have := h9.2.1; omega, h9.2.2.1, h9.2.2.2⟩
    · have d2 := zrT_in (o := o) (d := d) (w4 := w4) (w5 := w5) hT hp hn hs
      split
      · next h =>
        have d3 := d2.2 h
        have h9 := zrE_in hT g false _ _ _ (zrT T p s n o d w4 w5).2.2.2.2.1 (zrT T p s n o d w4 w5).2.2.2.2.2.1 (zrT T p s n o d w4 w5).2.2.2.2.2.2.1 (zrT T p s n o d w4 w5).2.2.2.2.2.2.2 tv d2.1.1 d2.1.2.2.1 d2.1.2.2.2
        exact ⟨h9.1, by have := h9.2.1; omega, h9.2.2.1, h9.2.2.2⟩
      · exact d2.1
  | g + 1, false, p, s, n, o, d, w4, w5, tv, hp, hn, hs => by
    rw [zrE]
    have e1 := zsl_le (w5 := w5) (g := T p) n s w4
    have e2 := zsl_le (w5 := w5) (g := nI 124) n s w4
    split
    · next h =>
      have d1 : p + 1 ≤ F := zT_lt hT (fun e => by rw [e] at h; exact absurd h (by decide))
      have h9 := zrE_in hT g true (p + 1) (zsl w5 (T p) n s w4).1 ((zsl w5 (T p) n s w4).2.1 + 1) o d (zsl w5 (T p) n s w4).2.2 (upd w5 (zsl w5 (T p) n s w4).2.1 (T p)) tv d1 (by omega) (by omega)
      exact ⟨h9.1, by have := h9.2.1; omega, h9.2.2.1, h9.2.2.2⟩
    · split
      · exact ⟨hp, Nat.le_refl _, by show (zsl w5 (nI 124) n s w4).2.1 ≤ p; omega, by show (zsl w5 (nI 124) n s w4).1 + (zsl w5 (nI 124) n s w4).2.1 + (F - p) ≤ 600; omega⟩
      · split
        · next h =>
          have d1 : p + 1 ≤ F := zT_lt hT (fun e => by rw [e] at h; exact absurd h (by decide))
          have e3 := zwl_le (w5 := w5) ((zsl w5 (nI 124) n s w4).2.1 - 1) (zsl w5 (nI 124) n s w4).1 (o - nI 1) (zsl w5 (nI 124) n s w4).2.2
          have h9 := zrE_in hT g false (p + 1) (zwl w5 ((zsl w5 (nI 124) n s w4).2.1 - 1) (zsl w5 (nI 124) n s w4).1 (o - nI 1) (zsl w5 (nI 124) n s w4).2.2).1 (zwl w5 ((zsl w5 (nI 124) n s w4).2.1 - 1) (zsl w5 (nI 124) n s w4).1 (o - nI 1) (zsl w5 (nI 124) n s w4).2.2).2.1 (zwl w5 ((zsl w5 (nI 124) n s w4).2.1 - 1) (zsl w5 (nI 124) n s w4).1 (o - nI 1) (zsl w5 (nI 124) n s w4).2.2).2.2.1 d (zwl w5 ((zsl w5 (nI 124) n s w4).2.1 - 1) (zsl w5 (nI 124) n s w4).1 (o - nI 1) (zsl w5 (nI 124) n s w4).2.2).2.2.2 w5 (nI (zsl w5 (nI 124) n s w4).1) d1 (by omega) (by omega)
          exact ⟨h9.1, by have := h9.2.1; omega, h9.2.2.1, h9.2.2.2⟩
        · exact ⟨hp, Nat.le_refl _, by show (zsl w5 (nI 124) n s w4).2.1 ≤ p; omega, by show (zsl w5 (nI 124) n s w4).1 + (zsl w5 (nI 124) n s w4).2.1 + (F - p) ≤ 600; omega⟩
/-- which word, and its letters -/
def zrhw (T : Nat → Int32) (p : Nat) : Int32 := if T p = nI 98 then nI 2 else if T p = nI 108 then (if T (p + 1) = nI 111 then nI 1 else nI 0) else nI 3
def zrhf (w : Int32) : Nat := if w = nI 0 then 0 else if w = nI 1 then 5 else if w = nI 2 then 9 else 12
def zrhm (w : Int32) : Nat := if w = nI 0 then 5 else if w = nI 1 then 4 else if w = nI 2 then 3 else 4
/-- the word of a clause -/
def zrH (x : zX) (T : Nat → Int32) (p : Nat) : Bool × Nat := zrw T (fun k => x.1 96 (zrhf (zrhw T p) + k)) p (zrhm (zrhw T p))
/-- a clause: whether, the rows of clauses, and how it reads on -/
def zrCE (x : zX) (T : Nat → Int32) (F c p s n : Nat) (o d : Int32) (w4 w5 : Nat → Int32) : Bool × zX × zRS :=
  ((zrE T (F + 1 - p) true p s 0 (nI 0) d w4 w5 (x.1 93 c)).1, zsI (zsI x 92 c (nI s)) 93 c (zrE T (F + 1 - p) true p s 0 (nI 0) d w4 w5 (x.1 93 c)).2.1, (zrE T (F + 1 - p) true p s 0 (nI 0) d w4 w5 (x.1 93 c)).2.2)
def zrC (x : zX) (T : Nat → Int32) (F c p s n : Nat) (o d : Int32) (w4 w5 : Nat → Int32) : Bool × zX × zRS :=
  if (zrH x T p).1 = true then (if zrhw T p = nI 2 then zrCE (zsI x 90 c (zrhw T p)) T F c (zrH x T p).2 s n o d w4 w5
    else if (znuR T (zrH x T p).2 d).1 = true then (if zrhw T p = nI 3 then (true, zsI (zsI x 90 c (zrhw T p)) 91 c (znuR T (zrH x T p).2 d).2.2, (znuR T (zrH x T p).2 d).2.1, s, n, o, (znuR T (zrH x T p).2 d).2.2, w4, w5)
      else if T (znuR T (zrH x T p).2 d).2.1 = nI 32 then zrCE (zsI (zsI x 90 c (zrhw T p)) 91 c (znuR T (zrH x T p).2 d).2.2) T F c ((znuR T (zrH x T p).2 d).2.1 + 1) s n o (znuR T (zrH x T p).2 d).2.2 w4 w5
      else (false, zsI (zsI x 90 c (zrhw T p)) 91 c (znuR T (zrH x T p).2 d).2.2, (znuR T (zrH x T p).2 d).2.1, s, n, o, (znuR T (zrH x T p).2 d).2.2, w4, w5))
    else (false, zsI x 90 c (zrhw T p), (zrH x T p).2, s, n, o, d, w4, w5))
  else (false, zsI x 90 c (zrhw T p), (zrH x T p).2, s, n, o, d, w4, w5)
theorem zrw_in {T l : Nat → Int32} {F p n : Nat} (hT : zTe T F) (hp : p ≤ F) (hl : ∀ k, k < n → ¬ l k = -1) : (zrw T l p n).2 ≤ F ∧ p ≤ (zrw T l p n).2 := by
  have h := zmt_in hT hp n hl
  unfold zrw
  split
  · next h2 =>
    rw [h2] at h
    split
    · next h3 => exact ⟨zT_lt hT (fun e => by rw [e] at h3; exact absurd h3 (by decide)), by show p ≤ p + n + 1; omega⟩
    · exact ⟨h, by show p ≤ p + n; omega⟩
  · exact ⟨h, by show p ≤ p + zmt T l p n; omega⟩
theorem zrhf_m : ∀ w : Int32, zrhf w + zrhm w ≤ 16 := by
  intro w
  unfold zrhf zrhm
  repeat' split
  all_goals omega
theorem zrH_in {x : zX} {T : Nat → Int32} {F p : Nat} (hT : zTe T F) (hp : p ≤ F) (hl : ∀ k, k < 16 → ¬ x.1 96 k = -1) : (zrH x T p).2 ≤ F ∧ p ≤ (zrH x T p).2 := zrw_in hT hp (fun k hk => hl _ (by have := zrhf_m (zrhw T p); omega))
theorem zrCE_in {x : zX} {T : Nat → Int32} {F c p s n : Nat} {o d : Int32} {w4 w5 : Nat → Int32} (hT : zTe T F) (hp : p ≤ F) (hs : s + (F - p) ≤ 600) : zrI F p (zrCE x T F c p s n o d w4 w5).2.2 := zrE_in hT _ _ _ _ _ _ _ _ _ _ hp (Nat.zero_le _) (by omega)
theorem zrCE_n {x : zX} {T : Nat → Int32} {F c p s n i : Nat} {o d : Int32} {w4 w5 : Nat → Int32} (h2 : i ≠ 92) (h3 : i ≠ 93) : (zrCE x T F c p s n o d w4 w5).2.1.1 i = x.1 i := by
  show (zsI (zsI x 92 c (nI s)) 93 c _).1 i = _
  rw [zsI_n h3, zsI_n h2]
/-- of a clause: where it stops, how much is put down -/
theorem zrC_in {x : zX} {T : Nat → Int32} {F c p s n : Nat} {o d : Int32} {w4 w5 : Nat → Int32} (hT : zTe T F) (hp : p ≤ F) (hs : s + (F - p) ≤ 600) (hl : ∀ k, k < 16 → ¬ x.1 96 k = -1) : (zrC x T F c p s n o d w4 w5).2.2.1 ≤ F ∧ (zrC x T F c p s n o d w4 w5).2.2.2.1 + (F - (zrC x T F c p s n o d w4 w5).2.2.1) ≤ 600 := by
  have h1 := zrH_in (x := x) hT hp hl
  have h2 := znuR_in (d := d) hT h1.1
  unfold zrC
  split
  · split
    · have h3 := zrCE_in (x := zsI x 90 c (zrhw T p)) (c := c) (s := s) (n := n) (o := o) (d := d) (w4 := w4) (w5 := w5) hT h1.1 (by omega)
      exact ⟨h3.1, by have := h3.2.2.2; omega⟩
    · split
      · split
        · exact ⟨h2.1, by show s + (F - (znuR T (zrH x T p).2 d).2.1) ≤ 600; omega⟩
        · split
          · next h9 =>
            have h4 : (znuR T (zrH x T p).2 d).2.1 + 1 ≤ F := zT_lt hT (fun e => by rw [e] at h9; exact absurd h9 (by decide))
            have h3 := zrCE_in (x := zsI (zsI x 90 c (zrhw T p)) 91 c (znuR T (zrH x T p).2 d).2.2) (c := c) (s := s) (n := n) (o := o) (d := (znuR T (zrH x T p).2 d).2.2) (w4 := w4) (w5 := w5) hT h4 (by omega)
            exact ⟨h3.1, by have := h3.2.2.2; omega⟩
          · exact ⟨h2.1, by show s + (F - (znuR T (zrH x T p).2 d).2.1) ≤ 600; omega⟩
      · exact ⟨h1.1, by show s + (F - (zrH x T p).2) ≤ 600; omega⟩
  · exact ⟨h1.1, by show s + (F - (zrH x T p).2) ≤ 600; omega⟩
theorem zrC_n {x : zX} {T : Nat → Int32} {F c p s n i : Nat} {o d : Int32} {w4 w5 : Nat → Int32} (h0 : i ≠ 90) (h1 : i ≠ 91) (h2 : i ≠ 92) (h3 : i ≠ 93) : (zrC x T F c p s n o d w4 w5).2.1.1 i = x.1 i := by
  unfold zrC
  split
  · split
    · rw [zrCE_n h2 h3, zsI_n h0]
    · split
      · split
        · show (zsI (zsI x 90 c _) 91 c _).1 i = _
          rw [zsI_n h1, zsI_n h0]
        · split
          · rw [zrCE_n h2 h3, zsI_n h1, zsI_n h0]
          · show (zsI (zsI x 90 c _) 91 c _).1 i = _
            rw [zsI_n h1, zsI_n h0]
      · exact zsI_n h0
  · exact zsI_n h0
/-- a text: whether, and what stands then -/
def zrG (T : Nat → Int32) (F f1 : Nat) : Nat → Nat → zX → Nat → Nat → Nat → Int32 → Int32 → (Nat → Int32) → (Nat → Int32) → Bool × zX
  | 0, _, y, p, s, n, o, d, w4, w5 => (false, zrr y p s n o d w4 w5)
  | m + 1, k, y, p, s, n, o, d, w4, w5 =>
    if (zrC y T F (10 * f1 + k) p s n o d w4 w5).1 = true then
      (if (zrC y T F (10 * f1 + k) p s n o d w4 w5).2.2.1 = F then (true, zru (zsI (zrC y T F (10 * f1 + k) p s n o d w4 w5).2.1 89 f1 (nI (k + 1))) (zrC y T F (10 * f1 + k) p s n o d w4 w5).2.2)
      else if k + 1 = 10 then (false, zru (zsI (zrC y T F (10 * f1 + k) p s n o d w4 w5).2.1 89 f1 (nI (k + 1))) (zrC y T F (10 * f1 + k) p s n o d w4 w5).2.2)
      else if T (zrC y T F (10 * f1 + k) p s n o d w4 w5).2.2.1 = nI 59 then zrG T F f1 m (k + 1) (zsI (zrC y T F (10 * f1 + k) p s n o d w4 w5).2.1 89 f1 (nI (k + 1))) ((zrC y T F (10 * f1 + k) p s n o d w4 w5).2.2.1 + 1) (zrC y T F (10 * f1 + k) p s n o d w4 w5).2.2.2.1 (zrC y T F (10 * f1 + k) p s n o d w4 w5).2.2.2.2.1 (zrC y T F (10 * f1 + k) p s n o d w4 w5).2.2.2.2.2.1 (zrC y T F (10 * f1 + k) p s n o d w4 w5).2.2.2.2.2.2.1 (zrC y T F (10 * f1 + k) p s n o d w4 w5).2.2.2.2.2.2.2.1 (zrC y T F (10 * f1 + k) p s n o d w4 w5).2.2.2.2.2.2.2.2
      else (false, zru (zsI (zrC y T F (10 * f1 + k) p s n o d w4 w5).2.1 89 f1 (nI (k + 1))) (zrC y T F (10 * f1 + k) p s n o d w4 w5).2.2))
    else (false, zru (zrC y T F (10 * f1 + k) p s n o d w4 w5).2.1 (zrC y T F (10 * f1 + k) p s n o d w4 w5).2.2)
theorem zrr_e {x : zX} {p s n : Nat} (h1 : x.1 77 15 = nI p) (h2 : x.1 77 25 = nI s) (h3 : x.1 77 26 = nI n) : zrr x p s n (x.1 77 27) (x.1 77 16) (x.1 94) (x.1 95) = x := by
  refine zrr_x ?_ rfl rfl (fun i a b c => zrr_n a b c) rfl
  rw [zrr_7r]
  funext k
  unfold upd
  by_cases k5 : k = 27
  · simp [k5]
  · by_cases k4 : k = 26
    · simp [k4, h3]
    · by_cases k3 : k = 25
      · simp [k3, h2]
      · by_cases k2 : k = 16
        · simp [k2]
        · by_cases k1 : k = 15
          · simp [k1, h1]
          · simp [k1, k2, k3, k4, k5]
theorem zru_7 {y : zX} {R : zRS} {k : Nat} (h1 : k ≠ 15) (h2 : k ≠ 16) (h3 : k ≠ 25) (h4 : k ≠ 26) (h5 : k ≠ 27) : (zru y R).1 77 k = y.1 77 k := by
  unfold zru
  rw [zrr_7r]
  unfold upd
  rw [if_neg h5, if_neg h4, if_neg h3, if_neg h2, if_neg h1]
theorem zrG_7 {T : Nat → Int32} {F f1 k : Nat} (h1 : k ≠ 15) (h2 : k ≠ 16) (h3 : k ≠ 25) (h4 : k ≠ 26) (h5 : k ≠ 27) : ∀ (m q : Nat) (y : zX) (p s n : Nat) (o d : Int32) (w4 w5 : Nat → Int32), (zrG T F f1 m q y p s n o d w4 w5).2.1 77 k = y.1 77 k
  | 0, _, y, p, s, n, o, d, w4, w5 => zru_7 (R := (p, s, n, o, d, w4, w5)) h1 h2 h3 h4 h5
  | m + 1, q, y, p, s, n, o, d, w4, w5 => by
    have e0 : (zrC y T F (10 * f1 + q) p s n o d w4 w5).2.1.1 77 = y.1 77 := zrC_n (by decide) (by decide) (by decide) (by decide)
    have e1 : (zsI (zrC y T F (10 * f1 + q) p s n o d w4 w5).2.1 89 f1 (nI (q + 1))).1 77 = y.1 77 := (zsI_n (by decide)).trans e0
    rw [zrG]
    split
    · split
      · exact (zru_7 h1 h2 h3 h4 h5).trans (congrFun e1 k)
      · split
        · exact (zru_7 h1 h2 h3 h4 h5).trans (congrFun e1 k)
        · split
          · exact (zrG_7 h1 h2 h3 h4 h5 m _ _ _ _ _ _ _ _ _).trans (congrFun e1 k)
          · exact (zru_7 h1 h2 h3 h4 h5).trans (congrFun e1 k)
    · exact (zru_7 h1 h2 h3 h4 h5).trans (congrFun e0 k)
