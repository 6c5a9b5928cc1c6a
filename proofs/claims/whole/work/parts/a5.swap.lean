/-! THE BEST SO FAR; the best swap: class and reference answer alike -/
abbrev zB3 : Type := Option (Int32 × Int32 × (Nat → Int32))
def zcon (T : zB3) (B W : Int32) (f : Nat → Int32) : zB3 := match T with | none => some (B, W, f) | some (b, w, g) => if b < B ∨ (B = b ∧ W ≤ w) then some (b, w, g) else some (B, W, f)
def zHas (z : zX) (T : zB3) : Prop := match T with | none => z.1 11 5 = 0 | some (b, w, g) => ¬ z.1 11 5 = 0 ∧ z.1 11 6 = b ∧ z.1 11 7 = w ∧ ∀ k, k < 8 → z.1 16 k = g k
theorem zkeep_h {z : zX} {B W : Int32} : zHas (zkeep z B W) (some (B, W, z.1 15)) := by
  refine ⟨show ¬ nI 1 = 0 from by decide, rfl, rfl, fun k hk => ?_⟩
  show va_cpy (z.1 15) (z.1 16) 0 0 8 k = z.1 15 k
  unfold va_cpy
  rw [if_pos ⟨by omega, by omega⟩, show 0 + (k - 0) = k by omega]
theorem zweigh_h {z : zX} {T : zB3} {aim : Int32} (h : zHas z T) : zHas (zweigh z aim) (zcon T (zBk z aim) (zWk z aim) (z.1 15)) := by
  unfold zweigh
  match T, h with
  | none, h =>
    rw [if_neg (fun z9 => z9.1 h)]
    exact zkeep_h
  | some (b, w, g), h =>
    obtain ⟨h1, h2, h3, h4⟩ := h
    show zHas _ (if b < zBk z aim ∨ (zBk z aim = b ∧ zWk z aim ≤ w) then some (b, w, g) else some (zBk z aim, zWk z aim, z.1 15))
    by_cases c : b < zBk z aim ∨ (zBk z aim = b ∧ zWk z aim ≤ w)
    · rw [if_pos c, if_pos ⟨h1, by rw [h2, h3]; exact c⟩]
      exact ⟨h1, h2, h3, h4⟩
    · rw [if_neg c, if_neg (fun z9 => c (by have := z9.2; rw [h2, h3] at this; exact this))]
      exact zkeep_h
/-- states of a search: nothing but the trial and the best so far differ -/
def zSr (v z : zX) : Prop := z.2 = v.2 ∧ ∀ i, ¬ i = 11 → ¬ i = 15 → ¬ i = 16 → z.1 i = v.1 i
theorem zSr.o {v z u : zX} (h : zSr v z) (g : zOnly z u) : zSr v u := ⟨g.1.trans h.1, fun i h1 h2 h3 => (g.2 i h1 h3).trans (h.2 i h1 h2 h3)⟩
theorem zSr.x {v z : zX} {a b : Nat} (h : zSr v z) : zSr v (zxz a b z) := ⟨h.1, fun i h1 h2 h3 => (zxz_n h2).trans (h.2 i h1 h2 h3)⟩
theorem zSr.b {v : zX} {g : Nat → Int32} : zSr v (zbg v g) := ⟨rfl, fun i h1 h2 h3 => by unfold zbg; rw [zsrI_n h2, zsI_n h1, zsI_n h1, zsI_n h1]⟩
theorem zTW_u {N : Nat} {u u2 y : zX} (h : zTW N u y) (e12 : u2.1 12 = u.1 12) (e13 : u2.1 13 = u.1 13) (e14 : u2.1 14 = u.1 14) (e1 : u2.1 1 = u.1 1) : zTW N u2 y := by
  unfold zTW at h ⊢
  rw [e12, e13, e14, e1]
  exact h
theorem zTW_s {N : Nat} {v z y : zX} (h : zTW N v y) (hs : zSr v z) : zTW N z y := zTW_u h (hs.2 12 (by omega) (by omega) (by omega)) (hs.2 13 (by omega) (by omega) (by omega)) (hs.2 14 (by omega) (by omega) (by omega)) (hs.2 1 (by omega) (by omega) (by omega))
/-- a row with two places exchanged -/
def zrx (a b : Nat) (f : Nat → Int32) (k : Nat) : Int32 := if k = b then f a else if k = a then f b else f k
theorem zRw_x {N a b : Nat} {f : Nat → Int32} (ha : a < 8) (hb : b < 8) (hab : ¬ a = b) (h : zRw N f) : zRw N (zrx a b f) := by
  have hs : ∀ k, ∃ j, zrx a b f k = f j ∧ (k < 8 → j < 8) ∧ j = (if k = b then a else if k = a then b else k) := fun k => by
    unfold zrx
    by_cases c1 : k = b
    · rw [if_pos c1, if_pos c1]
      exact ⟨a, rfl, fun _ => ha, rfl⟩
    · rw [if_neg c1, if_neg c1]
      by_cases c2 : k = a
      · rw [if_pos c2, if_pos c2]
        exact ⟨b, rfl, fun _ => hb, rfl⟩
      · rw [if_neg c2, if_neg c2]
        exact ⟨k, rfl, fun z => z, rfl⟩
  refine ⟨fun t ht => ?_, fun t t2 ht ht2 hne h1 h2 => ?_⟩
  · obtain ⟨j, e1, e2, -⟩ := hs t
    rw [e1]
    exact h.1 j (e2 ht)
  · obtain ⟨j, e1, e2, e3⟩ := hs t
    obtain ⟨j2, f1, f2, f3⟩ := hs t2
    rw [e1] at h1 h2
    rw [f1] at h2
    refine h.2 j j2 (e2 ht) (f2 ht2) (fun z => ?_) h1 h2
    rw [e3, f3] at z
    split at z <;> split at z <;> (try split at z) <;> (try split at z) <;> omega
theorem zRw_c {N : Nat} {f g : Nat → Int32} (h : zRw N f) (e : ∀ t, t < 8 → g t = f t) : zRw N g := by
  refine ⟨fun t ht => by rw [e t ht]; exact h.1 t ht, fun t t2 ht ht2 => ?_⟩
  rw [e t ht, e t2 ht2]
  exact h.2 t t2 ht ht2
theorem zneg_e {N : Nat} {v : Int32} (h : v = -1 ∨ ∃ q, q < N ∧ v = nI q) (h8 : N ≤ 8) : v = -1 ↔ v < 0 := by
  rcases h with rfl | ⟨q, hq, rfl⟩
  · decide
  · exact ⟨fun z => absurd z (znm1 (by omega)), fun z => absurd z (nI_pos (by omega))⟩
/-- one exchange weighed, in class and reference -/
theorem zxst_e {N : Nat} {v z y : zX} {f : Nat → Int32} {c : Int32} {t : zS3} {g : Nat → Int32} {a b : Nat} (h8 : N ≤ 8) (T : zTW N v y) (hf : zRw N f) (hy : ∀ k, k < 8 → y.1 100 k = f k) (ha : a < 8) (hb : b < 8) (hab : ¬ a = b) (hs : zSr v z) (hz : ∀ k, k < 8 → z.1 15 k = f k) (hc : c = t.1) (hh : zHas z (some (t.2.1, t.2.2, g))) :
    zSr v (zxst a b (z, c)).1 ∧ (∀ k, k < 8 → (zxst a b (z, c)).1.1 15 k = f k) ∧ (zxst a b (z, c)).2 = (zsw1 y a b t).1 ∧ ∃ g2, zHas (zxst a b (z, c)).1 (some ((zsw1 y a b t).2.1, (zsw1 y a b t).2.2, g2)) := by
  have hcond : (z.1 15 a = -1 ∧ z.1 15 b = -1) ↔ (y.1 100 a < 0 ∧ y.1 100 b < 0) := by
    rw [hz a ha, hz b hb, hy a ha, hy b hb, zneg_e (hf.1 a ha) h8, zneg_e (hf.1 b hb) h8]
  by_cases c0 : z.1 15 a = -1 ∧ z.1 15 b = -1
  · have e1 : zxst a b (z, c) = (z, c) := if_pos c0
    have e2 : zsw1 y a b t = t := if_pos (hcond.mp c0)
    rw [e1, e2]
    exact ⟨hs, hz, hc, g, hh⟩
  · have e1 : zxst a b (z, c) = (zxz a b (zweigh (zxz a b z) (nI 2)), if zworse (zxz a b z) (nI 2) then c else nI (10 * a + b)) := if_neg c0
    have e2 : zsw1 y a b t = if t.2.1 < zsum (zsk (zcx a b y) (-1)) 8 ∨ (zsum (zsk (zcx a b y) (-1)) 8 = t.2.1 ∧ zsum (zsw (zcx a b y)) 8 ≤ t.2.2) then t else (nI (10 * a + b), zsum (zsk (zcx a b y) (-1)) 8, zsum (zsw (zcx a b y)) 8) := if_neg (fun z9 => c0 (hcond.mpr z9))
    have hrow : ∀ k, k < 8 → (zxz a b z).1 15 k = zrx a b f k := fun k hk => by
      rw [zxz_r, hz a ha, hz b hb]
      unfold zrx
      rw [hz k hk]
    have hrowy : ∀ k, k < 8 → (zcx a b y).1 100 k = (zxz a b z).1 15 k := fun k hk => by
      rw [zcx_r, hrow k hk, hy a ha, hy b hb]
      unfold zrx
      rw [hy k hk]
    have hf2 : zRw N ((zxz a b z).1 15) := zRw_c (zRw_x ha hb hab hf) hrow
    have T2 : zTW N (zxz a b z) (zcx a b y) := zTW_s (v := v) T hs.x
    have eB : zBk (zxz a b z) (nI 2) = zsum (zsk (zcx a b y) (-1)) 8 := by
      unfold zBk
      rw [if_neg (by decide)]
      exact zbrk_e h8 T2 hf2 hrowy (by decide) (by decide)
    have eW : zWk (zxz a b z) (nI 2) = zsum (zsw (zcx a b y)) 8 := by
      unfold zWk
      rw [if_neg (by decide)]
      exact zwor_e h8 T2 hf2 hrowy
    have hh2 : zHas (zxz a b z) (some (t.2.1, t.2.2, g)) := by
      obtain ⟨k1, k2, k3, k4⟩ := hh
      exact ⟨by rw [zxz_n (by omega)]; exact k1, by rw [zxz_n (by omega)]; exact k2, by rw [zxz_n (by omega)]; exact k3, fun k hk => by rw [zxz_n (by omega)]; exact k4 k hk⟩
    have hw := zweigh_h (aim := nI 2) hh2
    rw [eB, eW] at hw
    have hwo : zworse (zxz a b z) (nI 2) ↔ (t.2.1 < zsum (zsk (zcx a b y) (-1)) 8 ∨ (zsum (zsk (zcx a b y) (-1)) 8 = t.2.1 ∧ zsum (zsw (zcx a b y)) 8 ≤ t.2.2)) := by
      obtain ⟨k1, k2, k3, k4⟩ := hh2
      unfold zworse
      rw [k2, k3, eB, eW]
      exact ⟨fun z9 => z9.2, fun z9 => ⟨k1, z9⟩⟩
    have ho := zweigh_o (x := zxz a b z) (aim := nI 2)
    have hs2 : zSr v (zxz a b (zweigh (zxz a b z) (nI 2))) := (hs.x.o ho).x
    have hr2 : ∀ k, k < 8 → (zxz a b (zweigh (zxz a b z) (nI 2))).1 15 k = f k := fun k hk => by
      have := (zxz_o ho).2 15 (by decide) (by decide)
      rw [this]
      exact hz k hk
    have hx : ∀ {T3 : zB3}, zHas (zweigh (zxz a b z) (nI 2)) T3 → zHas (zxz a b (zweigh (zxz a b z) (nI 2))) T3 := fun {T3} h3 => by
      match T3, h3 with
      | none, h3 => exact (congrFun (zxz_n (by omega)) 5).trans h3
      | some (b3, w3, g3), h3 =>
        obtain ⟨k1, k2, k3, k4⟩ := h3
        exact ⟨by rw [zxz_n (by omega)]; exact k1, by rw [zxz_n (by omega)]; exact k2, by rw [zxz_n (by omega)]; exact k3, fun k hk => by rw [zxz_n (by omega)]; exact k4 k hk⟩
    rw [e1, e2]
    refine ⟨hs2, hr2, ?_, ?_⟩
    · show (if zworse (zxz a b z) (nI 2) then c else nI (10 * a + b)) = _
      by_cases c1 : t.2.1 < zsum (zsk (zcx a b y) (-1)) 8 ∨ (zsum (zsk (zcx a b y) (-1)) 8 = t.2.1 ∧ zsum (zsw (zcx a b y)) 8 ≤ t.2.2)
      · rw [if_pos c1, if_pos (hwo.mpr c1)]
        exact hc
      · rw [if_neg c1, if_neg (fun z9 => c1 (hwo.mp z9))]
    · have hw2 : zHas (zweigh (zxz a b z) (nI 2)) (if t.2.1 < zsum (zsk (zcx a b y) (-1)) 8 ∨ (zsum (zsk (zcx a b y) (-1)) 8 = t.2.1 ∧ zsum (zsw (zcx a b y)) 8 ≤ t.2.2) then some (t.2.1, t.2.2, g) else some (zsum (zsk (zcx a b y) (-1)) 8, zsum (zsw (zcx a b y)) 8, (zxz a b z).1 15)) := hw
      by_cases c1 : t.2.1 < zsum (zsk (zcx a b y) (-1)) 8 ∨ (zsum (zsk (zcx a b y) (-1)) 8 = t.2.1 ∧ zsum (zsw (zcx a b y)) 8 ≤ t.2.2)
      · rw [if_pos c1] at hw2 ⊢
        exact ⟨g, hx hw2⟩
      · rw [if_neg c1] at hw2 ⊢
        exact ⟨_, hx hw2⟩
section
variable {N : Nat} {v y : zX} {f : Nat → Int32}
theorem zxin_e (h8 : N ≤ 8) (T : zTW N v y) (hf : zRw N f) (hy : ∀ k, k < 8 → y.1 100 k = f k) {a : Nat} {z : zX} {c : Int32} {t : zS3} {g : Nat → Int32} (ha : a < 8) (hs : zSr v z) (hz : ∀ k, k < 8 → z.1 15 k = f k) (hc : c = t.1) (hh : zHas z (some (t.2.1, t.2.2, g))) : ∀ n, n ≤ 7 - a →
    zSr v (zxin a n (z, c)).1 ∧ (∀ k, k < 8 → (zxin a n (z, c)).1.1 15 k = f k) ∧ (zxin a n (z, c)).2 = (zswi y a n t).1 ∧ ∃ g2, zHas (zxin a n (z, c)).1 (some ((zswi y a n t).2.1, (zswi y a n t).2.2, g2))
  | 0, _ => ⟨hs, hz, hc, g, hh⟩
  | n + 1, hn => by
    obtain ⟨i1, i2, i3, g2, i4⟩ := zxin_e h8 T hf hy ha hs hz hc hh n (by omega)
    exact zxst_e (z := (zxin a n (z, c)).1) (c := (zxin a n (z, c)).2) (t := zswi y a n t) h8 T hf hy ha (by omega) (by omega) i1 i2 i3 i4
theorem zxout_e (h8 : N ≤ 8) (T : zTW N v y) (hf : zRw N f) (hy : ∀ k, k < 8 → y.1 100 k = f k) {z : zX} {c : Int32} {t : zS3} {g : Nat → Int32} (hs : zSr v z) (hz : ∀ k, k < 8 → z.1 15 k = f k) (hc : c = t.1) (hh : zHas z (some (t.2.1, t.2.2, g))) : ∀ n, n ≤ 8 →
    zSr v (zxout n (z, c)).1 ∧ (∀ k, k < 8 → (zxout n (z, c)).1.1 15 k = f k) ∧ (zxout n (z, c)).2 = (zswo y n t).1 ∧ ∃ g2, zHas (zxout n (z, c)).1 (some ((zswo y n t).2.1, (zswo y n t).2.2, g2))
  | 0, _ => ⟨hs, hz, hc, g, hh⟩
  | n + 1, hn => by
    obtain ⟨i1, i2, i3, g2, i4⟩ := zxout_e h8 T hf hy hs hz hc hh n (by omega)
    exact zxin_e (z := (zxout n (z, c)).1) (c := (zxout n (z, c)).2) (t := zswo y n t) h8 T hf hy (by omega) i1 i2 i3 i4 (7 - n) (Nat.le_refl _)
end
/-- what a search leaves of the relation -/
theorem zRl.sr {G : zG} {v u : zX} {N R L b F C : Nat} (H : zRl G v N R L) (Q : zHl v b F C) (tb : zTb G v N b C v) (hs : zSr v u) : zRl G u N R L ∧ zHl u b F C ∧ zTb G u N b C u := by
  have hA := hs.2
  have hb := zRm_b Q.2.1
  have tb2 : zTb G u N b C u := by
    have e := zTb_x (x2 := u) Q.2.1 H.now Q.2.2.1 (fun i hi => hA i (by omega) (by omega) (by omega)) (fun j j1 j2 => hA _ (by omega) (by omega) (by omega)) (hA 5 (by omega) (by omega) (by omega)) (by rw [hs.1]) tb
    unfold zTb at e ⊢
    rw [hA 12 (by omega) (by omega) (by omega), hA 13 (by omega) (by omega) (by omega), hA 14 (by omega) (by omega) (by omega)]
    exact e
  obtain ⟨g1, g2⟩ := H.sp (u := u) Q (fun i i1 i2 => hA i (by omega) (by omega) (by omega)) (fun k _ => congrFun (hA 0 (by omega) (by omega) (by omega)) k) (fun k _ _ => congrFun (hA 77 (by omega) (by omega) (by omega)) k) hs.1 (zTa_c (x := v) H.now (fun i hi => hA i (by omega) (by omega) (by omega)) (fun i i1 i2 _ => hA i (by omega) (by omega) (by omega)) (hA 5 (by omega) (by omega) (by omega)) (by rw [hs.1]) (fun i i1 i2 => hA i (by omega) (by omega) (by omega)) (congrFun (hA 0 (by omega) (by omega) (by omega)) 9) (congrFun (hA 1 (by omega) (by omega) (by omega)) 6) H.ta)
  exact ⟨g1, g2, tb2⟩
theorem e_swap {G : zG} {x u1 u2 : zX} {N R L : Nat} {r1 r2 : Int32} (H : zRl G x N R L) {b9 F C : Nat} (Q : zHl x b9 F C)
    (h1 : ∃ v, zT7 G x N b9 C v ∧ (zxout 8 (zweigh (zbg v (v.1 4)) (nI 2), -5)) = (u1, r1))
    (h2 : ∃ y, (zQ9 u1 y ∧ zTR u1 N F C y) ∧ (zsrI y 100 (zputn (y.1 85) (y.1 100) 8)) = u2 ∧ (zswo u2 8 (-5, zsum (zsk u2 (-1)) 8, zsum (zsw u2) 8)).1 = r2) : r1 = r2 ∧ ∃ N R L, zRl G u2 N R L := by
  have h8 := H.sc.1
  obtain ⟨v, t7, hx⟩ := h1
  obtain ⟨y, hy, hu2, hr2⟩ := h2
  obtain ⟨H1, Q1, tb⟩ := H.t7 Q t7
  have hsr0 : zSr v (zweigh (zbg v (v.1 4)) (nI 2)) := (zSr.b (v := v) (g := v.1 4)).o zweigh_o
  have hf := H1.rw4
  have hb15 : ∀ k, k < 8 → (zbg v (v.1 4)).1 15 k = v.1 4 k := fun k hk => if_pos hk
  have hz : ∀ k, k < 8 → (zweigh (zbg v (v.1 4)) (nI 2)).1 15 k = v.1 4 k := fun k hk => by
    rw [zweigh_o.2 15 (by omega) (by omega)]
    exact hb15 k hk
  have hu1 : (zxout 8 (zweigh (zbg v (v.1 4)) (nI 2), -5)).1 = u1 := congrArg Prod.fst hx
  have hr1 : (zxout 8 (zweigh (zbg v (v.1 4)) (nI 2), -5)).2 = r1 := congrArg Prod.snd hx
  have hon : ∀ n z c, zSr v z → zSr v (zxout n (z, c)).1 := by
    have hst : ∀ a b z c, zSr v z → zSr v (zxst a b (z, c)).1 := fun a b z c hs => by
      unfold zxst
      split
      · exact hs
      · exact (hs.x.o zweigh_o).x
    have hin : ∀ a n z c, zSr v z → zSr v (zxin a n (z, c)).1 := fun a n => by
      induction n with
      | zero => exact fun z c hs => hs
      | succ n ih => exact fun z c hs => hst _ _ _ _ (ih z c hs)
    intro n
    induction n with
    | zero => exact fun z c hs => hs
    | succ n ih => exact fun z c hs => hin _ _ _ _ (ih z c hs)
  have hsr1 : zSr v u1 := by
    rw [← hu1]
    exact hon 8 _ _ hsr0
  obtain ⟨H2, Q2, tb2⟩ := H1.sr Q1 tb hsr1
  have T := H2.tw Q2 tb2 hy.1 hy.2
  have e4 : u1.1 4 = v.1 4 := hsr1.2 4 (by omega) (by omega) (by omega)
  have hg : ∀ k, k < 8 → u2.1 100 k = v.1 4 k := fun k hk => by
    rw [← hu2, zsrI_u, zput_l hk, hy.1.1 85 (by omega) (by omega), ← e4]
    exact (H2.sc.2.1 k hk).1.symm
  have T2 : zTW N v u2 := by
    have hsr2 : zSr u1 v := ⟨hsr1.1.symm, fun i i1 i2 i3 => (hsr1.2 i i1 i2 i3).symm⟩
    have := zTW_s (zTW_r (w := zputn (y.1 85) (y.1 100) 8) T) hsr2
    rw [hu2] at this
    exact this
  have T3 : zTW N (zbg v (v.1 4)) u2 := zTW_s T2 zSr.b
  have hf3 : zRw N ((zbg v (v.1 4)).1 15) := zRw_c hf hb15
  have hg3 : ∀ t, t < 8 → u2.1 100 t = (zbg v (v.1 4)).1 15 t := fun t ht => (hg t ht).trans (hb15 t ht).symm
  have eB : zBk (zbg v (v.1 4)) (nI 2) = zsum (zsk u2 (-1)) 8 := by
    unfold zBk
    rw [if_neg (by decide)]
    exact zbrk_e h8 T3 hf3 hg3 (by decide) (by decide)
  have eW : zWk (zbg v (v.1 4)) (nI 2) = zsum (zsw u2) 8 := by
    unfold zWk
    rw [if_neg (by decide)]
    exact zwor_e h8 T3 hf3 hg3
  have hh0 : zHas (zbg v (v.1 4)) none := rfl
  have hh := zweigh_h (aim := nI 2) hh0
  rw [eB, eW] at hh
  obtain ⟨k1, k2, k3, k4⟩ := zxout_e (t := (-5, zsum (zsk u2 (-1)) 8, zsum (zsw u2) 8)) h8 T2 hf hg hsr0 hz (c := -5) rfl hh 8 (Nat.le_refl 8)
  refine ⟨by rw [← hr1, ← hr2, k3], N, R, L, ?_⟩
  rw [← hu2]
  exact (H2.q9 Q2 (hy.1.t (zQ9.w (by omega)))).1
