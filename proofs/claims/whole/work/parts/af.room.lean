/-! READING A ROOM: class and reference read alike -/
/-- a clause that both have kept -/
def zKc (y z : zX) (cs : List Int32) (b f1 k : Nat) : Prop := ∃ (w st : Nat) (l : List Int32), w < 4 ∧ y.1 (b + 1) k = nI w ∧ z.1 90 (10 * f1 + k) = nI w ∧ (w = 2 → y.1 (b + 2) k = nI 1) ∧ (¬ w = 2 → y.1 (b + 2) k = z.1 91 (10 * f1 + k) ∧ ∃ j, j < 100 ∧ z.1 91 (10 * f1 + k) = nI j) ∧ zfr y b k = st ∧ y.1 (b + 3) k = nI (st + l.length) ∧ st + l.length ≤ cs.length ∧ l.length ≤ 99 ∧ (∀ i, i < l.length → cs.getD (st + i) 0 = l.getD i 0) ∧ (¬ w = 3 → zSeg 11 l ∧ z.1 92 (10 * f1 + k) = nI (100 * f1 + st) ∧ z.1 93 (10 * f1 + k) = nI (100 * f1 + (st + l.length)))
def zKf (y z : zX) (W : Nat → Int32) (cs : List Int32) (b f1 C : Nat) : Prop := y.1 b 6 = zhush (z.1 90) (z.1 91) (10 * f1) C ∧ zfr y b C = cs.length ∧ (∀ j, j < cs.length → W (100 * f1 + j) = zfi (cs.getD j 0)) ∧ (∀ v, v ∈ cs → zcdO v) ∧ ∀ k, k < C → zKc y z cs b f1 k
theorem zrr_p {x : zX} {p s n : Nat} {o d : Int32} {w4 w5 : Nat → Int32} : (zrr x p s n o d w4 w5).1 77 15 = nI p := by
  rw [zrr_7r]
  rfl
theorem zke_1 {y : zX} {b C K : Nat} {w a : Int32} : (zke1 (zke0 y b w a) b C K w a).1 (b + 1) = upd (y.1 (b + 1)) C w := by
  unfold zke1 zke0
  rw [zsI_n (by omega), zsI_n (by omega), zsI_n (by omega), zsI_u]
  split
  · rw [zsI_n (by omega)]
  · rfl
theorem zke_2 {y : zX} {b C K : Nat} {w a : Int32} : (zke1 (zke0 y b w a) b C K w a).1 (b + 2) = upd (y.1 (b + 2)) C a := by
  unfold zke1 zke0
  rw [zsI_n (by omega), zsI_n (by omega), zsI_u, zsI_n (by omega)]
  split
  · rw [zsI_n (by omega)]
  · rfl
theorem zke_3 {y : zX} {b C K : Nat} {w a : Int32} : (zke1 (zke0 y b w a) b C K w a).1 (b + 3) = upd (y.1 (b + 3)) C (nI K) := by
  unfold zke1 zke0
  rw [zsI_n (by omega), zsI_u, zsI_n (by omega), zsI_n (by omega)]
  split
  · rw [zsI_n (by omega)]
  · rfl
theorem zke_b {y : zX} {b C K : Nat} {w a : Int32} : (zke1 (zke0 y b w a) b C K w a).1 b 4 = nI (C + 1) ∧ (zke1 (zke0 y b w a) b C K w a).1 b 6 = if w = nI 3 then a else y.1 b 6 := by
  unfold zke1 zke0
  rw [zsI_u, zsI_n (by omega), zsI_n (by omega), zsI_n (by omega)]
  refine ⟨rfl, ?_⟩
  show (if w = nI 3 then zsI y b 6 a else y).1 b 6 = _
  by_cases c : w = nI 3
  · rw [if_pos c, if_pos c, zsI_u]
    rfl
  · rw [if_neg c, if_neg c]
/-- a clause more -/
theorem zKf_s {T : Nat → Int32} {F : Nat} {y z : zX} {W : Nat → Int32} {cs : List Int32} {b f1 C p s n : Nat} {o d : Int32} {w5 : Nat → Int32} {w : Nat} {a : Int32} {l : List Int32} (hs : s = 100 * f1 + cs.length) (hF : F ≤ 100) (h : zKf y z W cs b f1 C) (hcs : cs.length + l.length ≤ 100) (hl : l.length ≤ 99) (hw : w < 4) (h5 : ¬ w = 3 → zSeg 11 l) (h6 : ∀ v, v ∈ l → zcdO v) (h7 : w = 2 → a = nI 1) (h8 : ¬ w = 2 → ∃ j, j < 100 ∧ a = nI j)
    (g1 : ∀ j, j < s → (zrC z T F (10 * f1 + C) p s n o d W w5).2.2.2.2.2.2.2.1 j = W j) (g2 : ∀ i, i < l.length → (zrC z T F (10 * f1 + C) p s n o d W w5).2.2.2.2.2.2.2.1 (s + i) = zfi (l.getD i 0)) (g3 : (zrC z T F (10 * f1 + C) p s n o d W w5).2.1.1 90 (10 * f1 + C) = nI w) (g4 : ¬ w = 2 → (zrC z T F (10 * f1 + C) p s n o d W w5).2.1.1 91 (10 * f1 + C) = a) (g5 : ¬ w = 3 → (zrC z T F (10 * f1 + C) p s n o d W w5).2.1.1 92 (10 * f1 + C) = nI s ∧ (zrC z T F (10 * f1 + C) p s n o d W w5).2.1.1 93 (10 * f1 + C) = nI (s + l.length)) :
    zKf (zke1 (zke0 y b (nI w) a) b C (cs ++ l).length (nI w) a) (zsI (zrC z T F (10 * f1 + C) p s n o d W w5).2.1 89 f1 (nI (C + 1))) (zrC z T F (10 * f1 + C) p s n o d W w5).2.2.2.2.2.2.2.1 (cs ++ l) b f1 (C + 1) := by
  obtain ⟨a1, a2, a3, a4, a5⟩ := h
  obtain ⟨k1, k2⟩ := zrC_k (T := T) (F := F) (y := z) (c := 10 * f1 + C) (p := p) (s := s) (n := n) (o := o) (d := d) (w4 := W) (w5 := w5)
  generalize zrC z T F (10 * f1 + C) p s n o d W w5 = Rc at *
  have hr : ∀ i k, 90 ≤ i → ¬ k = 10 * f1 + C → (zsI Rc.2.1 89 f1 (nI (C + 1))).1 i k = z.1 i k := fun i k hi hk => by
    rw [zsI_n (by omega)]
    exact k1 i k hk
  have hr9 : ∀ i, 90 ≤ i → (zsI Rc.2.1 89 f1 (nI (C + 1))).1 i = Rc.2.1.1 i := fun i hi => zsI_n (by omega)
  have hlen : (cs ++ l).length = cs.length + l.length := List.length_append
  have hfr : ∀ k, k ≤ C → zfr (zke1 (zke0 y b (nI w) a) b C (cs ++ l).length (nI w) a) b k = zfr y b k := fun k hk => by
    cases k with
    | zero => rfl
    | succ k =>
      show ((zke1 (zke0 y b (nI w) a) b C (cs ++ l).length (nI w) a).1 (b + 3) k).toNatClampNeg = (y.1 (b + 3) k).toNatClampNeg
      rw [zke_3]
      show (if k = C then _ else y.1 (b + 3) k).toNatClampNeg = _
      rw [if_neg (by omega)]
  refine ⟨?_, ?_, fun j hj => ?_, fun v hv => ?_, fun k hk => ?_⟩
  · rw [zke_b.2, zhush, hr9 90 (by omega), hr9 91 (by omega), g3]
    have ez : zhush (Rc.2.1.1 90) (Rc.2.1.1 91) (10 * f1) C = zhush (z.1 90) (z.1 91) (10 * f1) C := zhush_c (fun k hk => ⟨k1 90 _ (by omega), k1 91 _ (by omega)⟩)
    by_cases c : nI w = nI 3
    · rw [if_pos c, if_pos c]
      have : w = 3 := (zqE (by omega) (by omega)).mp c
      exact (g4 (by omega)).symm
    · rw [if_neg c, if_neg c, ez]
      exact a1
  · show ((zke1 (zke0 y b (nI w) a) b C (cs ++ l).length (nI w) a).1 (b + 3) C).toNatClampNeg = _
    rw [zke_3]
    show (if C = C then nI (cs ++ l).length else _).toNatClampNeg = _
    rw [if_pos rfl, nI_clamp (by omega)]
  · rw [hlen] at hj
    rw [zapp_g]
    by_cases c : j < cs.length
    · rw [if_pos c, g1 _ (by omega)]
      exact a3 j c
    · rw [if_neg c]
      have := g2 (j - cs.length) (by omega)
      rw [show s + (j - cs.length) = 100 * f1 + j by omega] at this
      exact this
  · rcases List.mem_append.mp hv with hv | hv
    · exact a4 v hv
    · exact h6 v hv
  · by_cases c : k = C
    · subst c
      refine ⟨w, cs.length, l, hw, ?_, ?_, fun e => ?_, fun e => ?_, ?_, ?_, by rw [hlen]; omega, hl, fun i hi => ?_, fun e => ?_⟩
      · rw [zke_1]
        exact if_pos rfl
      · rw [hr9 90 (by omega)]
        exact g3
      · rw [zke_2]
        exact (if_pos rfl).trans (h7 e)
      · rw [hr9 91 (by omega), zke_2, g4 e]
        exact ⟨if_pos rfl, h8 e⟩
      · rw [hfr k (Nat.le_refl k)]
        exact a2
      · rw [zke_3, ← hlen]
        exact if_pos rfl
      · rw [zapp_g, if_neg (by omega), show cs.length + i - cs.length = i by omega]
      · rw [hr9 92 (by omega), hr9 93 (by omega), (g5 e).1, (g5 e).2, hs]
        exact ⟨h5 e, rfl, by rw [Nat.add_assoc]⟩
    · have hkC : k < C := by omega
      have ne : ¬ 10 * f1 + k = 10 * f1 + C := by omega
      obtain ⟨w2, st, l2, b1, b2, b3, b4, b5, b6, b7, b8, b9, b10, b11⟩ := a5 k hkC
      refine ⟨w2, st, l2, b1, ?_, ?_, fun e => ?_, fun e => ?_, ?_, ?_, by rw [hlen]; exact Nat.le_trans b8 (Nat.le_add_right _ _), b9, fun i hi => ?_, fun e => ?_⟩
      · rw [zke_1]
        exact (if_neg c).trans b2
      · rw [hr 90 _ (by decide) ne]
        exact b3
      · rw [zke_2]
        exact (if_neg c).trans (b4 e)
      · rw [zke_2, hr 91 _ (by decide) ne]
        exact ⟨(if_neg c).trans (b5 e).1, (b5 e).2⟩
      · rw [hfr k (Nat.le_of_lt (Nat.lt_of_le_of_ne (Nat.le_of_lt_succ hk) c))]
        exact b6
      · rw [zke_3]
        exact (if_neg c).trans b7
      · rw [zapp_g, if_pos (Nat.lt_of_lt_of_le (Nat.add_lt_add_left hi st) b8)]
        exact b10 i hi
      · rw [hr 92 _ (by decide) ne, hr 93 _ (by decide) ne]
        exact b11 e
/-- the whole text -/
theorem zrd_e {T : Nat → Int32} {F b f1 : Nat} (hF : F ≤ 100) (hT : zTe T F) (hB : ∀ k, zby1 (T k)) : ∀ (m C : Nat) (y z : zX) (p s n : Nat) (o d : Int32) (w4 w5 : Nat → Int32) (cs : List Int32), m + C = 10 → (∀ k, k < 16 → z.1 96 k = zx1 96 k) → p ≤ F → cs.length ≤ p → s = 100 * f1 + cs.length → y.1 b 4 = nI C → zKf y z w4 cs b f1 C →
    ((zrd T F b m C y p cs).1 = -1 ∧ (zrG T F f1 m C z p s n o d w4 w5).1 = true ∧ ∃ (C2 : Nat) (cs2 : List Int32), C2 ≤ 10 ∧ cs2.length ≤ 100 ∧ (zrd T F b m C y p cs).2.1 b 4 = nI C2 ∧ (zrG T F f1 m C z p s n o d w4 w5).2.1 89 f1 = nI C2 ∧ (∀ j, j < cs2.length → (zrd T F b m C y p cs).2.1 (b + 4) j = cs2.getD j 0) ∧ zKf (zrd T F b m C y p cs).2 (zrG T F f1 m C z p s n o d w4 w5).2 ((zrG T F f1 m C z p s n o d w4 w5).2.1 94) cs2 b f1 C2) ∨
    (∃ p2, p2 ≤ F ∧ (zrd T F b m C y p cs).1 = nI p2 ∧ (zrG T F f1 m C z p s n o d w4 w5).1 = false ∧ (zrG T F f1 m C z p s n o d w4 w5).2.1 77 15 = nI p2)
  | 0, C, y, z, p, s, n, o, d, w4, w5, cs, _, _, hp, _, _, _, _ => Or.inr ⟨p, hp, rfl, rfl, zrr_p⟩
  | m + 1, C, y, z, p, s, n, o, d, w4, w5, cs, hm, hL, hp, hcs, hs, h4, hK => by
    have hc := zcla_e hF hT hB (y := z) (c := 10 * f1 + C) (p := p) (s := s) (n := n) (o := o) (d := d) (w4 := w4) (w5 := w5) (cs := cs) hL hp hcs
    have hin := zcla_in (T := T) (L := F) (p := p) (cs := cs) hT hp (by omega)
    have h96 : ∀ i, i ≠ 90 → i ≠ 91 → i ≠ 92 → i ≠ 93 → (zrC z T F (10 * f1 + C) p s n o d w4 w5).2.1.1 i = z.1 i := fun i i0 i1 i2 i3 => zrC_n i0 i1 i2 i3
    rw [zrd, zrG]
    rcases hc with ⟨w, a, l, hw, q1, q2, q3, q4, q5, q6, q7, q8, e1, e2, e3, g1, g2, g3, g4, g5⟩ | ⟨q1, e1, e2⟩
    · have hsome : (zcla T p cs).1.isSome = true := by rw [q1]; rfl
      have hl2 : cs.length + l.length ≤ 100 := by
        have := hin.2
        rw [q2, List.length_append] at this
        exact this
      have hkq : zkq y b C (zcla T p cs) = zke1 (zke0 y b (nI w) a) b C (cs ++ l).length (nI w) a := by
        unfold zkq
        rw [q1, q2]
      have hK2 := zKf_s (T := T) (F := F) (p := p) (n := n) (o := o) (d := d) (w5 := w5) hs hF hK hl2 (by omega) hw q5 q6 q7 q8 g1 g2 g3 g4 g5
      rw [if_pos hsome, if_pos e1, hkq, q2, e2]
      generalize hY : zke1 (zke0 y b (nI w) a) b C (cs ++ l).length (nI w) a = Y at *
      have hY4 : Y.1 b 4 = nI (C + 1) := by rw [← hY]; exact zke_b.1
      by_cases c1 : F ≤ (zcla T p cs).2.1
      · have c1' : (zcla T p cs).2.1 = F := by omega
        rw [if_pos c1, if_pos c1']
        refine Or.inl ⟨rfl, rfl, C + 1, cs ++ l, by omega, by rw [List.length_append]; exact hl2, ?_, ?_, fun j hj => ?_, ?_⟩
        · rw [zpz_k (by decide) (by decide)]
          exact hY4
        · show (zru _ _).1 89 f1 = _
          unfold zru
          rw [zrr_n (by omega) (by omega) (by omega), zsI_u]
          exact if_pos rfl
        · rw [zpz_c]
          exact if_pos hj
        · generalize zrC z T F (10 * f1 + C) p s n o d w4 w5 = Rc at *
          have er : ∀ i, 89 ≤ i → i ≤ 93 → (zru (zsI Rc.2.1 89 f1 (nI (C + 1))) Rc.2.2).1 i = (zsI Rc.2.1 89 f1 (nI (C + 1))).1 i := fun i i1 i2 => by
            unfold zru
            exact zrr_n (by omega) (by omega) (by omega)
          have e94 : (zru (zsI Rc.2.1 89 f1 (nI (C + 1))) Rc.2.2).1 94 = Rc.2.2.2.2.2.2.2.1 := by
            unfold zru zrr
            rw [zsrI_n (by omega), zsrI_u]
          have ey : ∀ i, 1 ≤ i → i ≤ 3 → (zpz Y b (zcla T p cs).2.1 (cs ++ l)).1 (b + i) = Y.1 (b + i) := fun i i1 i2 => zpz_n (by omega) (by omega)
          have ey6 : (zpz Y b (zcla T p cs).2.1 (cs ++ l)).1 b 6 = Y.1 b 6 := zpz_k (by decide) (by decide)
          have efr : ∀ k, zfr (zpz Y b (zcla T p cs).2.1 (cs ++ l)) b k = zfr Y b k := fun k => zfr_c (ey 3 (by omega) (by omega))
          obtain ⟨b1, b2, b3, b4, b5⟩ := hK2
          show zKf (zpz Y b (zcla T p cs).2.1 (cs ++ l)) (zru (zsI Rc.2.1 89 f1 (nI (C + 1))) Rc.2.2) ((zru (zsI Rc.2.1 89 f1 (nI (C + 1))) Rc.2.2).1 94) (cs ++ l) b f1 (C + 1)
          refine ⟨by rw [ey6, er 90 (by omega) (by omega), er 91 (by omega) (by omega)]; exact b1, by rw [efr]; exact b2, by rw [e94]; exact b3, b4, fun k hk => ?_⟩
          have := b5 k hk
          unfold zKc at this ⊢
          rw [ey 1 (by omega) (by omega), ey 2 (by omega) (by omega), ey 3 (by omega) (by omega), efr, er 90 (by omega) (by omega), er 91 (by omega) (by omega), er 92 (by omega) (by omega), er 93 (by omega) (by omega)]
          exact this
      · have c1' : ¬ (zcla T p cs).2.1 = F := by omega
        rw [if_neg c1, if_neg c1']
        by_cases c2 : m = 0
        · rw [if_pos c2, if_pos (show C + 1 = 10 by omega)]
          exact Or.inr ⟨_, q4, rfl, rfl, by show (zru _ _).1 77 15 = _; unfold zru; rw [zrr_p, e2]⟩
        · rw [if_neg c2, if_neg (show ¬ C + 1 = 10 by omega)]
          by_cases c3 : T (zcla T p cs).2.1 = nI 59
          · have et : ztke T (nI 59) (zcla T p cs).2.1 (cs ++ l) = (true, (zcla T p cs).2.1 + 1, cs ++ l) := if_pos c3
            rw [et, if_pos rfl, if_pos c3]
            refine zrd_e hF hT hB m (C + 1) Y _ _ _ _ _ _ _ _ (cs ++ l) (by omega) (fun k hk => ?_) (show (zcla T p cs).2.1 + 1 ≤ F by omega) (by rw [List.length_append]; show cs.length + l.length ≤ (zcla T p cs).2.1 + 1; omega) ?_ hY4 hK2
            · rw [zsI_n (by omega), h96 96 (by omega) (by omega) (by omega) (by omega)]
              exact hL k hk
            · rw [e3, hs, List.length_append]
              omega
          · have et : ztke T (nI 59) (zcla T p cs).2.1 (cs ++ l) = (false, (zcla T p cs).2.1, cs ++ l) := if_neg c3
            rw [et, if_neg (show ¬ (false, (zcla T p cs).2.1, cs ++ l).1 = true from fun z => absurd (show false = true from z) (by decide)), if_neg c3]
            exact Or.inr ⟨_, q4, rfl, rfl, by show (zru _ _).1 77 15 = _; unfold zru; rw [zrr_p, e2]⟩
    · have hnone : ¬ (zcla T p cs).1.isSome = true := by rw [q1]; decide
      rw [if_neg hnone, if_neg (by rw [e1]; decide)]
      exact Or.inr ⟨_, hin.1, rfl, rfl, by show (zru _ _).1 77 15 = _; unfold zru; rw [zrr_p, e2]⟩
