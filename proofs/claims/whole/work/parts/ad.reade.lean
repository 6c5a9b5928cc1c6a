/-! READING AN E: class and reference read alike -/
theorem zone_t : ∀ m : Fin 128, zone 4 (nI m.val) = zpl (nI m.val) ∧ (if zone 5 (nI m.val) < 0 then nI 0 else nI 1) = (if zdrs (nI m.val) then nI 1 else nI 0) ∧ (zone 5 (nI m.val) < 0 ∨ (zone 5 (nI m.val) = nI m.val - nI 60 ∧ (nI m.val - nI 60 = nI 0 ∨ nI m.val - nI 60 = nI 1 ∨ nI m.val - nI 60 = nI 2))) ∧ (zpl (nI m.val) < 0 ∨ ∃ f : Fin 7, zpl (nI m.val) = nI f.val) ∧ (if zdg (nI m.val) then nI 1 else nI 0) = (if zdr (nI m.val) then nI 1 else nI 0) ∧ (zdg (nI m.val) → ∃ j : Fin 10, nI m.val - nI 48 = nI j.val) := by decide +kernel
theorem zone_m : zone 4 (-1) = zpl (-1) ∧ zone 5 (-1) < 0 ∧ ¬ zdrs (-1) ∧ ¬ zdg (-1) ∧ ¬ zdr (-1) ∧ zpl (-1) < 0 := by decide +kernel
theorem ztn_t : ∀ i j : Fin 10, nI 10 * nI i.val + nI j.val = nI (10 * i.val + j.val) := by decide +kernel
/-- a byte of the text, or none -/
def zby1 (v : Int32) : Prop := v = -1 ∨ ∃ m, m < 128 ∧ v = nI m
theorem zb4 {v : Int32} (h : zby1 v) : zone 4 v = zpl v ∧ (zpl v < 0 ∨ ∃ f, f < 7 ∧ zpl v = nI f) := by
  rcases h with rfl | ⟨m, hm, rfl⟩
  · exact ⟨zone_m.1, Or.inl zone_m.2.2.2.2.2⟩
  · obtain ⟨h1, -, -, h2, -⟩ := zone_t ⟨m, hm⟩
    exact ⟨h1, h2.elim Or.inl (fun ⟨f, hf⟩ => Or.inr ⟨f.val, f.isLt, hf⟩)⟩
theorem zb5 {v : Int32} (h : zby1 v) : (zone 5 v < 0 ↔ ¬ zdrs v) ∧ (¬ zone 5 v < 0 → zone 5 v = v - nI 60 ∧ ∃ f, f < 3 ∧ v - nI 60 = nI f) := by
  rcases h with rfl | ⟨m, hm, rfl⟩
  · exact ⟨⟨fun _ => zone_m.2.2.1, fun _ => zone_m.2.1⟩, fun z => absurd zone_m.2.1 z⟩
  · obtain ⟨-, h1, h2, -⟩ := zone_t ⟨m, hm⟩
    dsimp only at h1 h2
    constructor
    · by_cases c : zone 5 (nI m) < 0
      · rw [if_pos c] at h1
        by_cases d : zdrs (nI m)
        · rw [if_pos d] at h1
          exact absurd h1 (by decide)
        · exact ⟨fun _ => d, fun _ => c⟩
      · rw [if_neg c] at h1
        by_cases d : zdrs (nI m)
        · exact ⟨fun z => absurd z c, fun z => absurd d z⟩
        · rw [if_neg d] at h1
          exact absurd h1 (by decide)
    · intro c
      obtain ⟨e1, e2⟩ := h2.resolve_left c
      refine ⟨e1, ?_⟩
      rcases e2 with e2 | e2 | e2
      · exact ⟨0, by omega, e2⟩
      · exact ⟨1, by omega, e2⟩
      · exact ⟨2, by omega, e2⟩
theorem zbd {v : Int32} (h : zby1 v) : (zdg v ↔ zdr v) ∧ (zdg v → ∃ j, j < 10 ∧ v - nI 48 = nI j) := by
  rcases h with rfl | ⟨m, hm, rfl⟩
  · exact ⟨⟨fun z => absurd z zone_m.2.2.2.1, fun z => absurd z zone_m.2.2.2.2.1⟩, fun z => absurd z zone_m.2.2.2.1⟩
  · obtain ⟨-, -, -, -, h1, h2⟩ := zone_t ⟨m, hm⟩
    dsimp only at h1 h2
    refine ⟨?_, fun z => ?_⟩
    · by_cases c : zdg (nI m)
      · rw [if_pos c] at h1
        by_cases d : zdr (nI m)
        · exact ⟨fun _ => d, fun _ => c⟩
        · rw [if_neg d] at h1
          exact absurd h1 (by decide)
      · rw [if_neg c] at h1
        by_cases d : zdr (nI m)
        · rw [if_pos d] at h1
          exact absurd h1 (by decide)
        · exact ⟨fun z => absurd z c, fun z => absurd z d⟩
    · obtain ⟨j, hj⟩ := h2 z
      exact ⟨j.val, j.isLt, hj⟩
theorem znr1 (a b : Int32) : nI 10 * (a - nI 48) + (b - nI 48) = nI 10 * (nI 10 * nI 0 + a - nI 48) + b - nI 48 := by
  rw [show nI 0 = (0 : Int32) from rfl]
  grind
theorem znr2 (a : Int32) : a - nI 48 = nI 10 * nI 0 + a - nI 48 := by
  rw [show nI 0 = (0 : Int32) from rfl]
  grind
/-- a number, in both -/
theorem znum_e {T : Nat → Int32} {p : Nat} {d : Int32} (hT : ∀ k, zby1 (T k)) : ((znuR T p d).1 = true ∧ ¬ (znum T p).1 < 0 ∧ (znuR T p d).2.1 = (znum T p).2 ∧ (znuR T p d).2.2 = (znum T p).1 ∧ p < (znum T p).2 ∧ ¬ T p = -1 ∧ ∃ j, j < 100 ∧ (znum T p).1 = nI j) ∨ ((znuR T p d).1 = false ∧ (znum T p).1 < 0 ∧ (znum T p).2 = p ∧ (znuR T p d).2.1 = p) := by
  obtain ⟨a1, a2⟩ := zbd (hT p)
  obtain ⟨b1, b2⟩ := zbd (hT (p + 1))
  unfold znuR znum
  by_cases c : zdg (T p)
  · have hne : ¬ T p = -1 := fun z => by rw [z] at c; exact zone_m.2.2.2.1 c
    obtain ⟨i, hi, ei⟩ := a2 c
    rw [if_pos (a1.mp c), if_pos c]
    by_cases c2 : zdg (T (p + 1))
    · obtain ⟨j, hj, ej⟩ := b2 c2
      rw [if_pos (b1.mp c2), if_pos c2]
      have ev : nI 10 * (T p - nI 48) + (T (p + 1) - nI 48) = nI (10 * i + j) := by
        rw [ei, ej]
        exact ztn_t ⟨i, hi⟩ ⟨j, hj⟩
      exact Or.inl ⟨rfl, by show ¬ nI 10 * (T p - nI 48) + (T (p + 1) - nI 48) < 0; rw [ev]; exact nI_pos (by omega), rfl, (znr1 _ _).symm, by show p < p + 2; omega, hne, 10 * i + j, by omega, ev⟩
    · rw [if_neg (fun z => c2 (b1.mpr z)), if_neg c2]
      exact Or.inl ⟨rfl, by show ¬ T p - nI 48 < 0; rw [ei]; exact nI_pos (by omega), rfl, (znr2 _).symm, by show p < p + 1; omega, hne, i, by omega, ei⟩
  · rw [if_neg (fun z => c (a1.mpr z)), if_neg c]
    exact Or.inr ⟨rfl, show (-1 : Int32) < 0 from by decide, rfl, rfl⟩
theorem zE_lt {T : Nat → Int32} {F p : Nat} (hT : zTe T F) (h : ¬ T p = -1) : p < F := by
  by_cases c : p < F
  · exact c
  · exact absurd (hT p (by omega)) h
theorem zwl_0 {w5 : Nat → Int32} {n s : Nat} {o : Int32} {w4 : Nat → Int32} (h : n = 0 ∨ ¬ w5 (n - 1) = nI 33) : zwl w5 n s o w4 = (s, n, o, w4) := by
  cases n with
  | zero => rfl
  | succ n =>
    rw [zwl, if_neg (show ¬ w5 n = nI 33 from h.resolve_left (by omega))]
theorem zsl_0 {w5 : Nat → Int32} {n s : Nat} {g : Int32} {w4 : Nat → Int32} (h : n = 0 ∨ ¬ (w5 (n - 1) = nI 38 ∨ (w5 (n - 1) = nI 124 ∧ ¬ g = nI 38))) : zsl w5 g n s w4 = (s, n, w4) := by
  cases n with
  | zero => rfl
  | succ n =>
    rw [zsl, if_neg (show ¬ (w5 n = nI 38 ∨ (w5 n = nI 124 ∧ ¬ g = nI 38)) from h.resolve_left (by omega))]
/-- what an operand comes to -/
def zOp (T : Nat → Int32) (F h : Nat) (r : zPR) (cs : List Int32) (g p s n : Nat) (o d : Int32) (w4 w5 : Nat → Int32) (tv : Int32) : Prop :=
  (r.1 = true ∧ ∃ (l : List Int32) (g1 : Nat) (d1 : Int32) (v4 v5 : Nat → Int32) (t1 : Int32), r.2.2 = cs ++ l ∧ l.length + p + 1 ≤ r.2.1 ∧ r.2.1 ≤ F ∧ F + 1 ≤ r.2.1 + g1 ∧ zSeg h l ∧ (∀ v, v ∈ l → zcdO v) ∧ (∀ j, j < s → v4 j = w4 j) ∧ (∀ i, i < l.length → v4 (s + i) = zfi (l.getD i 0)) ∧ (∀ j, j < n → v5 j = w5 j) ∧
    zrE T g true p s n o d w4 w5 tv = zrE T g1 false r.2.1 (zwl v5 n (s + l.length) o v4).1 (zwl v5 n (s + l.length) o v4).2.1 (zwl v5 n (s + l.length) o v4).2.2.1 d1 (zwl v5 n (s + l.length) o v4).2.2.2 v5 t1) ∨
  (r.1 = false ∧ (zrE T g true p s n o d w4 w5 tv).1 = false ∧ (zrE T g true p s n o d w4 w5 tv).2.2.1 = r.2.1)
/-- behind an operand -/
def zRe1 (T : Nat → Int32) (F h : Nat) (E0 : zRE) (s n : Nat) (o : Int32) (w4 w5 : Nat → Int32) (p p1 : Nat) (l : List Int32) : Prop :=
  ∃ (g1 : Nat) (d1 : Int32) (v4 v5 : Nat → Int32) (t1 : Int32), l.length + p + 1 ≤ p1 ∧ p1 ≤ F ∧ F + 1 ≤ p1 + g1 ∧ zSeg h l ∧ (∀ v, v ∈ l → zcdO v) ∧ (∀ j, j < s → v4 j = w4 j) ∧ (∀ i, i < l.length → v4 (s + i) = zfi (l.getD i 0)) ∧ (∀ j, j < n → v5 j = w5 j) ∧ E0 = zrE T g1 false p1 (s + l.length) n o d1 v4 v5 t1
def zEo (T : Nat → Int32) (F h : Nat) (stop : Int32 → Prop) (r : zPR) (cs : List Int32) (E0 : zRE) (s n : Nat) (o : Int32) (w4 w5 : Nat → Int32) (p : Nat) : Prop :=
  (r.1 = true ∧ stop (T r.2.1) ∧ ∃ l, r.2.2 = cs ++ l ∧ zRe1 T F h E0 s n o w4 w5 p r.2.1 l) ∨ (r.1 = false ∧ E0.1 = false ∧ E0.2.2.1 = r.2.1)
theorem zLp_f {part : Nat → List Int32 → zPR} {T : Nat → Int32} {sg v : Int32} {r : zPR} (h : r.1 = false) : ∀ k, zLp part T sg v k r = r
  | 0 => rfl
  | k + 1 => by
    rw [zLp, if_neg (fun z => by rw [h] at z; exact absurd z.1 (by decide))]
theorem zapp_g {l m : List Int32} {i : Nat} : (l ++ m).getD i 0 = if i < l.length then l.getD i 0 else m.getD (i - l.length) 0 := by
  rw [List.getD_eq_getElem?_getD, List.getD_eq_getElem?_getD, List.getD_eq_getElem?_getD]
  by_cases c : i < l.length
  · rw [if_pos c, List.getElem?_append_left c]
  · rw [if_neg c, List.getElem?_append_right (by omega)]
theorem zcd_app {l m : List Int32} {c : Int32} (h1 : ∀ v, v ∈ l → zcdO v) (h2 : ∀ v, v ∈ m → zcdO v) (h3 : zcdO c) : ∀ v, v ∈ l ++ m ++ [c] → zcdO v := fun v hv => by
  rcases List.mem_append.mp hv with hv | hv
  · rcases List.mem_append.mp hv with hv | hv
    · exact h1 v hv
    · exact h2 v hv
  · rw [List.mem_singleton.mp hv]
    exact h3
theorem zlen3 {l m : List Int32} {c : Int32} : (l ++ m ++ [c]).length = l.length + m.length + 1 := by
  rw [List.length_append, List.length_append]
  rfl
/-- codes put down: those of l, of m, and c -/
theorem zput3 {s : Nat} {l m : List Int32} {c : Int32} {u4 v4 : Nat → Int32} (h1 : ∀ i, i < l.length → u4 (s + i) = zfi (l.getD i 0)) (h2 : ∀ j, j < s + l.length → v4 j = u4 j) (h3 : ∀ i, i < m.length → v4 (s + l.length + i) = zfi (m.getD i 0)) : ∀ i, i < (l ++ m ++ [c]).length → upd v4 (s + l.length + m.length) (zfi c) (s + i) = zfi ((l ++ m ++ [c]).getD i 0) := fun i hi => by
  rw [zlen3] at hi
  show (if s + i = s + l.length + m.length then zfi c else v4 (s + i)) = _
  rw [zapp_g, zapp_g, List.length_append]
  by_cases e : i = l.length + m.length
  · rw [if_pos (by omega), if_neg (by omega), e, Nat.sub_self]
    rfl
  · rw [if_neg (by omega), if_pos (by omega)]
    by_cases e2 : i < l.length
    · rw [if_pos e2, h2 _ (by omega), h1 i e2]
    · rw [if_neg e2]
      have := h3 (i - l.length) (by omega)
      rw [show s + l.length + (i - l.length) = s + i by omega] at this
      exact this
/-- & on the pile, off it -/
theorem zE_z1 {T : Nat → Int32} {g p s n : Nat} {o d : Int32} {w4 w5 : Nat → Int32} {tv : Int32} (h : w5 n = nI 38) : zrE T (g + 1) false p s (n + 1) o d w4 w5 tv = zrE T (g + 1) false p (s + 1) n o d (upd w4 s (-38)) w5 tv := by
  have e : ∀ k : Int32, zsl w5 k (n + 1) s w4 = zsl w5 k n (s + 1) (upd w4 s (-38)) := fun k => by
    rw [zsl, if_pos (Or.inl h), h]
    rfl
  rw [zrE, zrE, e, e]
theorem zE_z2 {T : Nat → Int32} {g p s n : Nat} {o d : Int32} {w4 w5 : Nat → Int32} {tv : Int32} (h : w5 n = nI 124) (hp : ¬ T p = nI 38) : zrE T (g + 1) false p s (n + 1) o d w4 w5 tv = zrE T (g + 1) false p (s + 1) n o d (upd w4 s (-124)) w5 tv := by
  have e : ∀ k : Int32, ¬ k = nI 38 → zsl w5 k (n + 1) s w4 = zsl w5 k n (s + 1) (upd w4 s (-124)) := fun k hk => by
    rw [zsl, if_pos (Or.inr ⟨h, hk⟩), h]
    rfl
  rw [zrE, zrE, e (nI 124) (by decide)]
  by_cases c : T p = nI 38 ∨ T p = nI 124
  · rw [if_pos c, if_pos c, e (T p) hp]
  · rw [if_neg c, if_neg c]
section
variable {T : Nat → Int32} {F hp : Nat} {part : Nat → List Int32 → zPR} {o : Int32}
/-- what is asked of a part -/
def zPt1 (T : Nat → Int32) (F h : Nat) (part : Nat → List Int32 → zPR) (o : Int32) : Prop := ∀ (p : Nat) (cs : List Int32) (g s n : Nat) (d : Int32) (w4 w5 : Nat → Int32) (tv : Int32), F + 1 ≤ p + g → p ≤ F → cs.length ≤ p → zOp T F h (part p cs) cs g p s n o d w4 w5 tv
/-- E & E & .. -/
theorem zAnd_e (hh : 1 ≤ hp) (hF : F ≤ 100) (hT : zTe T F) (hP : zPt1 T F hp part o) {E0 : zRE} {s n p : Nat} {w4 w5 : Nat → Int32} {cs : List Int32} (hx : n = 0 ∨ w5 (n - 1) = nI 40 ∨ w5 (n - 1) = nI 124) (hcs : cs.length ≤ p) : ∀ (k p1 : Nat) (l : List Int32), F < p1 + k → zRe1 T F (hp + 1) E0 s n o w4 w5 p p1 l → zEo T F (hp + 1) (fun v => ¬ v = nI 38) (zLp part T (nI 38) (-2) k (true, p1, cs ++ l)) cs E0 s n o w4 w5 p
  | 0, p1, l, hk, h => by
    obtain ⟨g1, d1, v4, v5, t1, h1, h2, -⟩ := h
    omega
  | k + 1, p1, l, hk, h => by
    rw [zLp]
    by_cases c : T p1 = nI 38
    · have et : ztke T (nI 38) p1 (cs ++ l) = (true, p1 + 1, cs ++ l) := if_pos c
      show zEo T F (hp + 1) _ (if true = true ∧ (ztke T (nI 38) p1 (cs ++ l)).1 = true then zLp part T (nI 38) (-2) k (zth (part (ztke T (nI 38) p1 (cs ++ l)).2.1 (ztke T (nI 38) p1 (cs ++ l)).2.2) (zpt (-2))) else (true, p1, cs ++ l)) cs E0 s n o w4 w5 p
      rw [et, if_pos ⟨rfl, rfl⟩]
      obtain ⟨g1, d1, v4, v5, t1, h1, h2, h3, h4, h5, h6, h7, h8, h9⟩ := h
      have hlt : p1 < F := zE_lt hT (fun z => by rw [z] at c; exact absurd c (by decide))
      obtain ⟨g2, rfl⟩ : ∃ m, g1 = m + 1 := ⟨g1 - 1, by omega⟩
      have hz : zsl v5 (nI 38) n (s + l.length) v4 = (s + l.length, n, v4) := zsl_0 (by
        rcases hx with hx | hx | hx
        · exact Or.inl hx
        · by_cases n0 : n = 0
          · exact Or.inl n0
          · exact Or.inr (fun z => by rw [h8 (n - 1) (by omega), hx] at z; exact z.elim (fun y => absurd y (by decide)) (fun y => absurd y.1 (by decide)))
        · by_cases n0 : n = 0
          · exact Or.inl n0
          · exact Or.inr (fun z => by rw [h8 (n - 1) (by omega), hx] at z; exact z.elim (fun y => absurd y (by decide)) (fun y => y.2 rfl)))
      have h10 : E0 = zrE T g2 true (p1 + 1) (s + l.length) (n + 1) o d1 v4 (upd v5 n (nI 38)) t1 := by
        rw [h9, zrE, if_pos (Or.inl c), c, hz]
      have hlen : (cs ++ l).length ≤ p1 + 1 := by rw [List.length_append]; omega
      rcases hP (p1 + 1) (cs ++ l) g2 (s + l.length) (n + 1) d1 v4 (upd v5 n (nI 38)) t1 (by omega) (by omega) hlen with ⟨r1, m, g3, d3, u4, u5, t3, k1, k2, k3, k4, k5, k6, k7, k8, k9, k10⟩ | ⟨r1, r2, r3⟩
      · generalize hr : part (p1 + 1) (cs ++ l) = r at *
        have hm : ¬ u5 n = nI 33 := by
          rw [k9 n (by omega)]
          show ¬ (if n = n then nI 38 else v5 n) = nI 33
          rw [if_pos rfl]
          decide
        rw [zwl_0 (Or.inr hm)] at k10
        obtain ⟨g4, rfl⟩ : ∃ m, g3 = m + 1 := ⟨g3 - 1, by omega⟩
        have hn38 : u5 n = nI 38 := (k9 n (by omega)).trans (if_pos rfl)
        have k11 : E0 = zrE T (g4 + 1) false r.2.1 (s + l.length + m.length + 1) n o d3 (upd u4 (s + l.length + m.length) (-38)) u5 t3 := by
          rw [h10, k10]
          exact zE_z1 hn38
        have ht : zth r (zpt (-2)) = (true, r.2.1, cs ++ (l ++ m ++ [-2])) := by
          unfold zth zpt
          rw [if_pos r1, k1, if_pos (by rw [List.length_append, List.length_append]; omega)]
          simp only [List.append_assoc]
        rw [ht]
        refine zAnd_e hh hF hT hP hx hcs k r.2.1 (l ++ m ++ [-2]) (by omega) ⟨g4 + 1, d3, upd u4 (s + l.length + m.length) (-38), u5, t3, ?_, k3, k4, zSeg_a h4 k5 (Nat.le_refl _) ?_, zcd_app h5 k6 (Or.inr (Or.inl rfl)), fun j hj => ?_, zput3 (c := -2) h7 k7 k8, fun j hj => ?_, ?_⟩
        · rw [zlen3]
          omega
        · omega
        · show (if j = s + l.length + m.length then _ else u4 j) = w4 j
          rw [if_neg (by omega), k7 j (by omega), h6 j hj]
        · rw [k9 j (by omega)]
          show (if j = n then _ else v5 j) = w5 j
          rw [if_neg (by omega), h8 j hj]
        · rw [k11, zlen3, show s + (l.length + m.length + 1) = s + l.length + m.length + 1 by omega]
      · rw [zLp_f (by unfold zth; rw [if_neg (by rw [r1]; decide)]; exact r1)]
        refine Or.inr ⟨?_, by rw [h10]; exact r2, ?_⟩
        · unfold zth
          rw [if_neg (by rw [r1]; decide)]
          exact r1
        · rw [h10, r3]
          unfold zth
          rw [if_neg (by rw [r1]; decide)]
    · have et : ztke T (nI 38) p1 (cs ++ l) = (false, p1, cs ++ l) := if_neg c
      show zEo T F (hp + 1) _ (if true = true ∧ (ztke T (nI 38) p1 (cs ++ l)).1 = true then zLp part T (nI 38) (-2) k (zth (part (ztke T (nI 38) p1 (cs ++ l)).2.1 (ztke T (nI 38) p1 (cs ++ l)).2.2) (zpt (-2))) else (true, p1, cs ++ l)) cs E0 s n o w4 w5 p
      rw [et, if_neg (fun z => absurd (show false = true from z.2) (by decide))]
      exact Or.inl ⟨rfl, c, l, rfl, h⟩
/-- an & chain -/
theorem zEa_e (hh : 1 ≤ hp) (hF : F ≤ 100) (hT : zTe T F) (hP : zPt1 T F hp part o) {g p s n : Nat} {d : Int32} {w4 w5 : Nat → Int32} {tv : Int32} {cs : List Int32} (hg : F + 1 ≤ p + g) (hp9 : p ≤ F) (hx : n = 0 ∨ w5 (n - 1) = nI 40 ∨ w5 (n - 1) = nI 124) (hcs : cs.length ≤ p) : zEo T F (hp + 1) (fun v => ¬ v = nI 38) (zEa part T p cs) cs (zrE T g true p s n o d w4 w5 tv) s n o w4 w5 p := by
  unfold zEa
  rcases hP p cs g s n d w4 w5 tv hg hp9 hcs with ⟨r1, m, g3, d3, u4, u5, t3, k1, k2, k3, k4, k5, k6, k7, k8, k9, k10⟩ | ⟨r1, r2, r3⟩
  · have hm : n = 0 ∨ ¬ u5 (n - 1) = nI 33 := by
      by_cases n0 : n = 0
      · exact Or.inl n0
      · refine Or.inr (fun z => ?_)
        rw [k9 (n - 1) (by omega)] at z
        rcases hx with hx | hx | hx
        · exact n0 hx
        · rw [hx] at z
          exact absurd z (by decide)
        · rw [hx] at z
          exact absurd z (by decide)
    rw [zwl_0 hm] at k10
    have er : part p cs = (true, (part p cs).2.1, cs ++ m) := by
      rw [← k1, ← r1]
    rw [er]
    exact zAnd_e hh hF hT hP hx hcs 100 (part p cs).2.1 m (by omega) ⟨g3, d3, u4, u5, t3, k2, k3, k4, zSeg_w k5 (by omega), k6, k7, k8, k9, k10⟩
  · rw [zLp_f r1]
    exact Or.inr ⟨r1, r2, r3⟩
/-- E | E | .. -/
theorem zOr_e (hh : 1 ≤ hp) (hF : F ≤ 100) (hT : zTe T F) (hP : zPt1 T F hp part o) {E0 : zRE} {s n p : Nat} {w4 w5 : Nat → Int32} {cs : List Int32} (hx : n = 0 ∨ w5 (n - 1) = nI 40) (hcs : cs.length ≤ p) : ∀ (k p1 : Nat) (l : List Int32), F < p1 + k → ¬ T p1 = nI 38 → zRe1 T F (hp + 2) E0 s n o w4 w5 p p1 l → zEo T F (hp + 2) (fun v => ¬ v = nI 38 ∧ ¬ v = nI 124) (zLp (zEa part T) T (nI 124) (-3) k (true, p1, cs ++ l)) cs E0 s n o w4 w5 p
  | 0, p1, l, hk, h38, h => by
    obtain ⟨g1, d1, v4, v5, t1, h1, h2, -⟩ := h
    omega
  | k + 1, p1, l, hk, h38, h => by
    rw [zLp]
    by_cases c : T p1 = nI 124
    · have et : ztke T (nI 124) p1 (cs ++ l) = (true, p1 + 1, cs ++ l) := if_pos c
      show zEo T F (hp + 2) _ (if true = true ∧ (ztke T (nI 124) p1 (cs ++ l)).1 = true then zLp (zEa part T) T (nI 124) (-3) k (zth (zEa part T (ztke T (nI 124) p1 (cs ++ l)).2.1 (ztke T (nI 124) p1 (cs ++ l)).2.2) (zpt (-3))) else (true, p1, cs ++ l)) cs E0 s n o w4 w5 p
      rw [et, if_pos ⟨rfl, rfl⟩]
      obtain ⟨g1, d1, v4, v5, t1, h1, h2, h3, h4, h5, h6, h7, h8, h9⟩ := h
      have hlt : p1 < F := zE_lt hT (fun z => by rw [z] at c; exact absurd c (by decide))
      obtain ⟨g2, rfl⟩ : ∃ m, g1 = m + 1 := ⟨g1 - 1, by omega⟩
      have hz : zsl v5 (nI 124) n (s + l.length) v4 = (s + l.length, n, v4) := zsl_0 (by
        rcases hx with hx | hx
        · exact Or.inl hx
        · by_cases n0 : n = 0
          · exact Or.inl n0
          · exact Or.inr (fun z => by rw [h8 (n - 1) (by omega), hx] at z; exact z.elim (fun y => absurd y (by decide)) (fun y => absurd y.1 (by decide))))
      have h10 : E0 = zrE T g2 true (p1 + 1) (s + l.length) (n + 1) o d1 v4 (upd v5 n (nI 124)) t1 := by
        rw [h9, zrE, if_pos (Or.inr c), c, hz]
      have hlen : (cs ++ l).length ≤ p1 + 1 := by rw [List.length_append]; omega
      have hu : upd v5 n (nI 124) n = nI 124 := if_pos rfl
      rcases zEa_e hh hF hT hP (g := g2) (p := p1 + 1) (s := s + l.length) (n := n + 1) (d := d1) (w4 := v4) (w5 := upd v5 n (nI 124)) (tv := t1) (cs := cs ++ l) (by omega) (by omega) (Or.inr (Or.inr hu)) hlen with ⟨r1, rs, m, k1, g3, d3, u4, u5, t3, k2, k3, k4, k5, k6, k7, k8, k9, k10⟩ | ⟨r1, r2, r3⟩
      · generalize hr : zEa part T (p1 + 1) (cs ++ l) = r at *
        obtain ⟨g4, rfl⟩ : ∃ m, g3 = m + 1 := ⟨g3 - 1, by omega⟩
        have hn124 : u5 n = nI 124 := (k9 n (by omega)).trans hu
        have k11 : E0 = zrE T (g4 + 1) false r.2.1 (s + l.length + m.length + 1) n o d3 (upd u4 (s + l.length + m.length) (-124)) u5 t3 := by
          rw [h10, k10]
          exact zE_z2 hn124 rs
        have ht : zth r (zpt (-3)) = (true, r.2.1, cs ++ (l ++ m ++ [-3])) := by
          unfold zth zpt
          rw [if_pos r1, k1, if_pos (by rw [List.length_append, List.length_append]; omega)]
          simp only [List.append_assoc]
        rw [ht]
        refine zOr_e hh hF hT hP hx hcs k r.2.1 (l ++ m ++ [-3]) (by omega) rs ⟨g4 + 1, d3, upd u4 (s + l.length + m.length) (-124), u5, t3, ?_, k3, k4, zSeg_o h4 k5 (by omega) (by omega), zcd_app h5 k6 (Or.inr (Or.inr (Or.inl rfl))), fun j hj => ?_, zput3 (c := -3) h7 k7 k8, fun j hj => ?_, ?_⟩
        · rw [zlen3]
          omega
        · show (if j = s + l.length + m.length then _ else u4 j) = w4 j
          rw [if_neg (by omega), k7 j (by omega), h6 j hj]
        · rw [k9 j (by omega)]
          show (if j = n then _ else v5 j) = w5 j
          rw [if_neg (by omega), h8 j hj]
        · rw [k11, zlen3, show s + (l.length + m.length + 1) = s + l.length + m.length + 1 by omega]
      · rw [zLp_f (by unfold zth; rw [if_neg (by rw [r1]; decide)]; exact r1)]
        refine Or.inr ⟨?_, by rw [h10]; exact r2, ?_⟩
        · unfold zth
          rw [if_neg (by rw [r1]; decide)]
          exact r1
        · rw [h10, r3]
          unfold zth
          rw [if_neg (by rw [r1]; decide)]
    · have et : ztke T (nI 124) p1 (cs ++ l) = (false, p1, cs ++ l) := if_neg c
      show zEo T F (hp + 2) _ (if true = true ∧ (ztke T (nI 124) p1 (cs ++ l)).1 = true then zLp (zEa part T) T (nI 124) (-3) k (zth (zEa part T (ztke T (nI 124) p1 (cs ++ l)).2.1 (ztke T (nI 124) p1 (cs ++ l)).2.2) (zpt (-3))) else (true, p1, cs ++ l)) cs E0 s n o w4 w5 p
      rw [et, if_neg (fun z => absurd (show false = true from z.2) (by decide))]
      exact Or.inl ⟨rfl, ⟨h38, c⟩, l, rfl, h⟩
/-- an E -/
theorem zEi_e (hh : 1 ≤ hp) (hF : F ≤ 100) (hT : zTe T F) (hP : zPt1 T F hp part o) {g p s n : Nat} {d : Int32} {w4 w5 : Nat → Int32} {tv : Int32} {cs : List Int32} (hg : F + 1 ≤ p + g) (hp9 : p ≤ F) (hx : n = 0 ∨ w5 (n - 1) = nI 40) (hcs : cs.length ≤ p) : zEo T F (hp + 2) (fun v => ¬ v = nI 38 ∧ ¬ v = nI 124) (zEi part T p cs) cs (zrE T g true p s n o d w4 w5 tv) s n o w4 w5 p := by
  unfold zEi
  rcases zEa_e hh hF hT hP (g := g) (p := p) (s := s) (n := n) (d := d) (w4 := w4) (w5 := w5) (tv := tv) (cs := cs) hg hp9 (hx.elim Or.inl (fun z => Or.inr (Or.inl z))) hcs with ⟨r1, rs, m, k1, g3, d3, u4, u5, t3, k2, k3, k4, k5, k6, k7, k8, k9, k10⟩ | ⟨r1, r2, r3⟩
  · have er : zEa part T p cs = (true, (zEa part T p cs).2.1, cs ++ m) := by
      rw [← k1, ← r1]
    rw [er]
    exact zOr_e hh hF hT hP hx hcs 100 (zEa part T p cs).2.1 m (by omega) rs ⟨g3, d3, u4, u5, t3, k2, k3, k4, zSeg_w k5 (by omega), k6, k7, k8, k9, k10⟩
  · rw [zLp_f r1]
    exact Or.inr ⟨r1, r2, r3⟩
end
theorem zcode_t : ∀ f : Fin 7, ∀ sg : Fin 3, ∀ j : Fin 100, ((nI f.val * nI 3) + nI sg.val) * nI 100 + nI j.val = nI ((f.val * 3 + sg.val) * 100 + j.val) ∧ nI 1000 * nI f.val + nI 100 * nI sg.val + nI j.val = nI (1000 * f.val + 100 * sg.val + j.val) := by decide +kernel
/-- a test, in both -/
theorem zts_e {T : Nat → Int32} {F p : Nat} {cs : List Int32} (hF : F ≤ 100) (hT : zTe T F) (hB : ∀ k, zby1 (T k)) (hp : p ≤ F) (hcs : cs.length ≤ p) {s n : Nat} {o d : Int32} {w4 w5 : Nat → Int32} : ((zts T p cs).1 = true ∧ ∃ q, q < 2100 ∧ (zts T p cs).2.2 = cs ++ [nI q] ∧ p + 2 < (zts T p cs).2.1 ∧ (zts T p cs).2.1 ≤ F ∧ ∃ d1, zrT T p s n o d w4 w5 = (true, zpw (zts T p cs).2.1 s n o d1 (zfi (nI q)) w4 w5)) ∨ ((zts T p cs).1 = false ∧ (zrT T p s n o d w4 w5).1 = false ∧ (zrT T p s n o d w4 w5).2.1 = (zts T p cs).2.1) := by
  obtain ⟨a1, a2⟩ := zb4 (hB p)
  obtain ⟨b1, b2⟩ := zb5 (hB (p + 1))
  have hN := znum_e (T := T) (p := p + 2) (d := d) hB
  unfold zts zrT
  rw [a1]
  by_cases c1 : zpl (T p) < 0
  · rw [if_pos c1, if_pos c1]
    exact Or.inr ⟨rfl, rfl, rfl⟩
  · rw [if_neg c1, if_neg c1]
    obtain ⟨f, hf, ef⟩ := a2.resolve_left c1
    by_cases c2 : zone 5 (T (p + 1)) < 0
    · rw [if_pos c2, if_neg (b1.mp c2)]
      exact Or.inr ⟨rfl, rfl, rfl⟩
    · have c2' : zdrs (T (p + 1)) := Classical.byContradiction (fun z => c2 (b1.mpr z))
      obtain ⟨e5, sg, hs, es⟩ := b2 c2
      rw [if_neg c2, if_pos c2']
      rcases hN with ⟨n1, n2, n3, n4, n5, n6, j, hj, n7⟩ | ⟨n1, n2, n3, n4⟩
      · rw [if_neg n2, if_pos n1, n3, n4, e5, es, ef, n7]
        have hlt : p + 2 < F := zE_lt hT n6
        have hle : (znum T (p + 2)).2 ≤ F := by
          exact znum_in hT (by omega)
        have ev : ((nI f * nI 3) + nI sg) * nI 100 + nI j = nI ((f * 3 + sg) * 100 + j) := by
          exact (zcode_t ⟨f, hf⟩ ⟨sg, hs⟩ ⟨j, hj⟩).1
        have ev2 : nI 1000 * nI f + nI 100 * nI sg + nI j = zfi (nI ((f * 3 + sg) * 100 + j)) := by
          rw [zfi_q (by omega), show ((f * 3 + sg) * 100 + j) / 300 = f by omega, show ((f * 3 + sg) * 100 + j) / 100 % 3 = sg by omega, show ((f * 3 + sg) * 100 + j) % 100 = j by omega]
          exact (zcode_t ⟨f, hf⟩ ⟨sg, hs⟩ ⟨j, hj⟩).2
        unfold zpt
        rw [if_pos (by omega), ev, ev2]
        exact Or.inl ⟨rfl, (f * 3 + sg) * 100 + j, by omega, rfl, n5, hle, _, rfl⟩
      · rw [if_pos n2, if_neg (by rw [n1]; decide)]
        exact Or.inr ⟨rfl, rfl, rfl⟩
theorem zPa_t {T : Nat → Int32} {F p : Nat} {cs : List Int32} (hF : F ≤ 100) (hT : zTe T F) (hB : ∀ k, zby1 (T k)) {g0 s n : Nat} {o d : Int32} {w4 w5 : Nat → Int32} {tv : Int32} (hg : F + 1 ≤ p + (g0 + 1)) (hp : p ≤ F) (hcs : cs.length ≤ p) (c : ¬ (T p = nI 33 ∨ T p = nI 40)) : zOp T F 1 (zts T p cs) cs (g0 + 1) p s n o d w4 w5 tv := by
  rcases zts_e (s := s) (n := n) (o := o) (d := d) (w4 := w4) (w5 := w5) hF hT hB hp hcs with ⟨r1, q, hq, k1, k2, k3, d1, k4⟩ | ⟨r1, r2, r3⟩
  · refine Or.inl ⟨r1, [nI q], g0, d1, upd w4 s (zfi (nI q)), w5, tv, k1, ?_, k3, ?_, zSeg_t hq, ?_, fun j hj => ?_, fun i hi => ?_, fun j hj => rfl, ?_⟩
    · show 1 + p + 1 ≤ (zts T p cs).2.1
      omega
    · omega
    · intro v hv
      rw [List.mem_singleton.mp hv]
      exact Or.inr (Or.inr (Or.inr ⟨q, hq, rfl⟩))
    · exact if_neg (by omega)
    · have hi0 : i = 0 := by simpa using hi
      subst hi0
      exact if_pos rfl
    · rw [zrE, if_neg c, k4, if_pos rfl]
      rfl
  · refine Or.inr ⟨r1, ?_, ?_⟩
    · rw [zrE, if_neg c, if_neg (by rw [r2]; decide)]
    · rw [zrE, if_neg c, if_neg (by rw [r2]; decide)]
      exact r3
/-- a part, at a depth -/
theorem zPa_e {T : Nat → Int32} {F : Nat} (hF : F ≤ 100) (hT : zTe T F) (hB : ∀ k, zby1 (T k)) : ∀ e, e ≤ 4 → zPt1 T F (2 * e + 1) (zPa T e) (nI (4 - e))
  | 0, he => by
    intro p cs g s n d w4 w5 tv hg hp hcs
    obtain ⟨g0, rfl⟩ : ∃ m, g = m + 1 := ⟨g - 1, by omega⟩
    show zOp T F 1 (zts T p cs) cs (g0 + 1) p s n (nI 4) d w4 w5 tv
    have hpl : ∀ v, (v = nI 33 ∨ v = nI 40) → zone 4 v < 0 := fun v hv => by rcases hv with rfl | rfl <;> decide
    by_cases c : T p = nI 33 ∨ T p = nI 40
    · have ez : zts T p cs = (false, p, cs) := if_pos (hpl _ c)
      have er : zrE T (g0 + 1) true p s n (nI 4) d w4 w5 tv = (false, tv, p, s, n, nI 4, d, w4, w5) := by
        rw [zrE, if_pos c, if_pos rfl]
      rw [ez]
      exact Or.inr ⟨rfl, by rw [er], by rw [er]⟩
    · exact zPa_t hF hT hB hg hp hcs c
  | e + 1, he => by
    intro p cs g s n d w4 w5 tv hg hp hcs
    obtain ⟨g0, rfl⟩ : ∃ m, g = m + 1 := ⟨g - 1, by omega⟩
    have hP := zPa_e hF hT hB e (by omega)
    have ho : nI (4 - (e + 1)) + nI 1 = nI (4 - e) := by
      rw [nI_add]
      congr 1
      omega
    have ho2 : nI (4 - e) - nI 1 = nI (4 - (e + 1)) := by
      rw [← ho]
      exact Int32.add_sub_cancel _ _
    have hn4 : ¬ nI (4 - (e + 1)) = nI 4 := fun z => by
      have := (zqE (by omega) (by omega)).mp z
      omega
    rw [zPa]
    by_cases c1 : T p = nI 33
    · have et : ztke T (nI 33) p cs = (true, p + 1, cs) := if_pos c1
      have hlt : p < F := zE_lt hT (fun z => by rw [z] at c1; exact absurd c1 (by decide))
      rw [et, if_pos rfl]
      show zOp T F _ (zNt (zPa T e) (p + 1) cs) cs (g0 + 1) p s n _ d w4 w5 tv
      have er : zrE T (g0 + 1) true p s n (nI (4 - (e + 1))) d w4 w5 tv = zrE T g0 true (p + 1) s (n + 1) (nI (4 - e)) d w4 (upd w5 n (nI 33)) tv := by
        rw [zrE, if_pos (Or.inl c1), if_neg hn4, c1, ho]
      rcases hP (p + 1) cs g0 s (n + 1) d w4 (upd w5 n (nI 33)) tv (by omega) (by omega) (by omega) with ⟨r1, m, g3, d3, u4, u5, t3, k1, k2, k3, k4, k5, k6, k7, k8, k9, k10⟩ | ⟨r1, r2, r3⟩
      · have h33 : u5 n = nI 33 := (k9 n (by omega)).trans (if_pos rfl)
        have ew : zwl u5 (n + 1) (s + m.length) (nI (4 - e)) u4 = zwl u5 n (s + m.length + 1) (nI (4 - (e + 1))) (upd u4 (s + m.length) (-33)) := by
          rw [zwl, if_pos h33, ho2]
        have ht : zNt (zPa T e) (p + 1) cs = (true, (zPa T e (p + 1) cs).2.1, cs ++ (m ++ [-1])) := by
          unfold zNt zth zpt
          rw [if_pos r1, k1, if_pos (by rw [List.length_append]; omega)]
          simp only [List.append_assoc]
        have hl : (m ++ [(-1 : Int32)]).length = m.length + 1 := by rw [List.length_append]; rfl
        refine Or.inl ⟨by rw [ht], m ++ [-1], g3, d3, upd u4 (s + m.length) (-33), u5, t3, by rw [ht], ?_, by rw [ht]; exact k3, by rw [ht]; exact k4, zSeg_w (zSeg_n k5) (by omega), ?_, fun j hj => ?_, fun i hi => ?_, fun j hj => ?_, ?_⟩
        · rw [ht, hl]
          show m.length + 1 + p + 1 ≤ (zPa T e (p + 1) cs).2.1
          omega
        · intro v hv
          rcases List.mem_append.mp hv with hv | hv
          · exact k6 v hv
          · rw [List.mem_singleton.mp hv]
            exact Or.inl rfl
        · show (if j = s + m.length then _ else u4 j) = w4 j
          rw [if_neg (by omega), k7 j hj]
        · rw [hl] at hi
          show (if s + i = s + m.length then (-33 : Int32) else u4 (s + i)) = zfi ((m ++ [-1]).getD i 0)
          rw [zapp_g]
          by_cases z : i = m.length
          · rw [if_pos (by omega), if_neg (by omega), z, Nat.sub_self]
            rfl
          · rw [if_neg (by omega), if_pos (by omega), k8 i (by omega)]
        · rw [k9 j (by omega)]
          exact if_neg (by omega)
        · rw [er, k10, ew, ht, hl, Nat.add_assoc]
      · have ht : zNt (zPa T e) (p + 1) cs = zPa T e (p + 1) cs := by
          unfold zNt zth
          rw [if_neg (by rw [r1]; decide)]
        rw [ht]
        exact Or.inr ⟨r1, by rw [er]; exact r2, by rw [er]; exact r3⟩
    · have et : ztke T (nI 33) p cs = (false, p, cs) := if_neg c1
      rw [et, if_neg (show ¬ (false, p, cs).1 = true from fun z => absurd (show false = true from z) (by decide))]
      by_cases c2 : T p = nI 40
      · have et2 : ztke T (nI 40) p cs = (true, p + 1, cs) := if_pos c2
        have hlt : p < F := zE_lt hT (fun z => by rw [z] at c2; exact absurd c2 (by decide))
        rw [et2, if_pos rfl]
        show zOp T F _ (zth (zEi (zPa T e) T (p + 1) cs) (ztke T (nI 41))) cs (g0 + 1) p s n _ d w4 w5 tv
        have er : zrE T (g0 + 1) true p s n (nI (4 - (e + 1))) d w4 w5 tv = zrE T g0 true (p + 1) s (n + 1) (nI (4 - e)) d w4 (upd w5 n (nI 40)) tv := by
          rw [zrE, if_pos (Or.inr c2), if_neg hn4, c2, ho]
        have hu : upd w5 n (nI 40) n = nI 40 := if_pos rfl
        rcases zEi_e (by omega) hF hT hP (g := g0) (p := p + 1) (s := s) (n := n + 1) (d := d) (w4 := w4) (w5 := upd w5 n (nI 40)) (tv := tv) (cs := cs) (by omega) (by omega) (Or.inr hu) (by omega) with ⟨r1, ⟨rs1, rs2⟩, m, k1, g3, d3, u4, u5, t3, k2, k3, k4, k5, k6, k7, k8, k9, k10⟩ | ⟨r1, r2, r3⟩
        · generalize hr : zEi (zPa T e) T (p + 1) cs = r at *
          obtain ⟨g4, rfl⟩ : ∃ m, g3 = m + 1 := ⟨g3 - 1, by omega⟩
          have h40 : u5 n = nI 40 := (k9 n (by omega)).trans hu
          have hz : zsl u5 (nI 124) (n + 1) (s + m.length) u4 = (s + m.length, n + 1, u4) := zsl_0 (Or.inr (fun z => by
            rw [show n + 1 - 1 = n by omega, h40] at z
            exact z.elim (fun y => absurd y (by decide)) (fun y => absurd y.1 (by decide))))
          by_cases c3 : T r.2.1 = nI 41
          · have ht : zth r (ztke T (nI 41)) = (true, r.2.1 + 1, cs ++ m) := by
              unfold zth ztke
              rw [if_pos r1, if_pos c3, k1]
            have hlt2 : r.2.1 < F := zE_lt hT (fun z => by rw [z] at c3; exact absurd c3 (by decide))
            have ef : zrE T (g4 + 1) false r.2.1 (s + m.length) (n + 1) (nI (4 - e)) d3 u4 u5 t3 = zrE T g4 false (r.2.1 + 1) (zwl u5 n (s + m.length) (nI (4 - (e + 1))) u4).1 (zwl u5 n (s + m.length) (nI (4 - (e + 1))) u4).2.1 (zwl u5 n (s + m.length) (nI (4 - (e + 1))) u4).2.2.1 d3 (zwl u5 n (s + m.length) (nI (4 - (e + 1))) u4).2.2.2 u5 (nI (s + m.length)) := by
              rw [zrE, if_neg (fun z => z.elim rs1 rs2), hz, if_neg (by show ¬ n + 1 = 0; omega), if_pos c3, ho2]
              rfl
            rw [ht]
            refine Or.inl ⟨rfl, m, g4, d3, u4, u5, nI (s + m.length), rfl, ?_, hlt2, ?_, zSeg_w k5 (by omega), k6, k7, k8, fun j hj => ?_, ?_⟩
            · show m.length + p + 1 ≤ r.2.1 + 1
              omega
            · show F + 1 ≤ r.2.1 + 1 + g4
              omega
            · rw [k9 j (by omega)]
              exact if_neg (by omega)
            · rw [er, k10, ef]
          · have ht : zth r (ztke T (nI 41)) = (false, r.2.1, cs ++ m) := by
              unfold zth ztke
              rw [if_pos r1, if_neg c3, k1]
            have ef : zrE T (g4 + 1) false r.2.1 (s + m.length) (n + 1) (nI (4 - e)) d3 u4 u5 t3 = (false, nI (s + m.length), r.2.1, s + m.length, n + 1, nI (4 - e), d3, u4, u5) := by
              rw [zrE, if_neg (fun z => z.elim rs1 rs2), hz, if_neg (by show ¬ n + 1 = 0; omega), if_neg c3]
            rw [ht]
            exact Or.inr ⟨rfl, by rw [er, k10, ef], by rw [er, k10, ef]⟩
        · have ht : zth (zEi (zPa T e) T (p + 1) cs) (ztke T (nI 41)) = zEi (zPa T e) T (p + 1) cs := by
            unfold zth
            rw [if_neg (by rw [r1]; decide)]
          rw [ht]
          exact Or.inr ⟨r1, by rw [er]; exact r2, by rw [er]; exact r3⟩
      · have et2 : ztke T (nI 40) p cs = (false, p, cs) := if_neg c2
        rw [et2, if_neg (show ¬ (false, p, cs).1 = true from fun z => absurd (show false = true from z) (by decide))]
        have h := zPa_t (s := s) (n := n) (o := nI (4 - (e + 1))) (d := d) (w4 := w4) (w5 := w5) (tv := tv) hF hT hB hg hp hcs (fun z => z.elim c1 c2)
        rcases h with ⟨r1, m, g3, d3, u4, u5, t3, k1, k2, k3, k4, k5, k⟩ | h
        · exact Or.inl ⟨r1, m, g3, d3, u4, u5, t3, k1, k2, k3, k4, zSeg_w k5 (by omega), k⟩
        · exact Or.inr h
