/-! THE TABLES of the class: what stands in them, and what else stays as it was -/
def zfa (x : zX) (p q : Nat) (row : Int32) (k : Nat) : Int32 := if k = 0 then nI p else if k = 1 then nI q else if k = 2 then (if (nI 0) < (x.1 (zob x q) 3 - x.1 (zob x p) 3) then (x.1 (zob x q) 3 - x.1 (zob x p) 3) else (nI 0)) else if k = 3 then x.1 (zob x p) 2 + x.1 (zob x q) 2 else if k = 4 then (if x.1 (zob x p) 4 = x.1 (zob x q) 4 then nI 1 else nI 0) else if k = 5 then ((if znm x p q then nI 1 else nI 0) + (if znm x q p then nI 1 else nI 0)) else row
theorem zlook_6 {x : zX} {b p q k : Nat} {row : Int32} (hk : k < 7) : (zlook x b p q row).1 (b + 6) k = zfa x p q row k := by
  unfold zlook
  rw [zsI_u, zsI_u, zsI_u, zsI_u, zsI_u, zsI_u, zsI_u]
  unfold upd zfa
  rcases (show k = 0 ∨ k = 1 ∨ k = 2 ∨ k = 3 ∨ k = 4 ∨ k = 5 ∨ k = 6 by omega) with rfl | rfl | rfl | rfl | rfl | rfl | rfl <;> rfl
theorem zlook_2 {x : zX} {b p q : Nat} {row : Int32} : (zlook x b p q row).2 = x.2 := rfl
/-- the same but for the tables and the facts -/
def zQ6 (b : Nat) (x y : zX) : Prop := (∀ i, i ≠ 12 → i ≠ 13 → i ≠ 14 → i ≠ b + 6 → y.1 i = x.1 i) ∧ y.2 = x.2
theorem zQ6.r {b : Nat} {x : zX} : zQ6 b x x := ⟨fun _ _ _ _ _ => rfl, rfl⟩
theorem zQ6.t {b : Nat} {x y z : zX} (h : zQ6 b x y) (g : zQ6 b y z) : zQ6 b x z := ⟨fun i h1 h2 h3 h4 => (g.1 i h1 h2 h3 h4).trans (h.1 i h1 h2 h3 h4), g.2.trans h.2⟩
theorem zQ6.l {b p q : Nat} {row : Int32} {x : zX} : zQ6 b x (zlook x b p q row) := ⟨fun _ _ _ _ h4 => zlook_n h4, rfl⟩
theorem zQ6.s {b i k : Nat} {v : Int32} {x : zX} (hi : i = 12 ∨ i = 13 ∨ i = 14) : zQ6 b x (zsI x i k v) := ⟨fun j h1 h2 h3 _ => zsI_n (by omega), rfl⟩
theorem zob_q {b : Nat} {x y : zX} (h : zQ6 b x y) (q : Nat) : zob y q = zob x q := by unfold zob; rw [h.2]
theorem zNow_q {G : zG} {b N : Nat} {x y : zX} (h : zQ6 b x y) (hb : zRm b) (hn : zNow G x N) : zNow G y N := by
  have hr := zRm_b hb
  obtain ⟨h1, h2, h3, h4, h5⟩ := hn
  have e1 : y.1 1 = x.1 1 := h.1 1 (by omega) (by omega) (by omega) (by omega)
  have e4 : y.1 4 = x.1 4 := h.1 4 (by omega) (by omega) (by omega) (by omega)
  have e5 : y.1 5 = x.1 5 := h.1 5 (by omega) (by omega) (by omega) (by omega)
  refine ⟨h1, by rw [e1]; exact h2, fun q hq => ?_, by rw [e4]; exact h4, by rw [e5]; exact h5⟩
  obtain ⟨a1, a2, a3, a4⟩ := h3 q hq
  rw [zob_q h]
  refine ⟨by rw [h.2]; exact a1, a2, a3, ?_⟩
  rw [h.1 _ (by omega) (by omega) (by omega) (by omega)]
  exact a4
theorem zRo_q {b C : Nat} {x y : zX} (h : zQ6 b x y) (hb : zRm b) (hro : zRo x b C) : zRo y b C := by
  have hr := zRm_b hb
  obtain ⟨h1, h2, h3⟩ := hro
  have e0 : y.1 b = x.1 b := h.1 b (by omega) (by omega) (by omega) (by omega)
  have e3 : y.1 (b + 3) = x.1 (b + 3) := h.1 _ (by omega) (by omega) (by omega) (by omega)
  have e4 : y.1 (b + 4) = x.1 (b + 4) := h.1 _ (by omega) (by omega) (by omega) (by omega)
  refine ⟨h1, by rw [e0]; exact h2, fun k hk => ?_⟩
  have hz : zen y b k = zen x b k := by unfold zen; rw [e3]
  rw [hz, e3, e4]
  exact h3 k hk
theorem zso_c {x y : zX} {b q : Nat} (hq : q < 2100) (h : ∀ k, k < 7 → y.1 (b + 6) k = x.1 (b + 6) k) : zso y b q ↔ zso x b q := by
  have e := h (q / 300) (by omega)
  show ((_ ∧ y.1 (b + 6) (q / 300) < _) ∨ (_ ∧ _ ∧ y.1 (b + 6) (q / 300) = _) ∨ (_ ∧ _ ∧ _ < y.1 (b + 6) (q / 300))) ↔ _
  rw [e]
theorem zhs_c {x y : zX} {b : Nat} {cd s : Int32} (hc : zcdO cd) (h : ∀ k, k < 7 → y.1 (b + 6) k = x.1 (b + 6) k) : zhs y b cd s = zhs x b cd s := by
  unfold zhs
  rcases hc with rfl | rfl | rfl | ⟨q, hq, rfl⟩
  · exact (if_neg (by decide)).trans (if_neg (by decide)).symm
  · exact (if_neg (by decide)).trans (if_neg (by decide)).symm
  · exact (if_neg (by decide)).trans (if_neg (by decide)).symm
  · rw [if_pos (nI_pos (by omega)), if_pos (nI_pos (by omega)), nI_clamp (by omega)]
    have e := zso_c (x := x) (y := y) (b := b) hq h
    by_cases hz : zso x b q
    · rw [if_pos hz, if_pos (e.mpr hz)]
    · rw [if_neg hz, if_neg (fun h9 => hz (e.mp h9))]
theorem zhf_c {x y : zX} {b fr : Nat} (h4 : y.1 (b + 4) = x.1 (b + 4)) (h : ∀ k, k < 7 → y.1 (b + 6) k = x.1 (b + 6) k) : ∀ n, (∀ c, c < fr + n → zcdO (x.1 (b + 4) c)) → zhf y b fr n = zhf x b fr n
  | 0, _ => rfl
  | n + 1, hc => by
    rw [zhf, zhf, h4, zhf_c h4 h n (fun c hc9 => hc c (by omega))]
    exact zhs_c (hc (fr + n) (by omega)) h
theorem zsm_c {x y : zX} {b C : Nat} {w : Int32} (hro : zRo x b C) (h1 : y.1 (b + 1) = x.1 (b + 1)) (h2 : y.1 (b + 2) = x.1 (b + 2)) (h3 : y.1 (b + 3) = x.1 (b + 3)) (h4 : y.1 (b + 4) = x.1 (b + 4)) (h : ∀ k, k < 7 → y.1 (b + 6) k = x.1 (b + 6) k) : zsm y b w C = zsm x b w C := by
  refine zsum_c (fun k hk => ?_)
  have he : zen y b k = zen x b k := by unfold zen; rw [h3]
  have hf : zfr y b k = zfr x b k := by
    cases k with
    | zero => rfl
    | succ k => show zen y b k = zen x b k; unfold zen; rw [h3]
  have hh : zhf y b (zfr x b k) (zen x b k - zfr x b k) = zhf x b (zfr x b k) (zen x b k - zfr x b k) := by
    by_cases hle : zfr x b k ≤ zen x b k
    · exact zhf_c h4 h _ (fun c hc => (hro.2.2 k hk).2.2 c (by omega))
    · rw [show zen x b k - zfr x b k = 0 by omega]; rfl
  show (if y.1 (b + 1) k = w ∧ ¬ (zhf y b (zfr y b k) (zen y b k - zfr y b k) &&& nI 1) = 0 then y.1 (b + 2) k else 0) = (if x.1 (b + 1) k = w ∧ ¬ (zhf x b (zfr x b k) (zen x b k - zfr x b k) &&& nI 1) = 0 then x.1 (b + 2) k else 0)
  rw [h1, h2, he, hf, hh]
theorem zfa_q {G : zG} {b N p q : Nat} {row : Int32} {x y : zX} (h : zQ6 b x y) (hb : zRm b) (hn : zNow G x N) (hp : p < N) (hq : q < N) (k : Nat) : zfa y p q row k = zfa x p q row k := by
  have hr := zRm_b hb
  have ep : y.1 (zob x p) = x.1 (zob x p) := by have := (hn.2.2.1 p hp).2.1; exact h.1 _ (by omega) (by omega) (by omega) (by omega)
  have eq : y.1 (zob x q) = x.1 (zob x q) := by have := (hn.2.2.1 q hq).2.1; exact h.1 _ (by omega) (by omega) (by omega) (by omega)
  have e5 : y.1 5 = x.1 5 := h.1 5 (by omega) (by omega) (by omega) (by omega)
  unfold zfa znm
  rw [zob_q h, zob_q h, ep, eq, e5]
/-- what a room says of a pair hangs on neither the tables nor the facts -/
theorem zsm_q {G : zG} {b N C p q : Nat} {row w : Int32} {x y : zX} (h : zQ6 b x y) (hb : zRm b) (hn : zNow G x N) (hro : zRo x b C) (hp : p < N) (hq : q < N) : zsm (zlook y b p q row) b w C = zsm (zlook x b p q row) b w C := by
  have hr := zRm_b hb
  refine zsm_c (zRo_l hro) ?_ ?_ ?_ ?_ (fun k hk => by rw [zlook_6 hk, zlook_6 hk]; exact zfa_q h hb hn hp hq k)
  · rw [zlook_n (by omega), zlook_n (by omega)]; exact h.1 _ (by omega) (by omega) (by omega) (by omega)
  · rw [zlook_n (by omega), zlook_n (by omega)]; exact h.1 _ (by omega) (by omega) (by omega) (by omega)
  · rw [zlook_n (by omega), zlook_n (by omega)]; exact h.1 _ (by omega) (by omega) (by omega) (by omega)
  · rw [zlook_n (by omega), zlook_n (by omega)]; exact h.1 _ (by omega) (by omega) (by omega) (by omega)
theorem zwby_q {G : zG} {b N k p q : Nat} {g : Int32} {x y : zX} (h : zQ6 b x y) (hb : zRm b) (hn : zNow G x N) (hp : p < N) (hq : q < N) : zwby y N k p q g = zwby x N k p q g := by
  have hr := zRm_b hb
  have ep : y.1 (zob x p) = x.1 (zob x p) := by have := (hn.2.2.1 p hp).2.1; exact h.1 _ (by omega) (by omega) (by omega) (by omega)
  have eq : y.1 (zob x q) = x.1 (zob x q) := by have := (hn.2.2.1 q hq).2.1; exact h.1 _ (by omega) (by omega) (by omega) (by omega)
  have e5 : y.1 5 = x.1 5 := h.1 5 (by omega) (by omega) (by omega) (by omega)
  unfold zwby zwlf zwhl zwhp zwws znm
  rw [zob_q h, zob_q h, ep, eq, e5]
/-- WORTH of a by b in a row, but for what a carrier loses -/
def zVw (G : zG) (x : zX) (N b C p q : Nat) (row : Int32) : Int32 := zwby x N (zk G (zob x p)) p q (zsm (zlook x b p q row) b (nI 0) C - zsm (zlook x b p q row) b (nI 1) C)
/-- BARRED -/
abbrev zVb (x : zX) (b C p q : Nat) (row : Int32) : Prop := 0 < zsm (zlook x b p q row) b (nI 2) C ∨ 0 < zsm (zlook x b q p row) b (nI 2) C
theorem zVw_q {G : zG} {b N C p q : Nat} {row : Int32} {x y : zX} (h : zQ6 b x y) (hb : zRm b) (hn : zNow G x N) (hro : zRo x b C) (hp : p < N) (hq : q < N) : zVw G y N b C p q row = zVw G x N b C p q row := by
  unfold zVw
  rw [zsm_q h hb hn hro hp hq, zsm_q h hb hn hro hp hq, zwby_q h hb hn hp hq, zob_q h]
theorem zVw_l {G : zG} {b N C p q : Nat} {row : Int32} {x y : zX} (h : zQ6 b x y) (hb : zRm b) (hn : zNow G x N) (hro : zRo x b C) (hp : p < N) (hq : q < N) : zwby (zlook y b p q row) N (zk G (zob y p)) p q (zsm (zlook y b p q row) b (nI 0) C - zsm (zlook y b p q row) b (nI 1) C) = zVw G x N b C p q row := by
  rw [zwby_q (h.t zQ6.l) hb hn hp hq, zsm_q h hb hn hro hp hq, zsm_q h hb hn hro hp hq, zob_q h]
  rfl
theorem zbar_of {G : zG} {b N C p q : Nat} {row r : Int32} {x y u : zX} (h : zQ6 b x y) (hb : zRm b) (hn : zNow G x N) (hro : zRo x b C) (hp : p < N) (hq : q < N)
    (hw : (0 < zsm (zlook y b p q row) b (nI 2) C ∧ (zlook y b p q row) = u ∧ nI 1 = r) ∨ (¬ 0 < zsm (zlook y b p q row) b (nI 2) C ∧ (zlook (zlook y b p q row) b q p row) = u ∧ (if 0 < zsm (zlook (zlook y b p q row) b q p row) b (nI 2) C then nI 1 else nI 0) = r)) :
    zQ6 b x u ∧ u.1 12 = y.1 12 ∧ u.1 13 = y.1 13 ∧ u.1 14 = y.1 14 ∧ (if zVb x b C p q row then nI 1 else nI 0) = r := by
  have hr := zRm_b hb
  rw [zsm_q h hb hn hro hp hq, zsm_q (h.t zQ6.l) hb hn hro hq hp] at hw
  rcases hw with ⟨h1, rfl, rfl⟩ | ⟨h1, rfl, rfl⟩
  · exact ⟨h.t zQ6.l, zlook_n (by omega), zlook_n (by omega), zlook_n (by omega), if_pos (Or.inl h1)⟩
  · refine ⟨(h.t zQ6.l).t zQ6.l, ?_, ?_, ?_, ?_⟩
    · rw [zlook_n (by omega), zlook_n (by omega)]
    · rw [zlook_n (by omega), zlook_n (by omega)]
    · rw [zlook_n (by omega), zlook_n (by omega)]
    · by_cases h2 : 0 < zsm (zlook x b q p row) b (nI 2) C
      · rw [if_pos h2]; exact if_pos (Or.inr h2)
      · rw [if_neg h2]; exact if_neg (fun h9 => h9.elim h1 h2)
/-- the tables so far: all cells ahead of (a, q, r) -/
def zFl (G : zG) (x : zX) (N b C : Nat) (y : zX) (a q r : Nat) : Prop := ∀ a' q' r', r' < 2 → q' < N → a' < N → ¬ a' = q' → (a' < a ∨ (a' = a ∧ (q' < q ∨ (q' = q ∧ r' < r)))) → y.1 12 ((r' * 8 + a') * 8 + q') = zVw G x N b C a' q' (nI r') ∧ y.1 13 ((r' * 8 + a') * 8 + q') = (if zVb x b C a' q' (nI r') then nI 1 else nI 0)
theorem zFl.z {G : zG} {x y : zX} {N b C : Nat} : zFl G x N b C y 0 0 0 := fun _ _ _ _ _ _ _ h => absurd h (by omega)
theorem zFl.q {G : zG} {x y : zX} {N b C a q : Nat} (h : zFl G x N b C y a q 2) : zFl G x N b C y a (q + 1) 0 := fun a' q' r' h1 h2 h3 h4 h5 => h a' q' r' h1 h2 h3 h4 (by omega)
theorem zFl.a {G : zG} {x y : zX} {N b C a q : Nat} (h : zFl G x N b C y a q 0) (hq : N ≤ q) : zFl G x N b C y (a + 1) 0 0 := fun a' q' r' h1 h2 h3 h4 h5 => h a' q' r' h1 h2 h3 h4 (by omega)
theorem zFl.e {G : zG} {x y : zX} {N b C a r : Nat} (h : zFl G x N b C y a a r) : zFl G x N b C y a a (r + 1) := fun a' q' r' h1 h2 h3 h4 h5 => h a' q' r' h1 h2 h3 h4 (by omega)
theorem zFl.s {G : zG} {x y u : zX} {N b C a q r : Nat} (h8 : N ≤ 8) (ha : a < N) (hq : q < N) (hr : r < 2) (h : zFl G x N b C y a q r) (e2 : u.1 12 = upd (y.1 12) ((r * 8 + a) * 8 + q) (zVw G x N b C a q (nI r))) (e3 : u.1 13 = upd (y.1 13) ((r * 8 + a) * 8 + q) (if zVb x b C a q (nI r) then nI 1 else nI 0)) : zFl G x N b C u a q (r + 1) := by
  intro a' q' r' h1 h2 h3 h4 h5
  by_cases hh : a' = a ∧ q' = q ∧ r' = r
  · obtain ⟨rfl, rfl, rfl⟩ := hh
    rw [e2, e3]
    exact ⟨if_pos rfl, if_pos rfl⟩
  · have hne : ¬ (r' * 8 + a') * 8 + q' = (r * 8 + a) * 8 + q := by omega
    rw [e2, e3]
    have h9 := h a' q' r' h1 h2 h3 h4 (by omega)
    exact ⟨(if_neg hne).trans h9.1, (if_neg hne).trans h9.2⟩
/-- the tables -/
def zTb (G : zG) (x : zX) (N b C : Nat) (u : zX) : Prop := (∀ a q r, r < 2 → q < N → a < N → ¬ a = q → u.1 12 ((r * 8 + a) * 8 + q) = zVw G x N b C a q (nI r) ∧ u.1 13 ((r * 8 + a) * 8 + q) = (if zVb x b C a q (nI r) then nI 1 else nI 0)) ∧ ∀ p, p < 8 → u.1 14 p = if p < N then (if zk G (zob x p) = 0 then x.1 (zob x p) 1 else nI 0) else nI 0
/-- the same but for the tables, the facts and whether they are counted -/
def zQ7 (b : Nat) (x y : zX) : Prop := (∀ i, i ≠ 0 → i ≠ 12 → i ≠ 13 → i ≠ 14 → i ≠ b + 6 → y.1 i = x.1 i) ∧ (∀ k, k ≠ 9 → y.1 0 k = x.1 0 k) ∧ y.2 = x.2
theorem zQ7.r {b : Nat} {x : zX} : zQ7 b x x := ⟨fun _ _ _ _ _ _ => rfl, fun _ _ => rfl, rfl⟩
theorem zQ6.q7 {b : Nat} {x y : zX} {v : Int32} (hb : zRm b) (h : zQ6 b x y) : zQ7 b x (zsI y 0 9 v) := by
  have hr := zRm_b hb
  refine ⟨fun i h0 h1 h2 h3 h4 => by rw [zsI_n h0]; exact h.1 i h1 h2 h3 h4, fun k hk => ?_, h.2⟩
  rw [zsI_u, h.1 0 (by decide) (by decide) (by decide) (by omega)]
  exact if_neg hk
theorem zNow_7 {G : zG} {b N : Nat} {x y : zX} (h : zQ7 b x y) (hb : zRm b) (hn : zNow G x N) : zNow G y N := by
  have hr := zRm_b hb
  obtain ⟨h1, h2, h3, h4, h5⟩ := hn
  have e1 : y.1 1 = x.1 1 := h.1 1 (by omega) (by omega) (by omega) (by omega) (by omega)
  have e4 : y.1 4 = x.1 4 := h.1 4 (by omega) (by omega) (by omega) (by omega) (by omega)
  have e5 : y.1 5 = x.1 5 := h.1 5 (by omega) (by omega) (by omega) (by omega) (by omega)
  have eo : ∀ q, zob y q = zob x q := fun q => by unfold zob; rw [h.2.2]
  refine ⟨h1, by rw [e1]; exact h2, fun q hq => ?_, by rw [e4]; exact h4, by rw [e5]; exact h5⟩
  obtain ⟨a1, a2, a3, a4⟩ := h3 q hq
  rw [eo]
  refine ⟨by rw [h.2.2]; exact a1, a2, a3, ?_⟩
  rw [h.1 _ (by omega) (by omega) (by omega) (by omega) (by omega)]
  exact a4
