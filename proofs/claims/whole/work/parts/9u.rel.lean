/-! THE RELATION between class and reference in one state -/
/-- who sits where, who names whom, who must sit in front -/
def zSc (N : Nat) (S Y : Nat → Int32) (bt : Int32) (se si na fr : Nat → Int32) : Prop :=
  N ≤ 8 ∧ (∀ t, t < 8 → S t = si t ∧ (S t = -1 ∨ ∃ q, q < N ∧ S t = nI q)) ∧
  (∀ q, q < N → ∃ t, t < 8 ∧ se q = nI t ∧ ∀ t2, t2 < 8 → (S t2 = nI q ↔ t2 = t)) ∧
  (∀ q, q < N → Y q = na q ∧ (Y q = -1 ∨ ∃ o, o < N ∧ Y q = nI o)) ∧
  (∃ m, m < 256 ∧ bt = nI m ∧ ∀ q, q < 8 → (m.testBit q = true ↔ q < N ∧ ¬ fr q = 0)) ∧ zbo fr 8
/-- who is there -/
def zPp (G : zG) (x : zX) (N : Nat) : Prop := x.1 1 3 = nI N ∧ x.1 77 0 = nI N ∧ ∀ q, q < N →
  (x.2.2 3 q = some (zob x q) ∧ 112 ≤ zob x q ∧ zob x q < zn G ∧ x.1 (zob x q) 0 = nI q) ∧
  zkn (zk G (zob x q)) = x.1 78 q ∧ x.1 (zob x q) 1 = x.1 79 q ∧ x.1 (zob x q) 2 = x.1 80 q ∧ x.1 (zob x q) 3 = x.1 81 q ∧ x.1 (zob x q) 4 = x.1 82 q ∧ ∀ i, 79 ≤ i → i ≤ 81 → ∃ j, j < 10 ∧ x.1 i q = nI j
/-- who has sat by whom -/
def zMo (N : Nat) (v : Int64) (dn : Nat → Int32) (c : Int32) : Prop := (∀ k, k < 64 → (zlb v k = true ↔ ¬ dn k = 0) ∧ (¬ dn k = 0 → k / 8 < k % 8 ∧ k % 8 < N)) ∧ zbo dn 64 ∧ c = nI (zpc (zlb v) 64)
def zHe (R : Nat) (a b : Int32) : Prop := a = b ∧ (a = -1 ∨ ∃ r, r < R ∧ a = nI r)
/-- what the image keeps -/
def zKp (x : zX) (N R : Nat) : Prop := (x.1 0 2 = 0 ∧ x.1 77 36 = 0) ∨ (¬ x.1 0 2 = 0 ∧ ¬ x.1 77 36 = 0 ∧ ∃ K, K ≤ N ∧ x.1 2 3 = nI K ∧ x.1 77 38 = nI K ∧ (∀ q, q < K → x.2.2 6 q = x.2.2 3 q) ∧
  zSc K (x.1 7) (x.1 8) (x.1 2 4) (x.1 102) (x.1 103) (x.1 104) (x.1 105) ∧ zMo K (x.2.1 2 5) (x.1 106) (x.1 77 39) ∧ zHe R (x.1 2 6) (x.1 77 37))
/-- a room's clause: the codes of both say the same of all that is asked -/
def zCk (x : zX) (r k : Nat) : Prop := ∃ fr en, 100 * r ≤ fr ∧ fr ≤ en ∧ en ≤ 100 * (r + 1) ∧ en ≤ fr + 99 ∧ x.1 92 (10 * r + k) = nI fr ∧ x.1 93 (10 * r + k) = nI en ∧ (∀ j, fr ≤ j → j < en → zcdR (x.1 94 j)) ∧
  ∀ g : Nat → Int32, zrsN g (x.1 94) fr (en - fr) = some [decide (zhd (zsrI x (28 + 7 * r + 6) g) (28 + 7 * r) (zfr x (28 + 7 * r) k) (zen x (28 + 7 * r) k))]
def zRk (x : zX) (r : Nat) : Prop := ∃ C, zRo x (28 + 7 * r) C ∧ x.1 89 r = nI C ∧ x.1 (28 + 7 * r) 6 = zhush (x.1 90) (x.1 91) (10 * r) C ∧ ∀ k, k < C → x.1 (28 + 7 * r + 1) k = x.1 90 (10 * r + k) ∧ (¬ x.1 90 (10 * r + k) = nI 2 → x.1 (28 + 7 * r + 2) k = x.1 91 (10 * r + k) ∧ ∃ j, j < 100 ∧ x.1 91 (10 * r + k) = nI j) ∧ (x.1 90 (10 * r + k) = nI 2 → x.1 (28 + 7 * r + 2) k = nI 1) ∧ (¬ x.1 90 (10 * r + k) = nI 3 → zCk x r k)
/-- the rooms -/
def zRq (x : zX) (R : Nat) : Prop := R ≤ 6 ∧ x.1 0 7 = nI R ∧ x.1 77 12 = nI R ∧ (∀ r, r < R → zRk x r) ∧ x.1 70 4 = nI 0 ∧ x.1 70 6 = nI 5
/-- what reading a room needs -/
def zRz (x : zX) : Prop := (∀ r, r < 7 → zTx x (28 + 7 * r)) ∧ (∀ k, k < 16 → x.1 96 k = zx1 96 k) ∧ (∃ p, x.1 77 15 = nI p) ∧ (∃ p, x.1 77 25 = nI p) ∧ ∃ p, x.1 77 26 = nI p
/-- the trace -/
def zTc (x : zX) : Prop := ∃ n, n < 1000 ∧ x.1 17 1 = nI n ∧ x.1 77 45 = nI n ∧ ∀ k, k < 20 → k < n → x.1 18 k = x.1 107 k
/-- the tables, where they are counted -/
def zTa (G : zG) (x : zX) (N : Nat) : Prop := ¬ x.1 0 9 = 0 → ∃ C, zRo x (zrix (x.1 1 6)) C ∧ zTb G x N (zrix (x.1 1 6)) C x
def zPt (G : zG) (x : zX) : Prop := zPw G x ∧ zPok G (x.2.2 3) ∧ zPok G (x.2.2 6)
def zRl (G : zG) (x : zX) (N R F : Nat) : Prop :=
  zOK G ∧ zPp G x N ∧ zSc N (x.1 4) (x.1 5) (x.1 1 4) (x.1 84) (x.1 85) (x.1 83) (x.1 86) ∧ zMo N (x.2.1 1 5) (x.1 87) (x.1 77 1) ∧ zHe R (x.1 1 6) (x.1 77 13) ∧ zKp x N R ∧ zRq x R ∧ zRz x ∧ zTc x ∧ zTa G x N ∧ zPt G x ∧ zRf x F ∧ zRt x ∧ zbo (x.1 105) 8 ∧ zbo (x.1 106) 64
theorem zRl.mk {G : zG} {x : zX} {N R F : Nat} (ok : zOK G) (pp : zPp G x N) (sc : zSc N (x.1 4) (x.1 5) (x.1 1 4) (x.1 84) (x.1 85) (x.1 83) (x.1 86)) (mo : zMo N (x.2.1 1 5) (x.1 87) (x.1 77 1)) (he : zHe R (x.1 1 6) (x.1 77 13)) (kp : zKp x N R) (rq : zRq x R) (rz : zRz x) (tc : zTc x) (ta : zTa G x N) (pt : zPt G x) (rf : zRf x F) (rt : zRt x) (b5 : zbo (x.1 105) 8) (b6 : zbo (x.1 106) 64) : zRl G x N R F := ⟨ok, pp, sc, mo, he, kp, rq, rz, tc, ta, pt, rf, rt, b5, b6⟩
theorem zRl.ok {G : zG} {x : zX} {N R F : Nat} (h : zRl G x N R F) : zOK G := h.1
theorem zRl.pp {G : zG} {x : zX} {N R F : Nat} (h : zRl G x N R F) : zPp G x N := h.2.1
theorem zRl.sc {G : zG} {x : zX} {N R F : Nat} (h : zRl G x N R F) : zSc N (x.1 4) (x.1 5) (x.1 1 4) (x.1 84) (x.1 85) (x.1 83) (x.1 86) := h.2.2.1
theorem zRl.mo {G : zG} {x : zX} {N R F : Nat} (h : zRl G x N R F) : zMo N (x.2.1 1 5) (x.1 87) (x.1 77 1) := h.2.2.2.1
theorem zRl.he {G : zG} {x : zX} {N R F : Nat} (h : zRl G x N R F) : zHe R (x.1 1 6) (x.1 77 13) := h.2.2.2.2.1
theorem zRl.kp {G : zG} {x : zX} {N R F : Nat} (h : zRl G x N R F) : zKp x N R := h.2.2.2.2.2.1
theorem zRl.rq {G : zG} {x : zX} {N R F : Nat} (h : zRl G x N R F) : zRq x R := h.2.2.2.2.2.2.1
theorem zRl.rz {G : zG} {x : zX} {N R F : Nat} (h : zRl G x N R F) : zRz x := h.2.2.2.2.2.2.2.1
theorem zRl.tc {G : zG} {x : zX} {N R F : Nat} (h : zRl G x N R F) : zTc x := h.2.2.2.2.2.2.2.2.1
theorem zRl.ta {G : zG} {x : zX} {N R F : Nat} (h : zRl G x N R F) : zTa G x N := h.2.2.2.2.2.2.2.2.2.1
theorem zRl.pt {G : zG} {x : zX} {N R F : Nat} (h : zRl G x N R F) : zPt G x := h.2.2.2.2.2.2.2.2.2.2.1
theorem zRl.rf {G : zG} {x : zX} {N R F : Nat} (h : zRl G x N R F) : zRf x F := h.2.2.2.2.2.2.2.2.2.2.2.1
theorem zRl.rt {G : zG} {x : zX} {N R F : Nat} (h : zRl G x N R F) : zRt x := h.2.2.2.2.2.2.2.2.2.2.2.2.1
theorem zRl.b5 {G : zG} {x : zX} {N R F : Nat} (h : zRl G x N R F) : zbo (x.1 105) 8 := h.2.2.2.2.2.2.2.2.2.2.2.2.2.1
theorem zRl.b6 {G : zG} {x : zX} {N R F : Nat} (h : zRl G x N R F) : zbo (x.1 106) 64 := h.2.2.2.2.2.2.2.2.2.2.2.2.2.2
theorem zPp_c {G : zG} {x u : zX} {N : Nat} (h1 : u.1 1 3 = x.1 1 3) (h2 : u.1 77 0 = x.1 77 0) (h3 : u.2.2 3 = x.2.2 3) (h4 : ∀ i, 112 ≤ i → u.1 i = x.1 i) (h5 : ∀ i, 78 ≤ i → i ≤ 82 → u.1 i = x.1 i) (h : zPp G x N) : zPp G u N := by
  obtain ⟨a, b, c⟩ := h
  refine ⟨h1.trans a, h2.trans b, fun q hq => ?_⟩
  have e : zob u q = zob x q := by unfold zob; rw [h3]
  have c2 := c q hq
  rw [e, h3, h4 _ c2.1.2.1, h5 78 (by omega) (by omega), h5 79 (by omega) (by omega), h5 80 (by omega) (by omega), h5 81 (by omega) (by omega), h5 82 (by omega) (by omega)]
  obtain ⟨c3, c4, c5, c6, c7, c8, c9⟩ := c2
  exact ⟨c3, c4, c5, c6, c7, c8, fun i i1 i2 => by rw [h5 i (by omega) (by omega)]; exact c9 i i1 i2⟩
/-! from the relation, what the methods ask -/
theorem zRl.now {G : zG} {x : zX} {N R F : Nat} (h : zRl G x N R F) : zNow G x N :=
  ⟨h.sc.1, h.pp.1, fun q hq => (h.pp.2.2 q hq).1, fun t ht => (h.sc.2.1 t ht).2, fun q hq => (h.sc.2.2.2.1 q hq).2⟩
theorem zfind_at {S : Nat → Int32} {q t : Nat} : ∀ n k, t < k + n → k ≤ t → (∀ t2, t2 < k + n → (S t2 = nI q ↔ t2 = t)) → zfind S (nI q) k n = nI t
  | 0, k, h1, h2, _ => absurd h1 (by omega)
  | n + 1, k, h1, h2, h => by
    by_cases e : k = t
    · subst e
      exact zfind_y ((h k (by omega)).mpr rfl) (by omega)
    · rw [zfind_n (fun z => e ((h k (by omega)).mp z)) (by omega)]
      exact zfind_at n (k + 1) (by omega) (by omega) (fun t2 h3 => h t2 (by omega))
theorem zSc.seat {N : Nat} {S Y se si na fr : Nat → Int32} {bt : Int32} (h : zSc N S Y bt se si na fr) {q : Nat} (hq : q < N) : ∃ t, t < 8 ∧ se q = nI t ∧ zfind S (nI q) 0 8 = nI t ∧ ∀ t2, t2 < 8 → (S t2 = nI q ↔ t2 = t) := by
  obtain ⟨t, h1, h2, h3⟩ := h.2.2.1 q hq
  exact ⟨t, h1, h2, zfind_at 8 0 (by omega) (by omega) (fun t2 h4 => h3 t2 (by omega)), h3⟩
theorem zRl.st {G : zG} {x : zX} {N R F : Nat} (h : zRl G x N R F) {q : Nat} (hq : q < N) : zst x q < 8 ∧ zfind (x.1 4) (nI q) 0 8 = nI (zst x q) ∧ x.1 84 q = nI (zst x q) ∧ zse x q = zst x q ∧ ∀ t2, t2 < 8 → (x.1 4 t2 = nI q ↔ t2 = zst x q) := by
  obtain ⟨t, h1, h2, h3, h4⟩ := h.sc.seat hq
  have e : zst x q = t := by
    unfold zst
    rw [h3, nI_clamp (by omega)]
  have e2 : zse x q = t := by
    unfold zse
    rw [h2, nI_clamp (by omega)]
  rw [e, e2]
  exact ⟨h1, h3, h2, rfl, h4⟩
theorem zRl.sit {G : zG} {x : zX} {N R F : Nat} (h : zRl G x N R F) : zSit x N := fun _ hq => ⟨(h.st hq).1, (h.st hq).2.1⟩
theorem zRl.ref {G : zG} {x : zX} {N R F : Nat} (h : zRl G x N R F) : zRef x N := by
  refine ⟨h.sc.1, h.pp.2.1, fun q hq => ?_, fun t ht => ?_, fun q hq => ?_⟩
  · obtain ⟨t, h1, h2, -⟩ := h.sc.2.2.1 q hq
    exact ⟨t, h1, h2⟩
  · have := h.sc.2.1 t ht
    rw [← this.1]
    exact this.2
  · have := h.sc.2.2.2.1 q hq
    rw [← this.1]
    exact this.2
theorem zbit_t : ∀ m : Fin 256, ∀ q : Fin 8, zbit (nI m.val) (nI q.val) ↔ m.val.testBit q.val = true := by decide +kernel
theorem zbit_m {m q : Nat} (hm : m < 256) (hq : q < 8) : zbit (nI m) (nI q) ↔ m.testBit q = true := zbit_t ⟨m, hm⟩ ⟨q, hq⟩
theorem zSc.bit {N : Nat} {S Y se si na fr : Nat → Int32} {bt : Int32} (h : zSc N S Y bt se si na fr) {q : Nat} (hq : q < N) : zbit bt (nI q) ↔ ¬ fr q = 0 := by
  obtain ⟨m, h1, rfl, h2⟩ := h.2.2.2.2.1
  have h8 := h.1
  rw [zbit_m h1 (by omega), h2 q (by omega)]
  exact ⟨fun z => z.2, fun z => ⟨hq, z⟩⟩
theorem zRl.held {G : zG} {x : zX} {N R F : Nat} (h : zRl G x N R F) : ∃ C, zRo x (zrix (x.1 1 6)) C ∧ ((x.1 77 13 < 0 ∧ C = 0 ∧ zrix (x.1 1 6) = 70) ∨ ∃ r, r < R ∧ r < 6 ∧ x.1 1 6 = nI r ∧ x.1 77 13 = nI r ∧ zrix (x.1 1 6) = 28 + 7 * r ∧ x.1 89 r = nI C) := by
  obtain ⟨e, h1⟩ := h.he
  rcases h1 with h1 | ⟨r, h1, h2⟩
  · refine ⟨0, ?_, Or.inl ⟨by rw [← e, h1]; decide, rfl, by rw [h1]; decide⟩⟩
    rw [h1]
    exact ⟨by omega, h.rq.2.2.2.2.1, fun k hk => absurd hk (by omega)⟩
  · have h6 := h.rq.1
    have er : zrix (nI r) = 28 + 7 * r := by
      unfold zrix
      rw [if_neg (nI_pos (by omega)), if_neg (nI_ge (by omega) (by omega)), nI_clamp (by omega)]
    obtain ⟨C, c1, c2, -⟩ := h.rq.2.2.2.1 r h1
    refine ⟨C, ?_, Or.inr ⟨r, h1, by omega, h2, by rw [← e]; exact h2, by rw [h2, er], c2⟩⟩
    rw [h2, er]
    exact c1
