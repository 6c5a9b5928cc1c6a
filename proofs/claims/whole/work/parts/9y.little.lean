/-! WHAT CHANGES A LITTLE: feed, act, front, name, sit -/
abbrev zEx (i : Nat) : Prop := i = 0 ∨ i = 9 ∨ (11 ≤ i ∧ i ≤ 18) ∨ i = 26 ∨ i = 27 ∨ i = 77 ∨ i = 88 ∨ (97 ≤ i ∧ i ≤ 101) ∨ (107 ≤ i ∧ i ≤ 109)
/-- the relation, where only tapes, text, trace and scratch change -/
theorem zRl.fr {G : zG} {x u : zX} {N R L L2 : Nat} (H : zRl G x N R L) (hA : ∀ i, ¬ zEx i → ¬ zFx i → u.1 i = x.1 i) (h0 : ∀ k, ¬ k = 4 → ¬ k = 9 → u.1 0 k = x.1 0 k) (h77 : ∀ k, ¬ k = 14 → ¬ k = 34 → ¬ k = 35 → ¬ k = 45 → u.1 77 k = x.1 77 k) (h2 : ∀ i, i < 20 → u.2.1 i = x.2.1 i) (h3 : u.2.2 = x.2.2) (tc : zTc u) (ta : zTa G u N) (rf : zRf u L2) (rt : zRt u) : zRl G u N R L2 := by
  have hR : ∀ i, (1 ≤ i ∧ i ≤ 8 ∨ 78 ≤ i ∧ i ≤ 87 ∨ 89 ≤ i ∧ i ≤ 96 ∨ 102 ≤ i ∧ i ≤ 106 ∨ 112 ≤ i) → u.1 i = x.1 i := fun i hi => hA i (by unfold zEx; omega) (fun ⟨r, h1, h2⟩ => by omega)
  have hB : ∀ i, 28 ≤ i → i < 77 → ¬ zFx i → u.1 i = x.1 i := fun i h1 h2 h3 => hA i (by unfold zEx; omega) h3
  have k77 : ∀ k, (k < 14 ∨ k = 15 ∨ k = 25 ∨ k = 26 ∨ k = 36 ∨ k = 37 ∨ k = 38 ∨ k = 39) → u.1 77 k = x.1 77 k := fun k hk => h77 k (by omega) (by omega) (by omega) (by omega)
  refine zRl.mk (ok := H.ok) (pp := ?_) (sc := ?_) (mo := ?_) (he := ?_) (kp := ?_) (rq := ?_) (rz := ?_) (tc := tc) (ta := ta) (pt := ?_) (rf := rf) (rt := rt) (b5 := ?_) (b6 := ?_)
  · exact zPp_c (congrFun (hR 1 (by omega)) 3) (k77 0 (by omega)) (by rw [h3]) (fun i hi => hR i (by omega)) (fun i h1 h2 => hR i (by omega)) H.pp
  · rw [hR 4 (by omega), hR 5 (by omega), hR 1 (by omega), hR 84 (by omega), hR 85 (by omega), hR 83 (by omega), hR 86 (by omega)]
    exact H.sc
  · rw [h2 1 (by omega), hR 87 (by omega), k77 1 (by omega)]
    exact H.mo
  · rw [hR 1 (by omega), k77 13 (by omega)]
    exact H.he
  · have := H.kp
    unfold zKp at this ⊢
    rw [h0 2 (by omega) (by omega), k77 36 (by omega), k77 37 (by omega), k77 38 (by omega), k77 39 (by omega), h3, hR 2 (by omega), hR 7 (by omega), hR 8 (by omega), hR 102 (by omega), hR 103 (by omega), hR 104 (by omega), hR 105 (by omega), hR 106 (by omega), h2 2 (by omega)]
    exact this
  · exact zRq_c (h0 7 (by omega) (by omega)) (k77 12 (by omega)) hB (fun i h1 h2 => hR i (by omega)) H.rq
  · exact zRz_c hB (hR 96 (by omega)) (fun k hk => k77 k (by omega)) H.rz
  · have := H.pt
    unfold zPt zPw at this ⊢
    rw [h3]
    exact this
  · rw [hR 105 (by omega)]
    exact H.b5
  · rw [hR 106 (by omega)]
    exact H.b6
theorem zRl.tb {G : zG} {x u : zX} {N R L : Nat} (H : zRl G x N R L) (hA : ∀ i, 1 ≤ i → ¬ i = 9 → ¬ i = 17 → ¬ i = 18 → ¬ i = 26 → ¬ i = 27 → ¬ i = 77 → ¬ i = 88 → ¬ (107 ≤ i ∧ i ≤ 109) → u.1 i = x.1 i) (h0 : u.1 0 9 = x.1 0 9) (h3 : u.2.2 = x.2.2) : zTa G u N :=
  zTa_c H.now (fun i hi => hA i (by omega) (by omega) (by omega) (by omega) (by omega) (by omega) (by omega) (by omega) (by omega)) (fun i h1 h2 _ => hA i (by omega) (by omega) (by omega) (by omega) (by omega) (by omega) (by omega) (by omega) (by omega)) (hA 5 (by omega) (by omega) (by omega) (by omega) (by omega) (by omega) (by omega) (by omega) (by omega)) (by rw [h3]) (fun i h1 h2 => hA i (by omega) (by omega) (by omega) (by omega) (by omega) (by omega) (by omega) (by omega) (by omega)) h0 (congrFun (hA 1 (by omega) (by omega) (by omega) (by omega) (by omega) (by omega) (by omega) (by omega) (by omega)) 6) H.ta
theorem zRl.ef {G : zG} {x u : zX} {N R L L2 : Nat} (H : zRl G x N R L) (e : zEf x u) (rf : zRf u L2) : zRl G u N R L2 := by
  obtain ⟨e1, e2, e3, e4⟩ := e
  refine H.fr (fun i hi _ => e1 i (by omega) (by omega) (by omega) (by omega)) (fun k h1 _ => e2 k h1) (fun k h1 _ _ _ => e3 k h1) (fun i _ => by rw [e4]) (by rw [e4]) ?_ (H.tb (fun i h1 h2 h3 h4 h5 h6 h7 h8 h9 => e1 i (by omega) (by omega) (by omega) (by omega)) (e2 9 (by omega)) (by rw [e4])) rf ?_
  · have := H.tc
    unfold zTc at this ⊢
    rw [e1 17 (by omega) (by omega) (by omega) (by omega), e1 18 (by omega) (by omega) (by omega) (by omega), e1 107 (by omega) (by omega) (by omega) (by omega), e3 45 (by omega)]
    exact this
  · have := H.rt
    unfold zRt zTp zTpR zsz zszR at this ⊢
    rw [e4, e1 26 (by omega) (by omega) (by omega) (by omega), e1 27 (by omega) (by omega) (by omega) (by omega), e1 108 (by omega) (by omega) (by omega) (by omega), e1 109 (by omega) (by omega) (by omega) (by omega)]
    exact this
theorem zRl.et {G : zG} {x u : zX} {N R L : Nat} (H : zRl G x N R L) (e : zEt x u) (rt : zRt u) : zRl G u N R L := by
  obtain ⟨e1, e2, e4⟩ := e
  refine H.fr (fun i hi _ => e1 i (by omega) (by omega) (by omega) (by omega)) (fun k _ _ => by rw [e1 0 (by omega) (by omega) (by omega) (by omega)]) (fun k _ _ _ _ => by rw [e1 77 (by omega) (by omega) (by omega) (by omega)]) e2 e4 ?_ (H.tb (fun i h1 h2 h3 h4 h5 h6 h7 h8 h9 => e1 i (by omega) (by omega) (by omega) (by omega)) (by rw [e1 0 (by omega) (by omega) (by omega) (by omega)]) e4) ?_ rt
  · have := H.tc
    unfold zTc at this ⊢
    rw [e1 17 (by omega) (by omega) (by omega) (by omega), e1 18 (by omega) (by omega) (by omega) (by omega), e1 107 (by omega) (by omega) (by omega) (by omega), e1 77 (by omega) (by omega) (by omega) (by omega)]
    exact this
  · have := H.rf
    unfold zRf at this ⊢
    rw [e1 0 (by omega) (by omega) (by omega) (by omega), e1 77 (by omega) (by omega) (by omega) (by omega), e1 9 (by omega) (by omega) (by omega) (by omega), e1 88 (by omega) (by omega) (by omega) (by omega)]
    exact this
/-- bodies begun, in the row -/
def zrwl : List Int32 → Nat → (Nat → Int32) → Nat → Int32
  | [], _, f => f
  | b :: l, n, f => zrwl l (n + 1) (if n < 20 then upd f n b else f)
theorem zrwl_e {f g : Nat → Int32} : ∀ (l : List Int32) (n : Nat) {f g : Nat → Int32}, (∀ k, k < 20 → k < n → f k = g k) → ∀ k, k < 20 → k < n + l.length → zrwl l n f k = zrwl l n g k
  | [], n, f, g, h, k, h1, h2 => h k h1 h2
  | b :: l, n, f, g, h, k, h1, h2 => by
    refine zrwl_e (f := f) (g := g) l (n + 1) (fun j j1 j2 => ?_) k h1 (by simp only [List.length_cons] at h2; omega)
    by_cases c : n < 20
    · rw [if_pos c, if_pos c]
      show (if j = n then b else f j) = (if j = n then b else g j)
      by_cases e : j = n
      · rw [if_pos e, if_pos e]
      · rw [if_neg e, if_neg e]
        exact h j j1 (by omega)
    · rw [if_neg c, if_neg c]
      exact h j j1 (by omega)
theorem zbgs_e : ∀ (l : List Int32) (y : zX) (n : Nat), n + l.length < 1000 → y.1 17 1 = nI n → (zbgs l y).1 17 1 = nI (n + l.length) ∧ (zbgs l y).1 18 = zrwl l n (y.1 18) ∧ (∀ i, ¬ i = 17 → ¬ i = 18 → (zbgs l y).1 i = y.1 i) ∧ (zbgs l y).2 = y.2
  | [], y, n, _, h => ⟨h, rfl, fun _ _ _ => rfl, rfl⟩
  | b :: l, y, n, hl, h => by
    simp only [List.length_cons] at hl
    have hb : zbgs (b :: l) y = zbgs l (zbeg b y) := rfl
    have hz : zbeg b y = zsI (if n < 20 then zsI y 18 n b else y) 17 1 (nI (n + 1)) := by
      unfold zbeg
      rw [h, nI_clamp (by omega), nI_add]
      by_cases c : n < 20
      · rw [if_pos c, if_pos ⟨nI_pos (by omega), nI_ge c (by omega)⟩]
      · rw [if_neg c, if_neg (fun z => z.2 (z_nlt (fun z2 => c ((zqL (by omega) (by omega)).mp z2))))]
    obtain ⟨a1, a2, a3, a4⟩ := zbgs_e l (zbeg b y) (n + 1) (by omega) (by rw [hz]; rfl)
    rw [hb]
    refine ⟨?_, ?_, fun i i1 i2 => ?_, ?_⟩
    · rw [a1, List.length_cons]
      congr 1
      omega
    · rw [a2, hz]
      by_cases c : n < 20
      · rw [if_pos c]
        show zrwl l (n + 1) (upd (y.1 18) n b) = zrwl l (n + 1) (if n < 20 then upd (y.1 18) n b else y.1 18)
        rw [if_pos c]
      · rw [if_neg c]
        show zrwl l (n + 1) (y.1 18) = zrwl l (n + 1) (if n < 20 then upd (y.1 18) n b else y.1 18)
        rw [if_neg c]
    · rw [a3 i i1 i2, hz, zsI_n i1]
      by_cases c : n < 20
      · rw [if_pos c, zsI_n i2]
      · rw [if_neg c]
    · rw [a4, hz]
      by_cases c : n < 20
      · rw [if_pos c]
        rfl
      · rw [if_neg c]
        rfl
theorem zbgR_e : ∀ (l : List Int32) (y : zX) (n : Nat), n + l.length < 1000 → y.1 77 45 = nI n → (zbgR l y).1 77 45 = nI (n + l.length) ∧ (zbgR l y).1 107 = zrwl l n (y.1 107) ∧ (∀ i, ¬ i = 77 → ¬ i = 107 → (zbgR l y).1 i = y.1 i) ∧ (∀ k, ¬ k = 45 → (zbgR l y).1 77 k = y.1 77 k) ∧ (zbgR l y).2 = y.2
  | [], y, n, _, h => ⟨h, rfl, fun _ _ _ => rfl, fun _ _ => rfl, rfl⟩
  | b :: l, y, n, hl, h => by
    simp only [List.length_cons] at hl
    have hb : zbgR (b :: l) y = zbgR l (zbeR b y) := rfl
    have hz : zbeR b y = zsI (if n < 20 then zsI y 107 n b else y) 77 45 (nI (n + 1)) := by
      unfold zbeR
      rw [h, nI_clamp (by omega), nI_add]
      by_cases c : n < 20
      · rw [if_pos c, if_pos ((zqL (by omega) (by omega)).mpr c)]
      · rw [if_neg c, if_neg (fun z => c ((zqL (by omega) (by omega)).mp z))]
    obtain ⟨a1, a2, a3, a5, a4⟩ := zbgR_e l (zbeR b y) (n + 1) (by omega) (by rw [hz]; rfl)
    rw [hb]
    refine ⟨?_, ?_, fun i i1 i2 => ?_, fun k hk => ?_, ?_⟩
    · rw [a1, List.length_cons]
      congr 1
      omega
    · rw [a2, hz]
      by_cases c : n < 20
      · rw [if_pos c]
        show zrwl l (n + 1) (upd (y.1 107) n b) = zrwl l (n + 1) (if n < 20 then upd (y.1 107) n b else y.1 107)
        rw [if_pos c]
      · rw [if_neg c]
        show zrwl l (n + 1) (y.1 107) = zrwl l (n + 1) (if n < 20 then upd (y.1 107) n b else y.1 107)
        rw [if_neg c]
    · rw [a3 i i1 i2, hz, zsI_n i1]
      by_cases c : n < 20
      · rw [if_pos c, zsI_n i2]
      · rw [if_neg c]
    · rw [a5 k hk, hz, zsI_u]
      show (if k = 45 then _ else _) = _
      rw [if_neg hk]
      by_cases c : n < 20
      · rw [if_pos c]
        rfl
      · rw [if_neg c]
    · rw [a4, hz]
      by_cases c : n < 20
      · rw [if_pos c]
        rfl
      · rw [if_neg c]
        rfl
theorem zRl.run {G : zG} {x : zX} {N R L : Nat} (H : zRl G x N R L) (l : List Int32) (hl : l.length < 900) : zRl G (zbgR l (zsI (zbgs l (zsI x 17 1 (nI 0))) 77 45 (nI 0))) N R L := by
  obtain ⟨a1, a2, a3, a4⟩ := zbgs_e l (zsI x 17 1 (nI 0)) 0 (by omega) rfl
  obtain ⟨b1, b2, b3, b5, b4⟩ := zbgR_e l (zsI (zbgs l (zsI x 17 1 (nI 0))) 77 45 (nI 0)) 0 (by omega) rfl
  generalize zbgs l (zsI x 17 1 (nI 0)) = y at *
  generalize zbgR l (zsI y 77 45 (nI 0)) = u at *
  have e : ∀ i, ¬ i = 17 → ¬ i = 18 → ¬ i = 77 → ¬ i = 107 → u.1 i = x.1 i := fun i h1 h2 h3 h4 => by rw [b3 i h3 h4, zsI_n h3, a3 i h1 h2, zsI_n h1]
  have e7 : ∀ k, ¬ k = 45 → u.1 77 k = x.1 77 k := fun k hk => by
    rw [b5 k hk, zsI_u]
    show (if k = 45 then _ else y.1 77 k) = _
    rw [if_neg hk, a3 77 (by omega) (by omega)]
    rfl
  have e2 : u.2 = x.2 := b4.trans a4
  refine H.fr (fun i hi _ => e i (by omega) (by omega) (by omega) (by omega)) (fun k _ _ => by rw [e 0 (by omega) (by omega) (by omega) (by omega)]) (fun k _ _ _ h4 => e7 k h4) (fun i _ => by rw [e2]) (by rw [e2]) ?_ (H.tb (fun i h1 h2 h3 h4 h5 h6 h7 h8 h9 => e i (by omega) (by omega) (by omega) (by omega)) (by rw [e 0 (by omega) (by omega) (by omega) (by omega)]) (by rw [e2])) ?_ ?_
  · refine ⟨0 + l.length, by omega, ?_, b1, fun k h1 h2 => ?_⟩
    · rw [b3 17 (by omega) (by omega)]
      exact a1
    · rw [b2, b3 18 (by omega) (by omega)]
      show y.1 18 k = zrwl l 0 (y.1 107) k
      rw [a2]
      exact zrwl_e (f := y.1 107) (g := y.1 107) l 0 (fun k _ h => absurd h (by omega)) k h1 h2
  · have := H.rf
    unfold zRf at this ⊢
    rw [e 0 (by omega) (by omega) (by omega) (by omega), e7 14 (by omega), e 9 (by omega) (by omega) (by omega) (by omega), e 88 (by omega) (by omega) (by omega) (by omega)]
    exact this
  · have := H.rt
    unfold zRt zTp zTpR zsz zszR at this ⊢
    rw [e2, e 26 (by omega) (by omega) (by omega) (by omega), e 27 (by omega) (by omega) (by omega) (by omega), e 108 (by omega) (by omega) (by omega) (by omega), e 109 (by omega) (by omega) (by omega) (by omega)]
    exact this
theorem zact_t : ∀ i : Fin 7, (zsb (zkl i.val) = zsR (zkn (zkl i.val)) ∧ ztb (zkl i.val) = ztR (zkn (zkl i.val)) ∧ zeb (zkl i.val) = zeR (zkn (zkl i.val))) ∧ (zsb (zkl i.val)).length < 900 ∧ (ztb (zkl i.val)).length < 900 ∧ (zeb (zkl i.val)).length < 900 := by decide +kernel
theorem zact_v : ∀ i : Fin 7, ∀ n v w : Int32, zsv (zkl i.val) n v w = zvR (zkn (zkl i.val)) n v w ∧ ztv (zkl i.val) n v w = zuR (zkn (zkl i.val)) n v w ∧ zev (zkl i.val) n v w = zwR (zkn (zkl i.val)) n v w := by
  intro i n v w
  match i with
  | 0 => exact ⟨rfl, rfl, rfl⟩
  | 1 => exact ⟨rfl, rfl, rfl⟩
  | 2 => exact ⟨rfl, rfl, rfl⟩
  | 3 => exact ⟨rfl, rfl, rfl⟩
  | 4 => exact ⟨rfl, rfl, rfl⟩
  | 5 => exact ⟨rfl, rfl, rfl⟩
  | 6 => exact ⟨rfl, rfl, rfl⟩
theorem z02 {a : Int32} : (a = nI 0 ∨ a = nI 1 ∨ a = nI 2) ↔ (¬ a < nI 0 ∧ ¬ nI 2 < a) := by
  constructor
  · intro h
    rcases h with rfl | rfl | rfl <;> decide
  · intro h
    obtain ⟨k, hk, rfl⟩ := z_nat h.1
    have h2 := h.2
    rw [zqL (by decide) hk] at h2
    have : k = 0 ∨ k = 1 ∨ k = 2 := by omega
    rcases this with rfl | rfl | rfl
    · exact Or.inl rfl
    · exact Or.inr (Or.inl rfl)
    · exact Or.inr (Or.inr rfl)
theorem e_act {G : zG} {x u1 u2 : zX} {N R L : Nat} {q a w : Int32} {r1 r2 : Int32} (H : zRl G x N R L)
    (h1 : (¬ zin N q ∧ (zsI x 17 1 (nI 0)) = u1 ∧ nI 0 = r1) ∨ (∃ kb, kb < N ∧ q = nI kb ∧ ((a = nI 0 ∧ zbgs (zsb (zk G (zob x kb))) (zsI x 17 1 (nI 0)) = u1 ∧ zsv (zk G (zob x kb)) (x.1 (zob x kb) 0) (x.1 (zob x kb) 1) w = r1) ∨ (a = nI 1 ∧ zbgs (ztb (zk G (zob x kb))) (zsI x 17 1 (nI 0)) = u1 ∧ ztv (zk G (zob x kb)) (x.1 (zob x kb) 0) (x.1 (zob x kb) 1) w = r1) ∨ (a = nI 2 ∧ zbgs (zeb (zk G (zob x kb))) (zsI x 17 1 (nI 0)) = u1 ∧ zev (zk G (zob x kb)) (x.1 (zob x kb) 0) (x.1 (zob x kb) 1) w = r1) ∨ ((¬ a = nI 0 ∧ ¬ a = nI 1 ∧ ¬ a = nI 2) ∧ (zsI x 17 1 (nI 0)) = u1 ∧ nI 0 = r1))))
    (h2 : (¬ (zin N q ∧ ¬ a < nI 0 ∧ ¬ nI 2 < a) ∧ (zsI u1 77 45 (nI 0)) = u2 ∧ nI 0 = r2) ∨ ((zin N q ∧ ¬ a < nI 0 ∧ ¬ nI 2 < a) ∧ ∃ kb, kb < N ∧ q = nI kb ∧ ((a = 0 ∧ zbgR (zsR (u1.1 78 kb)) (zsI u1 77 45 (nI 0)) = u2 ∧ zvR (u1.1 78 kb) (nI kb) (u1.1 79 kb) w = r2) ∨ (¬ a = 0 ∧ a = nI 1 ∧ zbgR (ztR (u1.1 78 kb)) (zsI u1 77 45 (nI 0)) = u2 ∧ zuR (u1.1 78 kb) (nI kb) (u1.1 79 kb) w = r2) ∨ (¬ a = 0 ∧ ¬ a = nI 1 ∧ zbgR (zeR (u1.1 78 kb)) (zsI u1 77 45 (nI 0)) = u2 ∧ zwR (u1.1 78 kb) (nI kb) (u1.1 79 kb) w = r2)))) : r1 = r2 ∧ ∃ N R L, zRl G u2 N R L := by
  have h8 := H.sc.1
  rcases h1 with ⟨a1, rfl, rfl⟩ | ⟨k, hk, rfl, h1⟩
  · rcases h2 with ⟨a2, rfl, rfl⟩ | ⟨a2, -⟩
    · exact ⟨rfl, N, R, L, H.run [] (by decide)⟩
    · exact absurd a2.1 a1
  · obtain ⟨i, hi⟩ := H.kd hk
    have p0 := (H.pp.2.2 k hk).1.2.2.2
    have p1 := (H.pp.2.2 k hk).2.1
    have p2 := (H.pp.2.2 k hk).2.2.1
    obtain ⟨⟨t1, t2, t3⟩, t4, t5, t6⟩ := zact_t i
    rw [hi] at p1
    rw [p0, p2, hi] at h1
    have hin : zin N (nI k) := zinI hk (by omega)
    have key : ∀ (l : List Int32) (v : Int32), l.length < 900 → zbgs l (zsI x 17 1 (nI 0)) = u1 → (zbgs l (zsI x 17 1 (nI 0))).1 78 k = x.1 78 k ∧ (zbgs l (zsI x 17 1 (nI 0))).1 79 k = x.1 79 k := fun l v hl _ => by
      obtain ⟨-, -, a3, -⟩ := zbgs_e l (zsI x 17 1 (nI 0)) 0 (by omega) rfl
      rw [a3 78 (by omega) (by omega), a3 79 (by omega) (by omega)]
      exact ⟨rfl, rfl⟩
    rcases h1 with ⟨e, hu, rfl⟩ | ⟨e, hu, rfl⟩ | ⟨e, hu, rfl⟩ | ⟨e, rfl, rfl⟩
    · obtain ⟨k1, k2⟩ := key _ 0 t4 hu
      rcases h2 with ⟨a2, -⟩ | ⟨a2, k2', hk2, e2, h2⟩
      · exact absurd ⟨hin, z02.mp (Or.inl e)⟩ a2
      · obtain rfl := (zqE (by omega) (by omega)).mp e2
        rcases h2 with ⟨-, hu2, rfl⟩ | ⟨c, -⟩ | ⟨c, -⟩
        · rw [← hu, k1, ← p1, ← t1] at hu2
          rw [← hu, k1, k2, ← p1]
          refine ⟨(zact_v i _ _ _).1, N, R, L, ?_⟩
          rw [← hu2]
          exact H.run _ t4
        · exact absurd e c
        · exact absurd e c
    · obtain ⟨k1, k2⟩ := key _ 0 t5 hu
      rcases h2 with ⟨a2, -⟩ | ⟨a2, k2', hk2, e2, h2⟩
      · exact absurd ⟨hin, z02.mp (Or.inr (Or.inl e))⟩ a2
      · obtain rfl := (zqE (by omega) (by omega)).mp e2
        rcases h2 with ⟨c, -⟩ | ⟨-, -, hu2, rfl⟩ | ⟨-, c, -⟩
        · rw [e] at c
          exact absurd c (by decide)
        · rw [← hu, k1, ← p1, ← t2] at hu2
          rw [← hu, k1, k2, ← p1]
          refine ⟨(zact_v i _ _ _).2.1, N, R, L, ?_⟩
          rw [← hu2]
          exact H.run _ t5
        · exact absurd e c
    · obtain ⟨k1, k2⟩ := key _ 0 t6 hu
      rcases h2 with ⟨a2, -⟩ | ⟨a2, k2', hk2, e2, h2⟩
      · exact absurd ⟨hin, z02.mp (Or.inr (Or.inr e))⟩ a2
      · obtain rfl := (zqE (by omega) (by omega)).mp e2
        rcases h2 with ⟨c, -⟩ | ⟨-, c, -⟩ | ⟨-, -, hu2, rfl⟩
        · rw [e] at c
          exact absurd c (by decide)
        · rw [e] at c
          exact absurd c (by decide)
        · rw [← hu, k1, ← p1, ← t3] at hu2
          rw [← hu, k1, k2, ← p1]
          refine ⟨(zact_v i _ _ _).2.2, N, R, L, ?_⟩
          rw [← hu2]
          exact H.run _ t6
    · rcases h2 with ⟨a2, rfl, rfl⟩ | ⟨a2, -⟩
      · exact ⟨rfl, N, R, L, H.run [] (by decide)⟩
      · exact absurd (z02.mpr a2.2) (fun z => z.elim e.1 (fun z => z.elim e.2.1 e.2.2))
