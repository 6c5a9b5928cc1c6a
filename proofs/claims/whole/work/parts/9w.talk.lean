/-! SUMS, MASKS, TALK: class and reference answer alike -/
theorem z_b1 (v : Int32) : v &&& nI 1 = 0 ∨ v &&& nI 1 = nI 1 := by
  have hi : ∀ a b : Int32, a.toUInt32.toNat = b.toUInt32.toNat → a = b := fun a b h => by
    have h2 := UInt32.toNat_inj.mp h
    cases a
    cases b
    cases h2
    rfl
  have e : (v &&& nI 1).toUInt32.toNat = v.toUInt32.toNat % 2 := by
    rw [show (v &&& nI 1).toUInt32 = v.toUInt32 &&& 1 from rfl, UInt32.toNat_and]
    exact Nat.and_one_is_mod _
  have h2 : v.toUInt32.toNat % 2 = 0 ∨ v.toUInt32.toNat % 2 = 1 := by omega
  rcases h2 with h2 | h2
  · exact Or.inl (hi _ _ (by rw [e, h2]; rfl))
  · exact Or.inr (hi _ _ (by rw [e, h2]; rfl))
theorem zbit_h {b : Int32} {q : Nat} (hq : q < 8) : zbit b (nI q) ↔ zhas b (nI q) := by
  have h := z_b1 (b >>> (nI q &&& 31))
  unfold zbit zhas
  constructor
  · intro z
    exact h.resolve_left z.2.2
  · intro z
    exact ⟨nI_pos (by omega), nI_ge hq (by omega), by rw [z]; decide⟩
theorem zbit_n {b : Int32} : ¬ zbit b (-1) := fun z => z.1 (by decide)
theorem zsum_0 : ∀ n : Nat, zsum (fun _ => 0) n = 0
  | 0 => rfl
  | n + 1 => by rw [zsum, zsum_0 n]; rfl
theorem zsum_a (f g : Nat → Int32) : ∀ n : Nat, zsum (fun k => f k + g k) n = zsum f n + zsum g n
  | 0 => rfl
  | n + 1 => by
    rw [zsum, zsum, zsum, zsum_a f g n, Int32.add_assoc, Int32.add_assoc, ← Int32.add_assoc (zsum g n), Int32.add_comm (zsum g n) (f n), Int32.add_assoc]
theorem zsum_w (f : Nat → Nat → Int32) (m : Nat) : ∀ n : Nat, zsum (fun i => zsum (fun j => f i j) m) n = zsum (fun j => zsum (fun i => f i j) n) m
  | 0 => (zsum_0 m).symm
  | n + 1 => by
    rw [zsum, zsum_w f m n, ← zsum_a]
    rfl
theorem zsum_1 {p : Nat} {c : Int32} : ∀ {n : Nat}, p < n → zsum (fun k => if k = p then c else 0) n = c
  | 0, h => absurd h (by omega)
  | n + 1, h => by
    rw [zsum]
    by_cases e : n = p
    · subst e
      rw [zsum_c (g := fun _ => 0) (fun k hk => if_neg (by omega)), zsum_0, if_pos rfl, Int32.zero_add]
    · rw [zsum_1 (by omega), if_neg e, Int32.add_zero]
/-- what is summed seat by seat, and what pupil by pupil -/
theorem zsum_seat {S : Nat → Int32} {N : Nat} {st : Nat → Nat} {f g : Nat → Int32} (hN : N ≤ 8) (hS : ∀ t, t < 8 → S t = -1 ∨ ∃ q, q < N ∧ S t = nI q) (hst : ∀ q, q < N → st q < 8 ∧ ∀ t, t < 8 → (S t = nI q ↔ t = st q)) (hf : ∀ t, t < 8 → S t = -1 → f t = 0) (hg : ∀ q, q < N → f (st q) = g q) : zsum f 8 = zsum g N := by
  have e1 : zsum f 8 = zsum (fun t => zsum (fun q => if S t = nI q then g q else 0) N) 8 := by
    refine zsum_c (fun t ht => ?_)
    rcases hS t ht with h | ⟨p, hp, h⟩
    · rw [hf t ht h]
      refine ((zsum_c (g := fun _ => 0) (fun q hq => if_neg ?_)).trans (zsum_0 N)).symm
      rw [h]
      intro z
      exact absurd (show nI q < 0 from by rw [← z]; decide) (nI_pos (by omega))
    · have et := ((hst p hp).2 t ht).mp h
      rw [et, hg p hp, ← et, h]
      refine ((zsum_c (g := fun q => if q = p then g p else 0) (fun q hq => ?_)).trans (zsum_1 hp)).symm
      by_cases e : q = p
      · subst e
        rw [if_pos rfl, if_pos rfl]
      · rw [if_neg (fun z => e ((zqE (by omega) (by omega)).mp z).symm), if_neg e]
  rw [e1, zsum_w]
  refine zsum_c (fun q hq => ?_)
  obtain ⟨h8, h⟩ := hst q hq
  refine (zsum_c (g := fun t => if t = st q then g q else 0) (fun t ht => ?_)).trans (zsum_1 h8)
  by_cases e : t = st q
  · rw [if_pos ((h t ht).mpr e), if_pos e]
  · rw [if_neg (fun z => e ((h t ht).mp z)), if_neg e]
theorem znI_or (a b : Nat) : nI a ||| nI b = nI (a ||| b) := by
  have hi : ∀ a b : Int32, a.toBitVec = b.toBitVec → a = b := fun a b h => Int32.toBitVec_inj.mp h
  apply hi
  show BitVec.ofNat 32 a ||| BitVec.ofNat 32 b = BitVec.ofNat 32 (a ||| b)
  exact BitVec.ofNat_or.symm
theorem zors_m {f : Nat → Int32} {P : Nat → Prop} {p : Nat → Nat} : ∀ {n : Nat}, (∀ t, t < n → (P t ∧ p t < 8 ∧ f t = nI 1 <<< (nI (p t) &&& 31)) ∨ (¬ P t ∧ f t = 0)) → ∃ m, m < 256 ∧ zors f n = nI m ∧ ∀ k, (m.testBit k = true ↔ ∃ t, t < n ∧ P t ∧ p t = k)
  | 0, _ => ⟨0, by decide, rfl, fun k => by
    rw [Nat.zero_testBit]
    constructor
    · intro z
      exact absurd z (by decide)
    · rintro ⟨t, ht, -⟩
      omega⟩
  | n + 1, h => by
    obtain ⟨m, h1, h2, h3⟩ := zors_m (n := n) (fun t ht => h t (by omega))
    rcases h n (by omega) with ⟨hp, h8, hf⟩ | ⟨hp, hf⟩
    · refine ⟨m ||| 2 ^ (p n), Nat.or_lt_two_pow (n := 8) h1 (Nat.pow_lt_pow_right (by decide) h8), ?_, fun k => ?_⟩
      · rw [zors, h2, hf, zp2 (by omega), znI_or]
      · rw [Nat.testBit_or, Nat.testBit_two_pow, Bool.or_eq_true, h3, decide_eq_true_eq]
        constructor
        · rintro (⟨t, ht, z⟩ | z)
          · exact ⟨t, by omega, z⟩
          · exact ⟨n, by omega, hp, z⟩
        · rintro ⟨t, ht, z, z2⟩
          by_cases e : t = n
          · subst e
            exact Or.inr z2
          · exact Or.inl ⟨t, by omega, z, z2⟩
    · refine ⟨m, h1, ?_, fun k => ?_⟩
      · rw [zors, h2, hf, Int32.or_zero]
      · rw [h3]
        constructor
        · rintro ⟨t, ht, z⟩
          exact ⟨t, by omega, z⟩
        · rintro ⟨t, ht, z⟩
          by_cases e : t = n
          · subst e
            exact absurd z.1 hp
          · exact ⟨t, by omega, z⟩
theorem zmsk_e {a b : Nat} (h : ∀ k, a.testBit k = true ↔ b.testBit k = true) : nI a = nI b := by
  have e : a = b := Nat.eq_of_testBit_eq (fun k => by
    have := h k
    cases c : a.testBit k <;> cases d : b.testBit k <;> simp_all)
  rw [e]
theorem zgo_t : ∀ i : Fin 7, (if zgo (zkl i.val) then nI 1 else nI 0) = (if zkn (zkl i.val) = nI 2 ∨ zkn (zkl i.val) = nI 5 then nI 1 else nI 0) := by decide +kernel
section
variable {G : zG} {x : zX} {N R L : Nat}
theorem zRl.go (H : zRl G x N R L) {q : Nat} (hq : q < N) : zgo (zk G (zob x q)) ↔ (x.1 78 q = nI 2 ∨ x.1 78 q = nI 5) := by
  obtain ⟨i, hi⟩ := H.kd hq
  have h := zb_e.mp (zgo_t i)
  rw [← hi, (H.pp.2.2 q hq).2.1] at h
  exact h
theorem zRl.nb (H : zRl G x N R L) {b : Int32} {q p : Nat} (hq : q < N) (hp : p < N) : znb x b (zst x q) (zst x p) ↔ zrb x b q p := by
  have h8 := H.sc.1
  obtain ⟨q1, q2, q3, q4, q5⟩ := H.st hq
  obtain ⟨p1, p2, p3, p4, p5⟩ := H.st hp
  have eS : x.1 4 (zst x p) = nI p := (p5 _ p1).mpr rfl
  have en : (zst x p = zst x q) ↔ p = q := by
    constructor
    · intro z
      have := (q5 _ p1).mpr z
      rw [eS] at this
      exact (zqE (by omega) (by omega)).mp this
    · intro z
      rw [z]
  unfold znb zrb
  rw [eS, zbit_h (by omega), en, q4, p4]
theorem zRl.tk (H : zRl G x N R L) {b hu : Int32} {q : Nat} (hq : q < N) : ztk G x b hu (zst x q) q ↔ zrk x b hu N q := by
  have h8 := H.sc.1
  obtain ⟨q1, q2, q3, q4, q5⟩ := H.st hq
  have hex : (∃ o, o < 8 ∧ znb x b (zst x q) o) ↔ ∃ o, o < N ∧ zrb x b q o := by
    constructor
    · rintro ⟨o, ho, z⟩
      obtain ⟨p, hp, e⟩ := zsitN H.now ho z.2.1
      have eo := ((H.st hp).2.2.2.2 o ho).mp e
      rw [eo] at z
      exact ⟨p, hp, (H.nb hq hp).mp z⟩
    · rintro ⟨p, hp, z⟩
      exact ⟨zst x p, (H.st hp).1, (H.nb hq hp).mpr z⟩
  have hs : znoise x b (zst x q) 8 = zrn x b q N := by
    refine zsum_seat h8 (fun t ht => (H.sc.2.1 t ht).2) (st := zst x) (fun p hp => ⟨(H.st hp).1, (H.st hp).2.2.2.2⟩) (fun t ht hS => ?_) (fun p hp => ?_)
    · refine if_neg (fun z => ?_)
      have := z.2.1
      rw [hS] at this
      exact zbit_n this
    · have eS : x.1 4 (zst x p) = nI p := ((H.st hp).2.2.2.2 _ (H.st hp).1).mpr rfl
      show (if znb x b (zst x q) (zst x p) then x.1 (zob x (x.1 4 (zst x p)).toNatClampNeg) 2 else 0) = (if zrb x b q p then x.1 80 p else 0)
      by_cases c : zrb x b q p
      · rw [if_pos c, if_pos ((H.nb hq hp).mpr c), eS, nI_clamp (by omega), (H.pp.2.2 p hp).2.2.2.1]
      · rw [if_neg c, if_neg (fun z => c ((H.nb hq hp).mp z))]
  unfold ztk zrk
  rw [hex, hs, H.go hq, zbit_h (by omega), (H.pp.2.2 q hq).2.2.2.1]
  constructor
  · rintro (⟨z1, z2⟩ | ⟨z1, z2⟩)
    · exact Or.inr ⟨z2, z1⟩
    · exact Or.inl ⟨z1, z_le z2⟩
  · rintro (⟨z1, z2⟩ | ⟨z1, z2⟩)
    · exact Or.inr ⟨z1, z_nle2 z2⟩
    · exact Or.inl ⟨z2, z1⟩
/-- who talks a minute later -/
theorem zRl.later (H : zRl G x N R L) (b hu w : Int32) : zlater G x b hu w = zbehind x b hu w N := by
  have h8 := H.sc.1
  obtain ⟨m1, a1, a2, a3⟩ := zors_m (f := fun t => if ¬ x.1 4 t = -1 ∧ ¬ x.1 4 t = w ∧ ztk G x b hu t (x.1 4 t).toNatClampNeg then nI 1 <<< (x.1 4 t &&& 31) else 0) (P := fun t => ¬ x.1 4 t = -1 ∧ ¬ x.1 4 t = w ∧ ztk G x b hu t (x.1 4 t).toNatClampNeg) (p := fun t => (x.1 4 t).toNatClampNeg) (n := 8) (fun t ht => by
    by_cases c : ¬ x.1 4 t = -1 ∧ ¬ x.1 4 t = w ∧ ztk G x b hu t (x.1 4 t).toNatClampNeg
    · obtain ⟨p, hp, e⟩ := zsitP H.now ht c.1
      refine Or.inl ⟨c, ?_, ?_⟩
      · rw [e, nI_clamp (by omega)]
        omega
      · rw [if_pos c, e, nI_clamp (by omega)]
    · exact Or.inr ⟨c, if_neg c⟩)
  obtain ⟨m2, b1, b2, b3⟩ := zors_m (f := fun q => if ¬ nI q = w ∧ zrk x b hu N q then nI 1 <<< (nI q &&& 31) else 0) (P := fun q => ¬ nI q = w ∧ zrk x b hu N q) (p := fun q => q) (n := N) (fun q hq => by
    by_cases c : ¬ nI q = w ∧ zrk x b hu N q
    · exact Or.inl ⟨c, by omega, if_pos c⟩
    · exact Or.inr ⟨c, if_neg c⟩)
  unfold zlater zbehind
  rw [a2, b2]
  refine zmsk_e (fun k => ?_)
  rw [a3, b3]
  constructor
  · rintro ⟨t, ht, ⟨c1, c2, c3⟩, e⟩
    obtain ⟨p, hp, e2⟩ := zsitP H.now ht c1
    rw [e2, nI_clamp (by omega)] at c3 e
    rw [e2] at c2
    rw [((H.st hp).2.2.2.2 t ht).mp e2] at c3
    exact ⟨p, hp, ⟨c2, (H.tk hp).mp c3⟩, e⟩
  · rintro ⟨q, hq, ⟨c1, c2⟩, e⟩
    have eS : x.1 4 (zst x q) = nI q := ((H.st hq).2.2.2.2 _ (H.st hq).1).mpr rfl
    refine ⟨zst x q, (H.st hq).1, ⟨?_, ?_, ?_⟩, ?_⟩
    · rw [eS]
      intro z
      exact absurd (show nI q < 0 from by rw [z]; decide) (nI_pos (by omega))
    · rw [eS]
      exact c1
    · rw [eS, nI_clamp (by omega)]
      exact (H.tk hq).mpr c2
    · rw [eS, nI_clamp (by omega)]
      exact e
theorem zRl.noi (H : zRl G x N R L) (y : Int32) : zsum (fun qq => if zbit y (nI qq) then x.1 (zob x qq) 2 else 0) N = znoiseR x y N := by
  have h8 := H.sc.1
  refine zsum_c (fun q hq => ?_)
  rw [(H.pp.2.2 q hq).2.2.2.1]
  by_cases c : zhas y (nI q)
  · rw [if_pos c, if_pos ((zbit_h (by omega)).mpr c)]
  · rw [if_neg c, if_neg (fun z => c ((zbit_h (by omega)).mp z))]
end
/-- the room that is held: where both have it -/
def zHl (x : zX) (b F C : Nat) : Prop := zrix (x.1 1 6) = b ∧ zRm b ∧ zRo x b C ∧ zCls x F C ∧ x.1 b 6 = zhush (x.1 90) (x.1 91) F C ∧ ∀ k, k < C → x.1 (b + 1) k = x.1 90 (F + k) ∧ (¬ x.1 90 (F + k) = nI 2 → x.1 (b + 2) k = x.1 91 (F + k) ∧ ∃ j, j < 100 ∧ x.1 91 (F + k) = nI j) ∧ (x.1 90 (F + k) = nI 2 → x.1 (b + 2) k = nI 1) ∧ (¬ x.1 90 (F + k) = nI 3 → ∀ g : Nat → Int32, zev9 x (F + k) g = decide (zhd (zsrI x (b + 6) g) b (zfr x b k) (zen x b k)))
theorem zCk.ck {x : zX} {r k : Nat} (h : zCk x r k) (hr : r < 6) : zCkR x (10 * r + k) ∧ ∀ g : Nat → Int32, zev9 x (10 * r + k) g = decide (zhd (zsrI x (28 + 7 * r + 6) g) (28 + 7 * r) (zfr x (28 + 7 * r) k) (zen x (28 + 7 * r) k)) := by
  obtain ⟨fr, en, h1, h2, h3, h4, h5, h6, h7, h8⟩ := h
  refine ⟨⟨fr, en, h2, by omega, h4, h5, h6, h7, fun g => ⟨_, h8 g⟩⟩, fun g => ?_⟩
  unfold zev9
  rw [h5, h6, nI_clamp (by omega), nI_clamp (by omega), h8 g]
theorem zRl.hl {G : zG} {x : zX} {N R L : Nat} (H : zRl G x N R L) : ∃ b F C, zHl x b F C := by
  obtain ⟨C, h1, h2⟩ := H.held
  rcases h2 with ⟨h2, rfl, h3⟩ | ⟨r, h2, h6, h3, h4, h5, h7⟩
  · refine ⟨70, 0, 0, h3, ⟨6, by decide, rfl⟩, by rw [← h3]; exact h1, ⟨Or.inl ⟨h2, rfl, rfl⟩, fun k hk => absurd hk (by omega)⟩, ?_, fun k hk => absurd hk (by omega)⟩
    exact H.rq.2.2.2.2.2
  · obtain ⟨C2, c1, c2, c3, c4⟩ := H.rq.2.2.2.1 r h2
    refine ⟨28 + 7 * r, 10 * r, C2, h5, ⟨r, by omega, rfl⟩, c1, ⟨Or.inr ⟨r, h6, h4, rfl, c2, c1.1⟩, fun k hk hh => ?_⟩, c3, fun k hk => ⟨(c4 k hk).1, (c4 k hk).2.1, (c4 k hk).2.2.1, fun hh => ?_⟩⟩
    · exact (zCk.ck ((c4 k hk).2.2.2 hh) h6).1
    · exact (zCk.ck ((c4 k hk).2.2.2 hh) h6).2
theorem zmin_f {G : zG} {x : zX} {N R L b9 F C : Nat} (H : zRl G x N R L) (Q : zHl x b9 F C) (w : Int32) : (fun y => zlater G x y (x.1 (zrix (x.1 1 6)) 6) w) = (fun y => zbehind x y (zhush (x.1 90) (x.1 91) F C) w N) := by
  funext y
  rw [Q.1, Q.2.2.2.2.1]
  exact H.later y _ w
theorem e_talk {G : zG} {x u1 u2 : zX} {N R L : Nat} {b m0 : Int32} {r1 r2 : Int32} (H : zRl G x N R L) {b9 F C : Nat} (Q : zHl x b9 F C)
    (h1 : (¬ ((¬ b < 0 ∧ ¬ nI (2 ^ N) ≤ b) ∧ ¬ m0 < 0 ∧ ¬ nI 60 < m0) ∧ x = u1 ∧ -2 = r1) ∨ ((¬ b < 0 ∧ ¬ nI (2 ^ N) ≤ b) ∧ ∃ n, n ≤ 60 ∧ m0 = nI n ∧ x = u1 ∧ ziter (fun y => zlater G x y (x.1 (zrix (x.1 1 6)) 6) (-1)) n b = r1))
    (h2 : (¬ ((¬ b < 0 ∧ ¬ nI (2 ^ N) ≤ b) ∧ ¬ m0 < 0 ∧ ¬ nI 60 < m0) ∧ u1 = u2 ∧ -2 = r2) ∨ ((¬ b < 0 ∧ ¬ nI (2 ^ N) ≤ b) ∧ ∃ n, n ≤ 60 ∧ m0 = nI n ∧ u1 = u2 ∧ ziter (fun y => zbehind u1 y (zhush (u1.1 90) (u1.1 91) F C) (-1) N) n b = r2)) : r1 = r2 ∧ x = u2 := by
  rcases h1 with ⟨a1, rfl, rfl⟩ | ⟨a1, n, hn, rfl, rfl, rfl⟩
  · rcases h2 with ⟨a2, rfl, rfl⟩ | ⟨a2, n, hn, rfl, rfl, rfl⟩
    · exact ⟨rfl, rfl⟩
    · exact absurd ⟨a2, nI_pos (by omega), fun z => by rw [zqL (by omega) (by omega)] at z; omega⟩ a1
  · rcases h2 with ⟨a2, rfl, rfl⟩ | ⟨a2, n2, hn2, e, rfl, rfl⟩
    · exact absurd ⟨a1, nI_pos (by omega), fun z => by rw [zqL (by omega) (by omega)] at z; omega⟩ a2
    · obtain rfl := (zqE (by omega) (by omega)).mp e
      rw [zmin_f H Q]
      exact ⟨rfl, rfl⟩
theorem e_noise {G : zG} {x u1 u2 : zX} {N R L : Nat} {b m0 w : Int32} {r1 r2 : Int32} (H : zRl G x N R L) {b9 F C : Nat} (Q : zHl x b9 F C)
    (h1 : (¬ (w = nI 0 ∨ w = nI 1) ∧ x = u1 ∧ -1 = r1) ∨ ((w = nI 0 ∨ w = nI 1) ∧ ¬ ((¬ b < 0 ∧ ¬ nI (2 ^ N) ≤ b) ∧ ¬ m0 < 0 ∧ ¬ nI 60 < m0) ∧ x = u1 ∧ -2 = r1) ∨ ((w = nI 0 ∨ w = nI 1) ∧ (¬ b < 0 ∧ ¬ nI (2 ^ N) ≤ b) ∧ ∃ n, n ≤ 60 ∧ m0 = nI n ∧ x = u1 ∧ (if w = nI 0 then (fun y => zsum (fun qq => if zbit y (nI qq) then x.1 (zob x qq) 2 else 0) N) (ziter (fun y => zlater G x y (x.1 (zrix (x.1 1 6)) 6) (-1)) n b) else zstill (fun y => zlater G x y (x.1 (zrix (x.1 1 6)) 6) (-1)) 0 61 b) = r1))
    (h2 : (¬ (¬ w < nI 0 ∧ ¬ nI 1 < w) ∧ u1 = u2 ∧ -1 = r2) ∨ ((¬ w < nI 0 ∧ ¬ nI 1 < w) ∧ ¬ ((¬ b < 0 ∧ ¬ nI (2 ^ N) ≤ b) ∧ ¬ m0 < 0 ∧ ¬ nI 60 < m0) ∧ u1 = u2 ∧ -2 = r2) ∨ ((¬ w < nI 0 ∧ ¬ nI 1 < w) ∧ (¬ b < 0 ∧ ¬ nI (2 ^ N) ≤ b) ∧ ∃ n, n ≤ 60 ∧ m0 = nI n ∧ u1 = u2 ∧ (if w = 0 then znoiseR u1 (ziter (fun y => zbehind u1 y (zhush (u1.1 90) (u1.1 91) F C) (-1) N) n b) N else zstill (fun y => zbehind u1 y (zhush (u1.1 90) (u1.1 91) F C) (-1) N) 0 61 b) = r2)) : r1 = r2 ∧ x = u2 := by
  have hw : (w = nI 0 ∨ w = nI 1) ↔ (¬ w < nI 0 ∧ ¬ nI 1 < w) := z01
  rcases h1 with ⟨a1, rfl, rfl⟩ | ⟨a1, b1, rfl, rfl⟩ | ⟨a1, b1, n, hn, rfl, rfl, rfl⟩
  · rcases h2 with ⟨a2, rfl, rfl⟩ | ⟨a2, -⟩ | ⟨a2, -⟩
    · exact ⟨rfl, rfl⟩
    · exact absurd (hw.mpr a2) a1
    · exact absurd (hw.mpr a2) a1
  · rcases h2 with ⟨a2, -⟩ | ⟨a2, b2, rfl, rfl⟩ | ⟨a2, b2, n, hn, rfl, -⟩
    · exact absurd (hw.mp a1) a2
    · exact ⟨rfl, rfl⟩
    · exact absurd ⟨b2, nI_pos (by omega), fun z => by rw [zqL (by omega) (by omega)] at z; omega⟩ b1
  · rcases h2 with ⟨a2, -⟩ | ⟨a2, b2, -⟩ | ⟨a2, b2, n2, hn2, e, rfl, rfl⟩
    · exact absurd (hw.mp a1) a2
    · exact absurd ⟨b1, nI_pos (by omega), fun z => by rw [zqL (by omega) (by omega)] at z; omega⟩ b2
    · obtain rfl := (zqE (by omega) (by omega)).mp e
      rw [zmin_f H Q]
      refine ⟨?_, rfl⟩
      by_cases c : w = nI 0
      · rw [if_pos c, if_pos (show w = 0 from c)]
        exact H.noi _
      · rw [if_neg c, if_neg (show ¬ w = 0 from c)]
theorem zleast_c {S T : Nat → Int32} : ∀ {n : Nat}, (∀ k, k < n → S k = T k) → zleast S n = zleast T n
  | 0, _ => rfl
  | n + 1, h => by rw [zleast, zleast, zleast_c (fun k hk => h k (by omega)), h n (by omega)]
theorem e_carries {G : zG} {x u1 u2 : zX} {N R L : Nat} {b n0 : Int32} {r1 r2 : Int32} (H : zRl G x N R L) {b9 F C : Nat} (Q : zHl x b9 F C)
    (h1 : x = u1 ∧ ((¬ ((¬ b < 0 ∧ ¬ nI (2 ^ N) ≤ b) ∧ ¬ n0 < 0 ∧ ¬ nI 30 < n0) ∧ -2 = r1) ∨ (((¬ b < 0 ∧ ¬ nI (2 ^ N) ≤ b) ∧ ¬ n0 < 0 ∧ ¬ nI 30 < n0) ∧ N = 0 ∧ -5 = r1) ∨ (((¬ b < 0 ∧ ¬ nI (2 ^ N) ≤ b) ∧ ¬ n0 < 0 ∧ ¬ nI 30 < n0) ∧ 0 < N ∧ ∃ nb, nb ≤ 30 ∧ n0 = nI nb ∧ (zleast (fun qq => (zrun (fun y => zlater G x y (x.1 (zrix (x.1 1 6)) 6) (nI qq)) (fun y => zsum (fun qq => if zbit y (nI qq) then x.1 (zob x qq) 2 else 0) N) nb (b &&& ((nI 1 <<< (nI qq &&& 31)) ^^^ (-1)))).2) N).1 = r1)))
    (h2 : u1 = u2 ∧ ((¬ ((¬ b < 0 ∧ ¬ nI (2 ^ N) ≤ b) ∧ ¬ n0 < nI 0 ∧ ¬ nI 30 < n0) ∧ -2 = r2) ∨ (((¬ b < 0 ∧ ¬ nI (2 ^ N) ≤ b) ∧ ¬ n0 < nI 0 ∧ ¬ nI 30 < n0) ∧ ∃ nb, nb ≤ 30 ∧ n0 = nI nb ∧ (zleast (fun qq => (zrun (fun y => zbehind u1 y (zhush (u1.1 90) (u1.1 91) F C) (nI qq) N) (fun y => znoiseR u1 y N) nb (b &&& ((nI 1 <<< (nI qq &&& 31)) ^^^ (-1)))).2) N).1 = r2))) : r1 = r2 ∧ x = u2 := by
  obtain ⟨rfl, h1⟩ := h1
  obtain ⟨rfl, h2⟩ := h2
  refine ⟨?_, rfl⟩
  have hg : (fun y => zsum (fun qq => if zbit y (nI qq) then x.1 (zob x qq) 2 else 0) N) = fun y => znoiseR x y N := funext fun y => H.noi y
  rcases h1 with ⟨a1, rfl⟩ | ⟨a1, rfl, rfl⟩ | ⟨a1, b1, n, hn, rfl, rfl⟩
  · rcases h2 with ⟨a2, rfl⟩ | ⟨a2, -⟩
    · rfl
    · exact absurd a2 a1
  · rcases h2 with ⟨a2, rfl⟩ | ⟨a2, n2, hn2, e, rfl⟩
    · exact absurd a1 a2
    · rfl
  · rcases h2 with ⟨a2, rfl⟩ | ⟨a2, n2, hn2, e, rfl⟩
    · exact absurd a1 a2
    · obtain rfl := (zqE (by omega) (by omega)).mp e
      refine congrArg Prod.fst (zleast_c (fun k hk => ?_))
      rw [zmin_f H Q, hg]
theorem zclo_c {P T : Nat → Prop} [DecidablePred P] [DecidablePred T] : ∀ {n : Nat}, (∀ k, k < n → (P k ↔ T k)) → zclo P n = zclo T n
  | 0, _ => rfl
  | n + 1, h => by
    rw [zclo, zclo, zclo_c (T := T) (fun k hk => h k (by omega))]
    have e := h n (by omega)
    by_cases c : 2 ≤ zpop 8 n ∧ zpop 8 n < (zclo T n).2 ∧ P n
    · rw [if_pos c, if_pos ⟨c.1, c.2.1, e.mp c.2.2⟩]
    · rw [if_neg c, if_neg (fun z => c ⟨z.1, z.2.1, e.mpr z.2.2⟩)]
theorem e_slips {G : zG} {x u1 u2 : zX} {N R L : Nat} {w : Int32} {r1 r2 : Int32} (H : zRl G x N R L)
    (h1 : x = u1 ∧ (if w = nI 0 then zors (fun qq => if zsum (fun k => if ¬ (nI qq) < 0 ∧ x.1 5 k = (nI qq) then 1 else 0) N = 0 then nI 1 <<< (nI qq &&& 31) else 0) N else if w = nI 1 then (zclo (fun qq => zcl x N (nI qq)) (2 ^ N)).1 else -1) = r1)
    (h2 : u1 = u2 ∧ (if ¬ w < nI 0 ∧ ¬ nI 1 < w then (if w = 0 then zors (fun qq => if zsum (fun k => if u1.1 83 k = nI qq then 1 else 0) N = 0 then nI 1 <<< (nI qq &&& 31) else 0) N else (zclo (fun qq => zrcl u1 N (nI qq)) (2 ^ N)).1) else -1) = r2) : r1 = r2 ∧ x = u2 := by
  obtain ⟨rfl, rfl⟩ := h1
  obtain ⟨rfl, rfl⟩ := h2
  refine ⟨?_, rfl⟩
  have h8 := H.sc.1
  have hw : (w = nI 0 ∨ w = nI 1) ↔ (¬ w < nI 0 ∧ ¬ nI 1 < w) := z01
  by_cases c0 : w = nI 0
  · rw [if_pos c0, if_pos (hw.mp (Or.inl c0)), if_pos (show w = 0 from c0)]
    refine zors_c (fun q hq => ?_)
    rw [znmd H (q := nI q) (nI_pos (by omega))]
  · rw [if_neg c0]
    by_cases c1 : w = nI 1
    · rw [if_pos c1, if_pos (hw.mp (Or.inr c1)), if_neg (show ¬ w = 0 from c0)]
      refine congrArg Prod.fst (zclo_c (fun m hm => ?_))
      refine forall_congr' (fun q => ?_)
      refine imp_congr_right (fun hq => ?_)
      obtain ⟨e, h5⟩ := H.sc.2.2.2.1 q hq
      rw [zbit_h (by omega), ← e]
      have hr : zbit (nI m) (x.1 5 q) ↔ (¬ x.1 5 q < 0 ∧ zhas (nI m) (x.1 5 q)) := by
        rcases h5 with h5 | ⟨o, ho, h5⟩
        · rw [h5]
          exact ⟨fun z => absurd z zbit_n, fun z => absurd (show (-1 : Int32) < 0 from by decide) z.1⟩
        · rw [h5, zbit_h (by omega)]
          exact ⟨fun z => ⟨nI_pos (by omega), z⟩, fun z => z.2⟩
      rw [hr]
      exact ⟨fun z => z.symm, fun z => z.symm⟩
    · rw [if_neg c1, if_neg (fun z => (hw.mpr z).elim c0 c1)]
