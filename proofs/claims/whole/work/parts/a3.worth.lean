/-! WHAT A PAIR IS WORTH: class and reference answer alike -/
set_option maxRecDepth 100000 in
theorem zrs1_g {g g2 : Nat → Int32} (h : ∀ k, k < 7 → g k = g2 k) {cd : Int32} {st : List Bool} (hc : zcdR cd) : zrs1 g cd st = zrs1 g2 cd st := by
  rcases hc with rfl | rfl | rfl | ⟨q, hq, rfl⟩
  · unfold zrs1
    rw [if_pos rfl, if_pos rfl]
  · unfold zrs1
    rw [if_neg (show ¬ (-38 : Int32) = -33 from by decide), if_pos (show (-38 : Int32) < 0 from by decide), if_neg (show ¬ (-38 : Int32) = -33 from by decide), if_pos (show (-38 : Int32) < 0 from by decide)]
  · unfold zrs1
    rw [if_neg (show ¬ (-124 : Int32) = -33 from by decide), if_pos (show (-124 : Int32) < 0 from by decide), if_neg (show ¬ (-124 : Int32) = -33 from by decide), if_pos (show (-124 : Int32) < 0 from by decide)]
  · have n1 : ¬ nI q = -33 := fun z => absurd (show nI q < 0 from by rw [z]; decide) (nI_pos (by omega))
    unfold zrs1
    rw [if_neg n1, if_neg n1, if_neg (nI_pos (by omega)), if_neg (nI_pos (by omega)), nI_clamp (by omega)]
    unfold ztst
    rw [h (q / 1000) (by omega)]
theorem zrsN_g {g g2 w : Nat → Int32} {fr : Nat} (h : ∀ k, k < 7 → g k = g2 k) : ∀ {n : Nat}, (∀ k, k < n → zcdR (w (fr + k))) → zrsN g w fr n = zrsN g2 w fr n
  | 0, _ => rfl
  | n + 1, hc => by
    rw [zrsN, zrsN, zrsN_g h (fun k hk => hc k (by omega))]
    exact congrArg (Option.bind _) (funext fun st => zrs1_g h (hc n (by omega)))
theorem zev9_g {x : zX} {c : Nat} {g g2 : Nat → Int32} (hk : zCkR x c) (h : ∀ k, k < 7 → g k = g2 k) : zev9 x c g = zev9 x c g2 := by
  obtain ⟨fr, en, h1, h2, h3, h4, h5, h6, -⟩ := hk
  unfold zev9
  rw [h4, h5, nI_clamp (by omega), nI_clamp (by omega), zrsN_g h (fun k hk => h6 _ (by omega) (by omega))]
theorem zmx_t : ∀ i j : Fin 10, (if (nI 0) < (nI j.val - nI i.val) then (nI j.val - nI i.val) else (nI 0)) = (if nI j.val ≤ nI i.val then nI 0 else nI j.val - nI i.val) := by decide +kernel
section
variable {G : zG} {x : zX} {N R L : Nat}
theorem zRl.nm (H : zRl G x N R L) {p q : Nat} (hp : p < N) (hq : q < N) : znm x p q ↔ x.1 83 p = nI q := by
  have h8 := H.sc.1
  unfold znm
  rw [(H.sc.2.2.2.1 p hp).1]
  exact ⟨fun z => z.2, fun z => ⟨nI_pos (by omega), z⟩⟩
theorem zif_c {P Q : Prop} [Decidable P] [Decidable Q] {a b : Int32} (h : P ↔ Q) : (if P then a else b) = (if Q then a else b) := by
  by_cases c : P
  · rw [if_pos c, if_pos (h.mp c)]
  · rw [if_neg c, if_neg (fun z => c (h.mpr z))]
set_option maxRecDepth 100000 in
theorem zRl.fac (H : zRl G x N R L) {p q k : Nat} {row : Int32} (hp : p < N) (hq : q < N) (hk : k < 7) : zfa x p q row k = zfr9 x p q row k := by
  obtain ⟨-, -, p1, p2, p3, p4, p5⟩ := H.pp.2.2 p hp
  obtain ⟨-, -, q1, q2, q3, q4, q5⟩ := H.pp.2.2 q hq
  have a0 : zfa x p q row 0 = nI p := rfl
  have a1 : zfa x p q row 1 = nI q := rfl
  have a2 : zfa x p q row 2 = (if (nI 0) < (x.1 (zob x q) 3 - x.1 (zob x p) 3) then (x.1 (zob x q) 3 - x.1 (zob x p) 3) else (nI 0)) := rfl
  have a3 : zfa x p q row 3 = x.1 (zob x p) 2 + x.1 (zob x q) 2 := rfl
  have a4 : zfa x p q row 4 = (if x.1 (zob x p) 4 = x.1 (zob x q) 4 then nI 1 else nI 0) := rfl
  have a5 : zfa x p q row 5 = (if znm x p q then nI 1 else nI 0) + (if znm x q p then nI 1 else nI 0) := rfl
  have a6 : zfa x p q row 6 = row := rfl
  have b0 : zfr9 x p q row 0 = nI p := rfl
  have b1 : zfr9 x p q row 1 = nI q := rfl
  have b2 : zfr9 x p q row 2 = (if x.1 81 q ≤ x.1 81 p then nI 0 else x.1 81 q - x.1 81 p) := rfl
  have b3 : zfr9 x p q row 3 = x.1 80 p + x.1 80 q := rfl
  have b4 : zfr9 x p q row 4 = (if x.1 82 p = x.1 82 q then nI 1 else nI 0) := rfl
  have b5 : zfr9 x p q row 5 = (if x.1 83 p = nI q then nI 1 else nI 0) + (if x.1 83 q = nI p then nI 1 else nI 0) := rfl
  have b6 : zfr9 x p q row 6 = row := rfl
  rcases (show k = 0 ∨ k = 1 ∨ k = 2 ∨ k = 3 ∨ k = 4 ∨ k = 5 ∨ k = 6 by omega) with rfl | rfl | rfl | rfl | rfl | rfl | rfl
  · rw [a0, b0]
  · rw [a1, b1]
  · rw [a2, b2, p3, q3]
    obtain ⟨i, hi, e1⟩ := p5 81 (by omega) (by omega)
    obtain ⟨j, hj, e2⟩ := q5 81 (by omega) (by omega)
    rw [e1, e2]
    exact zmx_t ⟨i, hi⟩ ⟨j, hj⟩
  · rw [a3, b3, p2, q2]
  · rw [a4, b4, p4, q4]
  · rw [a5, b5, zif_c (H.nm hp hq), zif_c (H.nm hq hp)]
  · rw [a6, b6]
theorem zRl.ev (H : zRl G x N R L) {b F C p q k : Nat} {row : Int32} (Q : zHl x b F C) (hp : p < N) (hq : q < N) (hk : k < C) (hh : ¬ x.1 90 (F + k) = nI 3) : zev9 x (F + k) (zfr9 x p q row) = true ↔ zhd (zlook x b p q row) b (zfr (zlook x b p q row) b k) (zen (zlook x b p q row) b k) := by
  have hg := (Q.2.2.2.2.2 k hk).2.2.2 hh ((zlook x b p q row).1 (b + 6))
  rw [zev9_g (g2 := zfr9 x p q row) (Q.2.2.2.1.2 k hk hh) (fun k hk => by rw [zlook_6 hk]; exact H.fac hp hq hk)] at hg
  rw [hg, decide_eq_true_eq]
  have e : zen (zlook x b p q row) b k = zen x b k := by unfold zen; rw [zlook_n (by omega)]
  have e2 : zfr (zlook x b p q row) b k = zfr x b k := zfr_c (zlook_n (by omega))
  unfold zhd
  rw [e, e2, zhf_g (x := zlook x b p q row) (y := zsrI x (b + 6) ((zlook x b p q row).1 (b + 6))) (by rw [zsrI_n (by omega), zlook_n (by omega)]) (by rw [zsrI_u])]
theorem zRl.sm (H : zRl G x N R L) {b F C p q : Nat} {row w : Int32} (Q : zHl x b F C) (hp : p < N) (hq : q < N) (h2 : ¬ w = nI 2) (h3 : ¬ w = nI 3) : zsm (zlook x b p q row) b w C = zsuR x F w (zfr9 x p q row) C := by
  refine zsum_c (fun k hk => ?_)
  obtain ⟨c1, c2, c3, c4⟩ := Q.2.2.2.2.2 k hk
  have e1 : (zlook x b p q row).1 (b + 1) k = x.1 90 (F + k) := by rw [zlook_n (by omega), c1]
  have e2 : (zlook x b p q row).1 (b + 2) k = x.1 (b + 2) k := by rw [zlook_n (by omega)]
  by_cases c : x.1 90 (F + k) = w
  · have ev := H.ev (row := row) Q hp hq hk (by rw [c]; exact h3)
    by_cases d : zev9 x (F + k) (zfr9 x p q row) = true
    · rw [if_pos ⟨e1.trans c, ev.mp d⟩, if_pos ⟨c, d⟩, e2, (c2 (by rw [c]; exact h2)).1]
    · rw [if_neg (fun z => d (ev.mpr z.2)), if_neg (fun z => d z.2)]
  · rw [if_neg (fun z => c (e1.symm.trans z.1)), if_neg (fun z => c z.1)]
theorem zsum_b {f : Nat → Int32} {P : Nat → Prop} : ∀ {n : Nat}, n < 1000 → (∀ k, k < n → (P k ∧ f k = nI 1) ∨ (¬ P k ∧ f k = 0)) → ∃ m, m ≤ n ∧ zsum f n = nI m ∧ (0 < m ↔ ∃ k, k < n ∧ P k)
  | 0, _, _ => ⟨0, by omega, rfl, fun z => absurd z (by omega), fun ⟨k, hk, _⟩ => absurd hk (by omega)⟩
  | n + 1, hn, h => by
    obtain ⟨m, m1, m2, m3⟩ := zsum_b (n := n) (by omega) (fun k hk => h k (by omega))
    rcases h n (by omega) with ⟨h1, h2⟩ | ⟨h1, h2⟩
    · exact ⟨m + 1, by omega, by rw [zsum, m2, h2, nI_add], fun _ => ⟨n, by omega, h1⟩, fun _ => by omega⟩
    · refine ⟨m, by omega, by rw [zsum, m2, h2]; exact Int32.add_zero _, fun z => ?_, fun ⟨k, hk, z⟩ => ?_⟩
      · obtain ⟨k, hk, z2⟩ := m3.mp z
        exact ⟨k, by omega, z2⟩
      · by_cases e : k = n
        · rw [e] at z
          exact absurd z h1
        · exact m3.mpr ⟨k, by omega, z⟩
theorem zRl.vb1 (H : zRl G x N R L) {b F C p q : Nat} {row : Int32} (Q : zHl x b F C) (hp : p < N) (hq : q < N) : 0 < zsm (zlook x b p q row) b (nI 2) C ↔ ∃ k, k < C ∧ x.1 90 (F + k) = nI 2 ∧ zev9 x (F + k) (zfr9 x p q row) = true := by
  have hC := Q.2.2.1.1
  obtain ⟨m, m1, m2, m3⟩ := zsum_b (n := C) (f := fun k => if (zlook x b p q row).1 (b + 1) k = nI 2 ∧ zhd (zlook x b p q row) b (zfr (zlook x b p q row) b k) (zen (zlook x b p q row) b k) then (zlook x b p q row).1 (b + 2) k else 0) (P := fun k => x.1 90 (F + k) = nI 2 ∧ zev9 x (F + k) (zfr9 x p q row) = true) (by omega) (fun k hk => by
    obtain ⟨c1, c2, c3, c4⟩ := Q.2.2.2.2.2 k hk
    have e1 : (zlook x b p q row).1 (b + 1) k = x.1 90 (F + k) := by rw [zlook_n (by omega), c1]
    have e2 : (zlook x b p q row).1 (b + 2) k = x.1 (b + 2) k := by rw [zlook_n (by omega)]
    by_cases c : x.1 90 (F + k) = nI 2
    · have ev := H.ev (row := row) Q hp hq hk (by rw [c]; decide)
      by_cases d : zev9 x (F + k) (zfr9 x p q row) = true
      · exact Or.inl ⟨⟨c, d⟩, by rw [if_pos ⟨e1.trans c, ev.mp d⟩, e2, c3 c]⟩
      · exact Or.inr ⟨fun z => d z.2, if_neg (fun z => d (ev.mpr z.2))⟩
    · exact Or.inr ⟨fun z => c z.1, if_neg (fun z => c (e1.symm.trans z.1))⟩)
  have hz : zsm (zlook x b p q row) b (nI 2) C = nI m := m2
  rw [hz, show (0 : Int32) = nI 0 from rfl, zqL (by omega) (by omega)]
  exact m3
theorem zRl.vb (H : zRl G x N R L) {b F C p q : Nat} {row : Int32} (Q : zHl x b F C) (hp : p < N) (hq : q < N) : zVb x b C p q row ↔ zbaR x F C p q row := by
  unfold zVb zbaR
  rw [H.vb1 Q hp hq, H.vb1 Q hq hp]
  constructor
  · rintro (⟨k, h1, h2, h3⟩ | ⟨k, h1, h2, h3⟩)
    · exact ⟨k, h1, h2, Or.inl h3⟩
    · exact ⟨k, h1, h2, Or.inr h3⟩
  · rintro ⟨k, h1, h2, h3 | h3⟩
    · exact Or.inl ⟨k, h1, h2, h3⟩
    · exact Or.inr ⟨k, h1, h2, h3⟩
/-- nobody but b names a: by a count, and by looking -/
theorem zRl.inb (H : zRl G x N R L) {p q : Nat} (hp : p < N) (hq : q < N) : (zsum (fun qq => if ¬ nI p < 0 ∧ x.1 5 qq = nI p then 1 else 0) N - (if znm x q p then nI 1 else nI 0) = 0) ↔ ¬ zinb x N p q := by
  have h8 := H.sc.1
  have e1 : zsum (fun qq => if ¬ nI p < 0 ∧ x.1 5 qq = nI p then 1 else 0) N = zsum (fun o => if ¬ nI o = nI q ∧ x.1 83 o = nI p then nI 1 else 0) N + zsum (fun o => if o = q then (if znm x q p then nI 1 else nI 0) else 0) N := by
    rw [← zsum_a]
    refine zsum_c (fun o ho => ?_)
    have e5 := (H.sc.2.2.2.1 o ho).1
    by_cases c : o = q
    · subst c
      rw [if_neg (fun z => z.1 rfl : ¬ (¬ nI o = nI o ∧ x.1 83 o = nI p)), if_pos rfl, Int32.zero_add]
      exact zif_c Iff.rfl
    · rw [if_neg c, Int32.add_zero, e5]
      exact zif_c ⟨fun z => ⟨fun y => c ((zqE (by omega) (by omega)).mp y), z.2⟩, fun z => ⟨nI_pos (by omega), z.2⟩⟩
  obtain ⟨m, m1, m2, m3⟩ := zsum_b (n := N) (f := fun o => if ¬ nI o = nI q ∧ x.1 83 o = nI p then nI 1 else 0) (P := fun o => ¬ nI o = nI q ∧ x.1 83 o = nI p) (by omega) (fun k hk => by
    by_cases c : ¬ nI k = nI q ∧ x.1 83 k = nI p
    · exact Or.inl ⟨c, if_pos c⟩
    · exact Or.inr ⟨c, if_neg c⟩)
  rw [e1, zsum_1 hq, Int32.add_sub_cancel, m2, show (0 : Int32) = nI 0 from rfl, zqE (by omega) (by omega)]
  unfold zinb
  rw [← m3]
  omega
theorem z_le_lt {a b : Int32} : a ≤ b ↔ ¬ b < a := ⟨z_nle, z_nlt⟩
theorem zRl.vw (H : zRl G x N R L) {b F C p q : Nat} {row : Int32} (Q : zHl x b F C) (hp : p < N) (hq : q < N) : zVw G x N b C p q row = zpwR x N F C p q row := by
  obtain ⟨i, hi⟩ := H.kd hp
  obtain ⟨-, p0, p1, p2, p3, p4, p5⟩ := H.pp.2.2 p hp
  obtain ⟨-, q0, q1, q2, q3, q4, q5⟩ := H.pp.2.2 q hq
  unfold zVw
  rw [H.sm Q hp hq (by decide) (by decide), H.sm Q hp hq (by decide) (by decide), hi]
  unfold zpwR
  generalize zsuR x F (nI 0) (zfr9 x p q row) C - zsuR x F (nI 1) (zfr9 x p q row) C = n
  rw [hi] at p0
  have hkn : (if x.1 (zob x q) 3 < x.1 (zob x p) 3 then x.1 (zob x p) 1 else nI 0) = (if x.1 81 p ≤ x.1 81 q then nI 0 else x.1 79 p) := by
    rw [p1, p3, q3]
    by_cases c : x.1 81 q < x.1 81 p
    · rw [if_pos c, if_neg (fun z => z_nle z c)]
    · rw [if_neg c, if_pos (z_nlt c)]
  have hin : (if zsum (fun qq => if ¬ nI p < 0 ∧ x.1 5 qq = nI p then 1 else 0) N - (if znm x q p then nI 1 else nI 0) = 0 then x.1 (zob x p) 1 else nI 0) = (if zinb x N p q then nI 0 else x.1 79 p) := by
    rw [p1]
    have := H.inb hp hq
    by_cases c : zinb x N p q
    · rw [if_pos c, if_neg (fun z => this.mp z c)]
    · rw [if_neg c, if_pos (this.mpr c)]
  have hn1 : (if znm x q p then x.1 (zob x p) 1 else nI 0) = (if x.1 83 q = nI p then x.1 79 p else nI 0) := by
    rw [p1]
    exact zif_c (H.nm hq hp)
  have hn2 : (if znm x p q then x.1 (zob x p) 1 else nI 0) = (if x.1 83 p = nI q then x.1 79 p else nI 0) := by
    rw [p1]
    exact zif_c (H.nm hp hq)
  unfold zwby zwlf zwhp zwws zwhl
  rw [hkn, hin, hn1, hn2, p2]
  unfold zpw5 zpw4 zpw3 zpw2 zpw1
  rw [← p0]
  match i with
  | 0 => rfl
  | 1 => rfl
  | 2 => rfl
  | 3 => rfl
  | 4 => rfl
  | 5 => rfl
  | 6 => rfl
end
