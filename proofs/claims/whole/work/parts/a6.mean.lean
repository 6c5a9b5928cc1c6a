/-! THE MEAN: class and reference answer alike -/
def zBd (v : Int32) (B : Int) : Prop := -B ≤ v.toInt ∧ v.toInt ≤ B
theorem zBd_a {v w : Int32} {A B : Int} (h : zBd v A) (g : zBd w B) (hs : A + B < 2 ^ 31) : (v + w).toInt = v.toInt + w.toInt ∧ zBd (v + w) (A + B) := by
  unfold zBd at *
  have e : (v + w).toInt = v.toInt + w.toInt := by rw [Int32.toInt_add, Int.bmod_eq_of_le (by omega) (by omega)]
  rw [e]
  omega
theorem zBd_s {v w : Int32} {A B : Int} (h : zBd v A) (g : zBd w B) (hs : A + B < 2 ^ 31) : zBd (v - w) (A + B) := by
  unfold zBd at *
  rw [Int32.toInt_sub, Int.bmod_eq_of_le (by omega) (by omega)]
  omega
theorem zBd_n {j B : Nat} (h : j ≤ B) (hB : B < 2 ^ 31) : zBd (nI j) B := by
  unfold zBd
  rw [nI_toInt (by omega)]
  omega
theorem zBd_w {v : Int32} {A B : Int} (h : zBd v A) (hs : A ≤ B) : zBd v B := by
  unfold zBd at *
  omega
theorem zBd_i {P : Prop} [Decidable P] {v w : Int32} {B : Int} (h : zBd v B) (g : zBd w B) : zBd (if P then v else w) B := by
  split
  · exact h
  · exact g
theorem zsuR_b {G : zG} {x : zX} {N R L b F C : Nat} {w : Int32} {g : Nat → Int32} (H : zRl G x N R L) (Q : zHl x b F C) (h2 : ¬ w = nI 2) : zBd (zsuR x F w g C) 1000 := by
  have hC := Q.2.2.1.1
  have hn : ∀ n, n ≤ C → zBd (zsuR x F w g n) (100 * n : Nat) := by
    intro n
    induction n with
    | zero => intro _; exact zBd_n (j := 0) (by omega) (by omega)
    | succ n ih =>
      intro hn
      have h1 := ih (by omega)
      have h3 : zBd (if x.1 90 (F + n) = w ∧ zev9 x (F + n) g = true then x.1 91 (F + n) else 0) (100 : Nat) := by
        by_cases c : x.1 90 (F + n) = w ∧ zev9 x (F + n) g = true
        · rw [if_pos c]
          obtain ⟨-, j, hj, e⟩ := (Q.2.2.2.2.2 n (by omega)).2.1 (by rw [c.1]; exact h2)
          rw [e]
          exact zBd_n (by omega) (by omega)
        · rw [if_neg c]
          exact zBd_n (j := 0) (by omega) (by omega)
      have h4 := (zBd_a h1 h3 (by omega)).2
      have e : ((100 * (n + 1) : Nat) : Int) = ((100 * n : Nat) : Int) + ((100 : Nat) : Int) := by omega
      rw [e]
      exact h4
  exact zBd_w (hn C (Nat.le_refl C)) (by omega)
theorem zpwR_b {G : zG} {x : zX} {N R L b F C p q : Nat} {row : Int32} (H : zRl G x N R L) (Q : zHl x b F C) (hp : p < N) : zBd (zpwR x N F C p q row) 2100 := by
  obtain ⟨i, hi, e1⟩ := (H.pp.2.2 p hp).2.2.2.2.2.2 79 (by omega) (by omega)
  obtain ⟨j, hj, e2⟩ := (H.pp.2.2 p hp).2.2.2.2.2.2 80 (by omega) (by omega)
  have h0 : zBd (0 : Int32) 10 := zBd_n (j := 0) (B := 10) (by omega) (by omega)
  have h1 : zBd (x.1 79 p) 10 := by rw [e1]; exact zBd_n (B := 10) (by omega) (by omega)
  have h2 : zBd (x.1 80 p) 10 := by rw [e2]; exact zBd_n (B := 10) (by omega) (by omega)
  have hb : zBd (zsuR x F (nI 0) (zfr9 x p q row) C - zsuR x F (nI 1) (zfr9 x p q row) C) 2000 := zBd_s (zsuR_b H Q (by decide)) (zsuR_b H Q (by decide)) (by decide)
  have ha : ∀ {n v : Int32} {B : Int}, B ≤ 2050 → 0 ≤ B → zBd n B → zBd v 10 → zBd (n + v) (B + 10) := fun hB _ hn hv => (zBd_a hn hv (by omega)).2
  have g1 : zBd (zpw1 x p q (zsuR x F (nI 0) (zfr9 x p q row) C - zsuR x F (nI 1) (zfr9 x p q row) C)) 2010 := by
    unfold zpw1
    exact zBd_i (ha (by decide) (by decide) hb (zBd_i h0 h1)) (zBd_w hb (by decide))
  unfold zpwR
  generalize zpw1 x p q (zsuR x F (nI 0) (zfr9 x p q row) C - zsuR x F (nI 1) (zfr9 x p q row) C) = n1 at *
  have g2 : zBd (zpw2 x N p q n1) 2020 := by
    unfold zpw2
    exact zBd_i (ha (by decide) (by decide) g1 (zBd_i h0 h1)) (zBd_w g1 (by decide))
  generalize zpw2 x N p q n1 = n2 at *
  have g3 : zBd (zpw3 x p n2) 2030 := by
    unfold zpw3
    exact zBd_i (zBd_s g2 h2 (by decide)) (zBd_w g2 (by decide))
  generalize zpw3 x p n2 = n3 at *
  have g4 : zBd (zpw4 x p q n3) 2040 := by
    unfold zpw4
    exact zBd_i (ha (by decide) (by decide) g3 (zBd_i h1 h0)) (zBd_w g3 (by decide))
  generalize zpw4 x p q n3 = n4 at *
  have g5 : zBd (zpw5 x p q n4) 2050 := by
    unfold zpw5
    exact zBd_i (ha (by decide) (by decide) g4 (zBd_i h1 h0)) (zBd_w g4 (by decide))
  exact zBd_w g5 (by decide)
theorem zsml_c {f g : Nat → Int64} : ∀ {n : Nat}, (∀ k, k < n → f k = g k) → zsml f n = zsml g n
  | 0, _ => rfl
  | n + 1, h => by rw [zsml, zsml, zsml_c (fun k hk => h k (by omega)), h n (by omega)]
theorem zBd_l {v w : Int32} (h : zBd v 2100) (g : zBd w 2100) : (v + w).toInt64 = v.toInt64 + w.toInt64 ∧ -4200 ≤ (v + w).toInt64.toInt ∧ (v + w).toInt64.toInt ≤ 4200 := by
  obtain ⟨e, h2⟩ := zBd_a h g (by decide)
  unfold zBd at h g h2
  refine ⟨?_, by rw [Int32.toInt_toInt64]; omega, by rw [Int32.toInt_toInt64]; omega⟩
  rw [← Int64.toInt_inj, Int32.toInt_toInt64, e, Int64.toInt_add, Int32.toInt_toInt64, Int32.toInt_toInt64, Int.bmod_eq_of_le (by omega) (by omega)]
theorem zall_e {G : zG} {u : zX} {N R L b F C : Nat} (H : zRl G u N R L) (Q : zHl u b F C) (tb : zTb G u N b C u) : zall u N = zamR u N F C ∧ -300000 ≤ (zall u N).toInt ∧ (zall u N).toInt ≤ 300000 := by
  have h8 := H.sc.1
  have key : ∀ a b2, a < N → b2 < N → (zwa u a b2 0 + zwa u a b2 1).toInt64 = zsml (fun r => if a = b2 then 0 else (zpwR u N F C a b2 (nI r)).toInt64) 2 ∧ -4200 ≤ (zwa u a b2 0 + zwa u a b2 1).toInt64.toInt ∧ (zwa u a b2 0 + zwa u a b2 1).toInt64.toInt ≤ 4200 := fun a b2 ha hb => by
    by_cases c : a = b2
    · subst c
      rw [zwa_e, zwa_e, zsml_z rfl]
      decide
    · have e : ∀ r, r < 2 → zwa u a b2 r = zpwR u N F C a b2 (nI r) := fun r hr => by
        rw [zwa_n c, (tb.1 a b2 r hr hb ha c).1, H.vw Q ha hb]
      rw [e 0 (by omega), e 1 (by omega)]
      obtain ⟨e1, e2⟩ := zBd_l (zpwR_b (q := b2) (row := nI 0) H Q ha) (zpwR_b (q := b2) (row := nI 1) H Q ha)
      refine ⟨?_, e2⟩
      rw [e1]
      show _ = (0 + (if a = b2 then 0 else (zpwR u N F C a b2 (nI 0)).toInt64)) + (if a = b2 then 0 else (zpwR u N F C a b2 (nI 1)).toInt64)
      rw [if_neg c, if_neg c, Int64.zero_add]
  refine ⟨zsml_c (fun a ha => zsml_c (fun b2 hb => (key a b2 ha hb).1)), ?_⟩
  have h1 : ∀ a, a < N → -(33600 : Int) ≤ (zsml (fun b2 => (zwa u a b2 0 + zwa u a b2 1).toInt64) N).toInt ∧ (zsml (fun b2 => (zwa u a b2 0 + zwa u a b2 1).toInt64) N).toInt ≤ 33600 := fun a ha => by
    have := zsml_b (B := 4200) (by decide) (by decide) N h8 (f := fun b2 => (zwa u a b2 0 + zwa u a b2 1).toInt64) (fun b2 hb => (key a b2 ha hb).2)
    omega
  have h2 := zsml_b (B := 33600) (by decide) (by decide) N h8 (f := fun a => zsml (fun b2 => (zwa u a b2 0 + zwa u a b2 1).toInt64) N) h1
  unfold zall
  omega
theorem zi64 {a b : Int64} (h : a.toInt = b.toInt) : a = b := Int64.toInt_inj.mp h
theorem zgc_t : ∀ m : Fin 14, zgcd 15 14 (Int64.ofInt m.val) = (if m.val = 0 then 14 else if m.val = 7 then 7 else if m.val % 2 = 0 then 2 else 1) := by decide +kernel
theorem zgc_e {A : Int64} (h0 : 0 ≤ A.toInt) (h1 : A.toInt ≤ 300000) : zgcd 16 A 14 = (if A.toInt % 14 = 0 then 14 else if A.toInt % 14 = 7 then 7 else if A.toInt % 14 % 2 = 0 then 2 else 1) := by
  have e1 : (A - A / 14 * 14).toInt = A.toInt % 14 := zrem h0 (by decide)
  obtain ⟨m, hm⟩ : ∃ m : Nat, A.toInt % 14 = m := ⟨(A.toInt % 14).toNat, by omega⟩
  have hm14 : m < 14 := by omega
  have e2 : A - A / 14 * 14 = Int64.ofInt m := by
    apply zi64
    rw [e1, hm, Int64.toInt_ofInt_of_le (by omega) (by omega)]
  have e3 : zgcd 16 A 14 = zgcd 15 14 (A - A / 14 * 14) := by
    rw [zgcd, if_neg (by decide)]
  have ht := zgc_t ⟨m, hm14⟩
  rw [e3, e2]
  dsimp only at ht
  rw [ht, hm]
  by_cases c0 : m = 0
  · rw [if_pos c0, if_pos (show ((m : Nat) : Int) = 0 by omega)]
  · rw [if_neg c0, if_neg (show ¬ ((m : Nat) : Int) = 0 by omega)]
    by_cases c7 : m = 7
    · rw [if_pos c7, if_pos (show ((m : Nat) : Int) = 7 by omega)]
    · rw [if_neg c7, if_neg (show ¬ ((m : Nat) : Int) = 7 by omega)]
      by_cases c2 : m % 2 = 0
      · rw [if_pos c2, if_pos (show ((m : Nat) : Int) % 2 = 0 by omega)]
      · rw [if_neg c2, if_neg (show ¬ ((m : Nat) : Int) % 2 = 0 by omega)]
theorem ztd (s d : Int) : s.tdiv d = if 0 ≤ s then s / d else -((-s) / d) := by
  by_cases c : 0 ≤ s
  · rw [if_pos c]
    exact Int.tdiv_eq_ediv_of_nonneg c
  · rw [if_neg c]
    have e := Int.neg_tdiv (-s) d
    rw [Int.neg_neg] at e
    rw [e, Int.tdiv_eq_ediv_of_nonneg (by omega)]
theorem zdv {S : Int64} (d : Int64) (hd : d = 2 ∨ d = 7 ∨ d = 14) (h : -300000 ≤ S.toInt ∧ S.toInt ≤ 300000) : (S / d).toInt = S.toInt.tdiv d.toInt ∧ (lg_cmp (S - S / d * d) 0 = 0 ↔ S.toInt.tmod d.toInt = 0) := by
  have hne : d ≠ -1 := by rcases hd with rfl | rfl | rfl <;> decide
  have hb : (d.toInt = 2 ∨ d.toInt = 7 ∨ d.toInt = 14) := by rcases hd with rfl | rfl | rfl <;> decide
  have e : (S / d).toInt = S.toInt.tdiv d.toInt := Int64.toInt_div_of_ne_right _ _ hne
  have hm := Int.mul_tdiv_add_tmod S.toInt d.toInt
  have hT := ztd S.toInt d.toInt
  have hq : -300000 ≤ S.toInt.tdiv d.toInt * d.toInt ∧ S.toInt.tdiv d.toInt * d.toInt ≤ 300000 := by
    rcases hb with hb | hb | hb <;> rw [hb] at hm hT ⊢ <;> rw [hT] <;> split <;> omega
  refine ⟨e, ?_⟩
  rw [zlcmp0, ← Int64.toInt_inj, Int64.toInt_sub, Int64.toInt_mul, e, Int64.toInt_zero, Int.bmod_eq_of_le (n := S.toInt.tdiv d.toInt * d.toInt) (by omega) (by omega), Int.bmod_eq_of_le (by omega) (by omega)]
  rw [Int.mul_comm] at hm
  omega
theorem znab1 {s : Int} (h2 : ¬ s % 2 = 0) (h7 : s % 7 = 0) : ¬ (s.natAbs : Int) % 14 = 0 ∧ (s.natAbs : Int) % 14 = 7 := by omega
theorem znab2 {s : Int} (h2 : ¬ s % 2 = 0) (h7 : ¬ s % 7 = 0) : ¬ (s.natAbs : Int) % 14 = 0 ∧ ¬ (s.natAbs : Int) % 14 = 7 ∧ ¬ (s.natAbs : Int) % 14 % 2 = 0 := by omega
theorem znab3 {s : Int} (h2 : s % 2 = 0) (h7 : ¬ s % 7 = 0) : ¬ (s.natAbs : Int) % 14 = 0 ∧ ¬ (s.natAbs : Int) % 14 = 7 ∧ (s.natAbs : Int) % 14 % 2 = 0 := by omega
theorem zmean_e {S : Int64} (h : -300000 ≤ S.toInt ∧ S.toInt ≤ 300000) : (zm7 (zm2 S)).1 = S / (zgcd 16 (if S < 0 then -S else S) 14) ∧ (zm7 (zm2 S)).2 = 14 / (zgcd 16 (if S < 0 then -S else S) 14) := by
  have hA : (if S < 0 then -S else S : Int64).toInt = (S.toInt.natAbs : Int) := by
    split
    · next h1 =>
      rw [Int64.lt_iff_toInt_lt, Int64.toInt_zero] at h1
      rw [Int64.toInt_neg, Int.bmod_eq_of_le (by omega) (by omega)]
      omega
    · next h1 =>
      rw [Int64.lt_iff_toInt_lt, Int64.toInt_zero] at h1
      omega
  rw [zgc_e (by omega) (by omega), hA]
  obtain ⟨d2, m2⟩ := zdv 2 (Or.inl rfl) h
  obtain ⟨d7, m7⟩ := zdv 7 (Or.inr (Or.inl rfl)) h
  obtain ⟨d14, -⟩ := zdv 14 (Or.inr (Or.inr rfl)) h
  rw [show (2 : Int64).toInt = 2 from rfl] at d2 m2
  rw [show (7 : Int64).toInt = 7 from rfl] at d7 m7
  rw [show (14 : Int64).toInt = 14 from rfl] at d14
  have t2 := Int.mul_tdiv_add_tmod S.toInt 2
  have t7 := Int.mul_tdiv_add_tmod S.toInt 7
  have x2 := ztd S.toInt 2
  have x7 := ztd S.toInt 7
  have x14 := ztd S.toInt 14
  have b2 : S.toInt.tmod 2 = 0 ↔ S.toInt % 2 = 0 := by
    split at x2 <;> omega
  have b7 : S.toInt.tmod 7 = 0 ↔ S.toInt % 7 = 0 := by
    split at x7 <;> omega
  by_cases c2 : lg_cmp (S - S / 2 * 2) 0 = 0
  · have e2 := b2.mp (m2.mp c2)
    have h2 : -300000 ≤ (S / 2).toInt ∧ (S / 2).toInt ≤ 300000 := by rw [d2]; split at x2 <;> omega
    obtain ⟨q7, n7⟩ := zdv (S := S / 2) 7 (Or.inr (Or.inl rfl)) h2
    rw [show (7 : Int64).toInt = 7 from rfl] at q7 n7
    have u7 := Int.mul_tdiv_add_tmod (S / 2).toInt 7
    have y7 := ztd (S / 2).toInt 7
    rw [d2] at q7 n7 u7 y7
    rw [zm2_y c2]
    by_cases c7 : lg_cmp (S / 2 - S / 2 / 7 * 7) 0 = 0
    · have e7 := n7.mp c7
      have h140 : S.toInt % 14 = 0 := by split at x2 <;> split at y7 <;> omega
      have h14 : (S.toInt.natAbs : Int) % 14 = 0 := by clear x2 x7 x14 y7 u7 t2 t7 b2 b7 d2 d7 d14 q7 n7 m2 m7 e7; omega
      rw [zm7_y c7, if_pos h14]
      refine ⟨zi64 ?_, show (14 / 2 / 7 : Int64) = 14 / 14 from by decide⟩
      show (S / 2 / 7).toInt = (S / 14).toInt
      rw [q7, d14]
      clear x7 t7 b7 d7 m7 m2 b2 n7 q7 d2 d14
      split at x2 <;> split at y7 <;> split at x14 <;> omega
    · have e7 : ¬ (S.toInt.tdiv 2).tmod 7 = 0 := fun z => c7 (n7.mpr z)
      have hr : zm7 (S / 2, 14 / 2) = (S / 2, 14 / 2) := if_neg c7
      have hne7 : ¬ S.toInt % 7 = 0 := by
        intro z
        apply e7
        split at x2 <;> split at y7 <;> omega
      have hz := znab3 e2 hne7
      rw [hr, if_neg hz.1, if_neg hz.2.1, if_pos hz.2.2]
      exact ⟨rfl, rfl⟩
  · have ho : ¬ S.toInt % 2 = 0 := fun z => c2 (m2.mpr (b2.mpr z))
    rw [zm2_n c2]
    by_cases c7 : lg_cmp (S - S / 7 * 7) 0 = 0
    · have e7 := b7.mp (m7.mp c7)
      have hz := znab1 ho e7
      rw [zm7_y c7, if_neg hz.1, if_pos hz.2]
      exact ⟨rfl, rfl⟩
    · have hne7 : ¬ S.toInt % 7 = 0 := fun z => c7 (m7.mpr (b7.mpr z))
      have hr : zm7 (S, 14) = (S, 14) := if_neg c7
      have hz := znab2 ho hne7
      rw [hr, if_neg hz.1, if_neg hz.2.1, if_neg hz.2.2]
      exact ⟨(Int64.div_one).symm, show (14 : Int64) = 14 / 1 from by decide⟩
theorem e_mean {G : zG} {x u1 u2 : zX} {N R L : Nat} {k : Int32} {r1 r2 : Int64} (H : zRl G x N R L) {b9 F C : Nat} (Q : zHl x b9 F C)
    (h1 : (¬ (k = 0 ∨ k = nI 1) ∧ x = u1 ∧ (-9223372036854775808) = r1) ∨ ((k = 0 ∨ k = nI 1) ∧ zT7 G x N b9 C u1 ∧ (if k = 0 then (zm7 (zm2 (zall u1 N))).1 else (zm7 (zm2 (zall u1 N))).2) = r1))
    (h2 : (¬ (¬ k < nI 0 ∧ ¬ nI 1 < k) ∧ u1 = u2 ∧ (-9223372036854775808) = r2) ∨ ((¬ k < nI 0 ∧ ¬ nI 1 < k) ∧ zQ97 u1 u2 ∧ (if k = 0 then zamR u1 N F C / (zgcd 16 (if zamR u1 N F C < 0 then -(zamR u1 N F C) else zamR u1 N F C) 14) else 14 / (zgcd 16 (if zamR u1 N F C < 0 then -(zamR u1 N F C) else zamR u1 N F C) 14)) = r2)) : r1 = r2 ∧ ∃ N R L, zRl G u2 N R L := by
  have hw : (k = 0 ∨ k = nI 1) ↔ (¬ k < nI 0 ∧ ¬ nI 1 < k) := z01
  rcases h1 with ⟨a1, rfl, rfl⟩ | ⟨a1, t7, rfl⟩
  · rcases h2 with ⟨a2, rfl, rfl⟩ | ⟨a2, -⟩
    · exact ⟨rfl, N, R, L, H⟩
    · exact absurd (hw.mpr a2) a1
  · rcases h2 with ⟨a2, -⟩ | ⟨a2, q, rfl⟩
    · exact absurd (hw.mp a1) a2
    obtain ⟨H1, Q1, tb⟩ := H.t7 Q t7
    obtain ⟨e1, e2⟩ := zall_e H1 Q1 tb
    obtain ⟨f1, f2⟩ := zmean_e e2
    refine ⟨?_, N, R, L, (H1.q9 Q1 q.q9).1⟩
    rw [f1, f2, e1]
