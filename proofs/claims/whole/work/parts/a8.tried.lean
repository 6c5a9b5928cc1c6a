/-! THE CLASS'S SEARCH goes through those that are tried -/
/-- what a row is worth, in the class -/
def zVc (v : zX) (aim : Int32) (f : Nat → Int32) : Int32 × Int32 := (if aim = nI 3 then nI 0 else zbrk v f aim, if aim = nI 3 then zlc (zpairs f &&& (v.2.1 1 5 ^^^ (-1))) else zwor v f)
theorem zwor_u {u v : zX} {f : Nat → Int32} (e12 : u.1 12 = v.1 12) (e14 : u.1 14 = v.1 14) : zwor u f = zwor v f := by
  refine zsum_c (fun d _ => ?_)
  unfold zdw zwa
  rw [e12, e14]
theorem zbrk_u {u v : zX} {f : Nat → Int32} {aim : Int32} (e13 : u.1 13 = v.1 13) (e1 : u.1 1 = v.1 1) : zbrk u f aim = zbrk v f aim := by
  unfold zbrk zbr1 zbr2 zba
  rw [e13, e1]
theorem zVc_z {v z : zX} {aim : Int32} (h : zSr v z) : zBk z aim = (zVc v aim (z.1 15)).1 ∧ zWk z aim = (zVc v aim (z.1 15)).2 := by
  have e12 := h.2 12 (by omega) (by omega) (by omega)
  have e13 := h.2 13 (by omega) (by omega) (by omega)
  have e14 := h.2 14 (by omega) (by omega) (by omega)
  have e1 := h.2 1 (by omega) (by omega) (by omega)
  unfold zBk zWk zVc
  rw [zbrk_u e13 e1, zwor_u e12 e14, h.1]
  exact ⟨rfl, rfl⟩
theorem zVc_c {v : zX} {aim : Int32} {f g : Nat → Int32} (e : ∀ k, k < 8 → g k = f k) : zVc v aim g = zVc v aim f := by
  have h1 : zbrk v g aim = zbrk v f aim := by
    unfold zbrk
    congr 1
    · have : zbr1 v g 4 = zbr1 v f 4 := zsum_c (fun d hd => by rw [e (2 * d) (by omega), e (2 * d + 1) (by omega)])
      rw [this]
    · have : zbr2 v g 4 = zbr2 v f 4 := zsum_c (fun t ht => by rw [e (4 + t) (by omega)])
      rw [this]
  have h2 : zwor v g = zwor v f := zsum_c (fun d hd => by
    have h9 := zxor4 hd
    unfold zdw
    rw [e (2 * d) (by omega), e (2 * d + 1) (by omega), e (2 * (d ^^^ 1)) (by omega), e (2 * (d ^^^ 1) + 1) (by omega)])
  have h3 : zpairs g = zpairs f := by
    unfold zpairs
    show ((((0 : Int64) ||| zpair (g 0) (g 1)) ||| zpair (g 2) (g 3)) ||| zpair (g 4) (g 5)) ||| zpair (g 6) (g 7) = ((((0 : Int64) ||| zpair (f 0) (f 1)) ||| zpair (f 2) (f 3)) ||| zpair (f 4) (f 5)) ||| zpair (f 6) (f 7)
    rw [e 0 (by omega), e 1 (by omega), e 2 (by omega), e 3 (by omega), e 4 (by omega), e 5 (by omega), e 6 (by omega), e 7 (by omega)]
  unfold zVc
  rw [h1, h2, h3]
theorem zHas_c {z : zX} {T : zB3} {B W : Int32} {f g : Nat → Int32} (h : zHas z (zcon T B W g)) (e : ∀ k, k < 8 → g k = f k) : zHas z (zcon T B W f) := by
  match T, h with
  | none, h => exact ⟨h.1, h.2.1, h.2.2.1, fun k hk => (h.2.2.2 k hk).trans (e k hk)⟩
  | some (b, w, g9), h =>
    show zHas z (if b < B ∨ (B = b ∧ W ≤ w) then some (b, w, g9) else some (B, W, f))
    have h2 : zHas z (if b < B ∨ (B = b ∧ W ≤ w) then some (b, w, g9) else some (B, W, g)) := h
    by_cases c : b < B ∨ (B = b ∧ W ≤ w)
    · rw [if_pos c] at h2 ⊢
      exact h2
    · rw [if_neg c] at h2 ⊢
      exact ⟨h2.1, h2.2.1, h2.2.2.1, fun k hk => (h2.2.2.2 k hk).trans (e k hk)⟩
theorem zHas_s {z : zX} {T : zB3} {t : Nat} {w : Int32} (h : zHas z T) : zHas (zsI z 15 t w) T := by
  match T, h with
  | none, h => exact h
  | some (b, w, g), h => exact h
theorem zunl_c {f g : Nat → Int32} {t : Nat} (ht : t < 8) (e : ∀ k, k < 8 → g k = f k) : zunl g t ↔ zunl f t := by
  unfold zunl
  rw [e t ht, e (t - 1) (by omega), e (2 * (t / 2 - 1)) (by omega), e (2 * (t / 2 - 1) + 1) (by omega)]
theorem zplc_e {v : zX} {aim : Int32} : ∀ (d q : Nat) (z : zX) (T : zB3) (f : Nat → Int32), zSr v z → (∀ k, k < 8 → z.1 15 k = f k) → zHas z T → zHas (zplc aim d q z) (zcmb T (zP (zVc v aim) d q f))
  | 0, q, z, T, f, hs, hz, hh => by
    have h := zweigh_h (aim := aim) hh
    obtain ⟨e1, e2⟩ := zVc_z (aim := aim) hs
    rw [e1, e2, zVc_c (v := v) (aim := aim) hz] at h
    exact zHas_c h hz
  | d + 1, q, z, T, f, hs, hz, hh => by
    have key : ∀ n, n ≤ 8 → zHas (zplc.zfold8 (fun t y => if zunl (y.1 15) t then zsI (zplc aim d (q + 1) (zsI y 15 t (nI q))) 15 t (-1) else y) n z) (zcmb T (zfl (fun t => if zunl f t then zP (zVc v aim) d (q + 1) (upd f t (nI q)) else none) n)) ∧ zSr v (zplc.zfold8 (fun t y => if zunl (y.1 15) t then zsI (zplc aim d (q + 1) (zsI y 15 t (nI q))) 15 t (-1) else y) n z) ∧ ∀ k, k < 8 → (zplc.zfold8 (fun t y => if zunl (y.1 15) t then zsI (zplc aim d (q + 1) (zsI y 15 t (nI q))) 15 t (-1) else y) n z).1 15 k = f k := by
      intro n
      induction n with
      | zero => intro _; exact ⟨hh, hs, hz⟩
      | succ n ih =>
        intro hn
        obtain ⟨i1, i2, i3⟩ := ih (by omega)
        rw [zplc.zfold8]
        generalize zplc.zfold8 (fun t y => if zunl (y.1 15) t then zsI (zplc aim d (q + 1) (zsI y 15 t (nI q))) 15 t (-1) else y) n z = y at *
        show zHas (if zunl (y.1 15) n then zsI (zplc aim d (q + 1) (zsI y 15 n (nI q))) 15 n (-1) else y) _ ∧ zSr v (if zunl (y.1 15) n then zsI (zplc aim d (q + 1) (zsI y 15 n (nI q))) 15 n (-1) else y) ∧ ∀ k, k < 8 → (if zunl (y.1 15) n then zsI (zplc aim d (q + 1) (zsI y 15 n (nI q))) 15 n (-1) else y).1 15 k = f k
        rw [zfl]
        have hu := zunl_c (by omega : n < 8) i3
        by_cases c : zunl f n
        · rw [if_pos c, if_pos (hu.mpr c), ← zcmb_a]
          have hs2 : zSr v (zsI y 15 n (nI q)) := ⟨i2.1, fun i h1 h2 h3 => (zsI_n h2).trans (i2.2 i h1 h2 h3)⟩
          have hz2 : ∀ k, k < 8 → (zsI y 15 n (nI q)).1 15 k = upd f n (nI q) k := fun k hk => by
            rw [zsI_u]
            show (if k = n then nI q else y.1 15 k) = (if k = n then nI q else f k)
            rw [i3 k hk]
          have ho := zplc_o aim d (q + 1) (zsI y 15 n (nI q))
          refine ⟨zHas_s (zplc_e d (q + 1) _ _ _ hs2 hz2 (zHas_s i1)), ?_, fun k hk => ?_⟩
          · have h3 := hs2.o ho
            exact ⟨h3.1, fun i h1 h2 h4 => (zsI_n h2).trans (h3.2 i h1 h2 h4)⟩
          · rw [zsI_u, ho.2 15 (by omega) (by omega)]
            show (if k = n then -1 else (zsI y 15 n (nI q)).1 15 k) = f k
            by_cases e : k = n
            · rw [if_pos e, e]
              exact c.1.symm
            · rw [if_neg e, hz2 k hk]
              exact if_neg e
        · rw [if_neg c, if_neg (fun z9 => c (hu.mp z9))]
          exact ⟨i1, i2, i3⟩
    exact (key 8 (Nat.le_refl 8)).1
/-! what a row is worth, turned round -/
theorem zsum4 (h : Nat → Int32) : zsum h 4 = h 0 + h 1 + h 2 + h 3 := by
  show 0 + h 0 + h 1 + h 2 + h 3 = _
  rw [Int32.zero_add]
theorem zsum4_p {h g : Nat → Int32} {s : Nat → Nat} (hs : (s 0 = 0 ∧ s 1 = 1 ∧ s 2 = 2 ∧ s 3 = 3) ∨ (s 0 = 1 ∧ s 1 = 0 ∧ s 2 = 2 ∧ s 3 = 3) ∨ (s 0 = 0 ∧ s 1 = 1 ∧ s 2 = 3 ∧ s 3 = 2) ∨ (s 0 = 2 ∧ s 1 = 3 ∧ s 2 = 0 ∧ s 3 = 1)) (e : ∀ k, k < 4 → g k = h (s k)) : zsum g 4 = zsum h 4 := by
  rw [zsum4, zsum4, e 0 (by omega), e 1 (by omega), e 2 (by omega), e 3 (by omega)]
  rcases hs with ⟨h0, h1, h2, h3⟩ | ⟨h0, h1, h2, h3⟩ | ⟨h0, h1, h2, h3⟩ | ⟨h0, h1, h2, h3⟩ <;> rw [h0, h1, h2, h3] <;> grind
theorem zpair_s (a b : Int32) : zpair a b = zpair b a := by
  unfold zpair
  by_cases c1 : a < b
  · have c2 : ¬ b < a := fun z => by rw [Int32.lt_iff_toInt_lt] at c1 z; omega
    rw [if_neg c2, if_pos c1, if_pos c1, if_neg c2]
  · by_cases c2 : b < a
    · rw [if_pos c2, if_neg c1, if_neg c1, if_pos c2]
    · have e : a = b := by
        rw [Int32.lt_iff_toInt_lt] at c1 c2
        exact Int32.toInt_inj.mp (by omega)
      rw [e]
theorem zpairs_4 (f : Nat → Int32) : zpairs f = ((zpair (f 0) (f 1) ||| zpair (f 2) (f 3)) ||| zpair (f 4) (f 5)) ||| zpair (f 6) (f 7) := by
  show ((((0 : Int64) ||| zpair (f 0) (f 1)) ||| zpair (f 2) (f 3)) ||| zpair (f 4) (f 5)) ||| zpair (f 6) (f 7) = _
  rw [Int64.zero_or]
theorem zorl_x (a b c d : Int64) : ((b ||| a) ||| c) ||| d = ((a ||| b) ||| c) ||| d := by rw [Int64.or_comm b a]
theorem zorl_y (a b c d : Int64) : ((a ||| b) ||| d) ||| c = ((a ||| b) ||| c) ||| d := by rw [Int64.or_assoc, Int64.or_comm d c, ← Int64.or_assoc]
theorem zdw_2 {v : zX} {f g : Nat → Int32} {d : Nat} (h0 : g (2 * d) = f (2 * d + 1)) (h1 : g (2 * d + 1) = f (2 * d)) (h2 : zocc (g (2 * (d ^^^ 1))) + zocc (g (2 * (d ^^^ 1) + 1)) = zocc (f (2 * (d ^^^ 1))) + zocc (f (2 * (d ^^^ 1) + 1))) : zdw v g d = zdw v f d := by
  unfold zdw
  rw [h0, h1, h2]
  by_cases c : f (2 * d) < 0 ∨ f (2 * d + 1) < 0
  · rw [if_pos c, if_pos c.symm]
  · rw [if_neg c, if_neg (fun z => c z.symm), Int32.add_comm (zwa v (f (2 * d + 1)).toNatClampNeg (f (2 * d)).toNatClampNeg (d / 2)), Int32.add_comm (v.1 14 (f (2 * d + 1)).toNatClampNeg)]
theorem zdw_3 {v : zX} {f g : Nat → Int32} {d e : Nat} (h0 : g (2 * d) = f (2 * e)) (h1 : g (2 * d + 1) = f (2 * e + 1)) (h2 : zocc (g (2 * (d ^^^ 1))) + zocc (g (2 * (d ^^^ 1) + 1)) = zocc (f (2 * (e ^^^ 1))) + zocc (f (2 * (e ^^^ 1) + 1))) (h3 : d / 2 = e / 2) : zdw v g d = zdw v f e := by
  unfold zdw
  rw [h0, h1, h2, h3]
/-- tables in which a bar binds both -/
def zBs (N : Nat) (v : zX) : Prop := ∀ a b r, r < 2 → a < N → b < N → ¬ a = b → (v.1 13 ((r * 8 + a) * 8 + b) = 0 ↔ v.1 13 ((r * 8 + b) * 8 + a) = 0)
theorem zba_s {N : Nat} {v : zX} {a b : Int32} {r : Nat} (h8 : N ≤ 8) (hB : zBs N v) (hr : r < 2) (ha : a = -1 ∨ ∃ q, q < N ∧ a = nI q) (hb : b = -1 ∨ ∃ q, q < N ∧ b = nI q) : zba v a b r ↔ zba v b a r := by
  unfold zba
  rcases ha with rfl | ⟨p, hp, rfl⟩
  · exact ⟨fun z => absurd z.1.1 (by decide), fun z => absurd z.2.1.1 (by decide)⟩
  · rcases hb with rfl | ⟨q, hq, rfl⟩
    · exact ⟨fun z => absurd z.2.1.1 (by decide), fun z => absurd z.1.1 (by decide)⟩
    · rw [nI_clamp (by omega), nI_clamp (by omega)]
      constructor
      · rintro ⟨z1, z2, z3, z4⟩
        exact ⟨z2, z1, fun z => z3 z.symm, fun z => z4 ((hB p q r hr hp hq (fun y => z3 (by rw [y]))).mpr z)⟩
      · rintro ⟨z1, z2, z3, z4⟩
        exact ⟨z2, z1, fun z => z3 z.symm, fun z => z4 ((hB p q r hr hp hq (fun y => z3 (by rw [y]))).mp z)⟩
/-- seats of a desk exchanged -/
theorem zVc_1 {N : Nat} {v : zX} {aim : Int32} (h8 : N ≤ 8) (hB : zBs N v) {e : Nat} (he : e < 4) : zSy (zVc v aim) (zRw N) (zs1 e) := by
  refine ⟨fun t ht => zs1_s ⟨e, he⟩ ⟨t, ht⟩, fun f g hf hg h => ?_⟩
  have hx : ∀ d, d < 4 → (d = e → g (2 * d) = f (2 * d + 1) ∧ g (2 * d + 1) = f (2 * d)) ∧ (¬ d = e → g (2 * d) = f (2 * d) ∧ g (2 * d + 1) = f (2 * d + 1)) := fun d hd => by
    have x0 : (2 * d) ^^^ 1 = 2 * d + 1 ∧ (2 * d + 1) ^^^ 1 = 2 * d := by
      rcases (show d = 0 ∨ d = 1 ∨ d = 2 ∨ d = 3 by omega) with rfl | rfl | rfl | rfl <;> decide
    have g0 := h (2 * d) (by omega)
    have g1 := h (2 * d + 1) (by omega)
    unfold zs1 at g0 g1
    refine ⟨fun z => ?_, fun z => ?_⟩
    · rw [if_pos (by omega), x0.1] at g0
      rw [if_pos (by omega), x0.2] at g1
      exact ⟨g0, g1⟩
    · rw [if_neg (by omega)] at g0 g1
      exact ⟨g0, g1⟩
  have hoc : ∀ d, d < 4 → zocc (g (2 * d)) + zocc (g (2 * d + 1)) = zocc (f (2 * d)) + zocc (f (2 * d + 1)) := fun d hd => by
    by_cases c : d = e
    · rw [((hx d hd).1 c).1, ((hx d hd).1 c).2, Int32.add_comm]
    · rw [((hx d hd).2 c).1, ((hx d hd).2 c).2]
  have hw : zwor v g = zwor v f := zsum_c (fun d hd => by
    by_cases c : d = e
    · exact zdw_2 ((hx d hd).1 c).1 ((hx d hd).1 c).2 (hoc _ (zxor4 hd))
    · exact zdw_3 ((hx d hd).2 c).1 ((hx d hd).2 c).2 (hoc _ (zxor4 hd)) rfl)
  have hb1 : zbr1 v g 4 = zbr1 v f 4 := zsum_c (fun d hd => by
    by_cases c : d = e
    · rw [((hx d hd).1 c).1, ((hx d hd).1 c).2]
      exact zif_c (zba_s h8 hB (by omega) (hf.1 _ (by omega)) (hf.1 _ (by omega)))
    · rw [((hx d hd).2 c).1, ((hx d hd).2 c).2])
  have hb2 : zbr2 v g 4 = zbr2 v f 4 := by
    refine zsum4_p (s := fun k => zs1 e (4 + k) - 4) ?_ (fun k hk => ?_)
    · rcases (show e = 0 ∨ e = 1 ∨ e = 2 ∨ e = 3 by omega) with rfl | rfl | rfl | rfl <;> decide
    · have e9 : 4 + (zs1 e (4 + k) - 4) = zs1 e (4 + k) := by
        have hd : ∀ e : Fin 4, ∀ k : Fin 4, 4 + (zs1 e.val (4 + k.val) - 4) = zs1 e.val (4 + k.val) := by decide +kernel
        exact hd ⟨e, he⟩ ⟨k, hk⟩
      rw [e9, h (4 + k) (by omega)]
  have hp : zpairs g = zpairs f := by
    have e1 : ∀ d, d < 4 → zpair (g (2 * d)) (g (2 * d + 1)) = zpair (f (2 * d)) (f (2 * d + 1)) := fun d hd => by
      by_cases c : d = e
      · rw [((hx d hd).1 c).1, ((hx d hd).1 c).2, zpair_s]
      · rw [((hx d hd).2 c).1, ((hx d hd).2 c).2]
    rw [zpairs_4, zpairs_4, e1 0 (by omega), e1 1 (by omega), e1 2 (by omega), e1 3 (by omega)]
  unfold zVc zbrk
  rw [hw, hb1, hb2, hp]
/-- desks of a row exchanged -/
theorem zVc_2 {N : Nat} {v : zX} {aim : Int32} {r : Nat} (hr : r < 2) : zSy (zVc v aim) (zRw N) (zs2 r) := by
  refine ⟨fun t ht => zs2_s ⟨r, hr⟩ ⟨t, ht⟩, fun f g hf hg h => ?_⟩
  have hx : ∀ d, d < 4 → g (2 * d) = f (2 * (if d / 2 = r then d ^^^ 1 else d)) ∧ g (2 * d + 1) = f (2 * (if d / 2 = r then d ^^^ 1 else d) + 1) := fun d hd => by
    have g0 := h (2 * d) (by omega)
    have g1 := h (2 * d + 1) (by omega)
    have hd9 : ∀ r : Fin 2, ∀ d : Fin 4, zs2 r.val (2 * d.val) = 2 * (if d.val / 2 = r.val then d.val ^^^ 1 else d.val) ∧ zs2 r.val (2 * d.val + 1) = 2 * (if d.val / 2 = r.val then d.val ^^^ 1 else d.val) + 1 := by decide +kernel
    obtain ⟨k0, k1⟩ := hd9 ⟨r, hr⟩ ⟨d, hd⟩
    dsimp only at k0 k1
    rw [k0] at g0
    rw [k1] at g1
    exact ⟨g0, g1⟩
  have hd8 : ∀ r : Fin 2, ∀ d : Fin 4, (if (d.val ^^^ 1) / 2 = r.val then (d.val ^^^ 1) ^^^ 1 else d.val ^^^ 1) = (if d.val / 2 = r.val then d.val ^^^ 1 else d.val) ^^^ 1 ∧ d.val / 2 = (if d.val / 2 = r.val then d.val ^^^ 1 else d.val) / 2 := by decide +kernel
  have hp4 : ∀ r : Fin 2, ((if 0 / 2 = r.val then 0 ^^^ 1 else 0) = 0 ∧ (if 1 / 2 = r.val then 1 ^^^ 1 else 1) = 1 ∧ (if 2 / 2 = r.val then 2 ^^^ 1 else 2) = 2 ∧ (if 3 / 2 = r.val then 3 ^^^ 1 else 3) = 3) ∨ ((if 0 / 2 = r.val then 0 ^^^ 1 else 0) = 1 ∧ (if 1 / 2 = r.val then 1 ^^^ 1 else 1) = 0 ∧ (if 2 / 2 = r.val then 2 ^^^ 1 else 2) = 2 ∧ (if 3 / 2 = r.val then 3 ^^^ 1 else 3) = 3) ∨ ((if 0 / 2 = r.val then 0 ^^^ 1 else 0) = 0 ∧ (if 1 / 2 = r.val then 1 ^^^ 1 else 1) = 1 ∧ (if 2 / 2 = r.val then 2 ^^^ 1 else 2) = 3 ∧ (if 3 / 2 = r.val then 3 ^^^ 1 else 3) = 2) ∨ ((if 0 / 2 = r.val then 0 ^^^ 1 else 0) = 2 ∧ (if 1 / 2 = r.val then 1 ^^^ 1 else 1) = 3 ∧ (if 2 / 2 = r.val then 2 ^^^ 1 else 2) = 0 ∧ (if 3 / 2 = r.val then 3 ^^^ 1 else 3) = 1) := by decide +kernel
  have hw : zwor v g = zwor v f := by
    refine zsum4_p (s := fun d => if d / 2 = r then d ^^^ 1 else d) (hp4 ⟨r, hr⟩) (fun d hd => ?_)
    obtain ⟨k0, k1⟩ := hd8 ⟨r, hr⟩ ⟨d, hd⟩
    dsimp only at k0 k1
    obtain ⟨y0, y1⟩ := hx (d ^^^ 1) (zxor4 hd)
    rw [k0] at y0 y1
    exact zdw_3 (hx d hd).1 (hx d hd).2 (by rw [y0, y1]) k1
  have hb1 : zbr1 v g 4 = zbr1 v f 4 := by
    refine zsum4_p (s := fun d => if d / 2 = r then d ^^^ 1 else d) (hp4 ⟨r, hr⟩) (fun d hd => ?_)
    obtain ⟨k0, k1⟩ := hd8 ⟨r, hr⟩ ⟨d, hd⟩
    dsimp only at k0 k1 ⊢
    rw [(hx d hd).1, (hx d hd).2, ← k1]
  have hb2 : zbr2 v g 4 = zbr2 v f 4 := by
    refine zsum4_p (s := fun k => zs2 r (4 + k) - 4) ?_ (fun k hk => ?_)
    · rcases (show r = 0 ∨ r = 1 by omega) with rfl | rfl <;> decide
    · have e9 : 4 + (zs2 r (4 + k) - 4) = zs2 r (4 + k) := by
        have hd : ∀ r : Fin 2, ∀ k : Fin 4, 4 + (zs2 r.val (4 + k.val) - 4) = zs2 r.val (4 + k.val) := by decide +kernel
        exact hd ⟨r, hr⟩ ⟨k, hk⟩
      rw [e9, h (4 + k) (by omega)]
  have hp : zpairs g = zpairs f := by
    have h0 := hx 0 (by omega)
    have h1 := hx 1 (by omega)
    have h2 := hx 2 (by omega)
    have h3 := hx 3 (by omega)
    rw [zpairs_4, zpairs_4]
    rcases (show r = 0 ∨ r = 1 by omega) with rfl | rfl
    · have a0 : g 0 = f 2 := h0.1
      have a1 : g 1 = f 3 := h0.2
      have a2 : g 2 = f 0 := h1.1
      have a3 : g 3 = f 1 := h1.2
      have a4 : g 4 = f 4 := h2.1
      have a5 : g 5 = f 5 := h2.2
      have a6 : g 6 = f 6 := h3.1
      have a7 : g 7 = f 7 := h3.2
      rw [a0, a1, a2, a3, a4, a5, a6, a7, zorl_x]
    · have a0 : g 0 = f 0 := h0.1
      have a1 : g 1 = f 1 := h0.2
      have a2 : g 2 = f 2 := h1.1
      have a3 : g 3 = f 3 := h1.2
      have a4 : g 4 = f 6 := h2.1
      have a5 : g 5 = f 7 := h2.2
      have a6 : g 6 = f 4 := h3.1
      have a7 : g 7 = f 5 := h3.2
      rw [a0, a1, a2, a3, a4, a5, a6, a7, zorl_y]
  unfold zVc zbrk
  rw [hw, hb1, hb2, hp]
/-- what the class finds -/
theorem zsrch_e {N : Nat} {v : zX} {aim : Int32} (h8 : N ≤ 8) (hB : zBs N v) : zHas (zplc aim N 0 (zbg v (fun _ => -1))) (zM (zVc v aim) N 0 (fun _ => -1)) := by
  have h0 : zHas (zbg v (fun _ => -1)) none := rfl
  have h := zplc_e (v := v) (aim := aim) N 0 _ none (fun _ => -1) zSr.b (fun k hk => if_pos hk) h0
  rw [zcmb_0, zP_e (V := zVc v aim) (N := N) (fun d hd => zVc_1 h8 hB hd) (fun r hr => zVc_2 hr) N 0 _ (by omega) (by omega) ⟨fun t _ => Or.inl rfl, fun t t2 _ _ _ h1 _ => absurd rfl h1⟩ ⟨fun t _ _ h => absurd rfl h, fun t _ _ h => absurd rfl h⟩] at h
  exact h
