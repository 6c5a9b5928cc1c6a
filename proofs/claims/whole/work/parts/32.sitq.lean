/-! SEARCHES, in the class: how they begin, the best exchange, the worth of all pairs -/
def zputn (g f : Nat → Int32) (n : Nat) : Nat → Int32 := fun k => if k < n then g k else f k
theorem zput_0 {g f : Nat → Int32} : zputn g f 0 = f := funext fun k => if_neg (by omega)
theorem zput_s {g f : Nat → Int32} {j : Nat} : upd (zputn g f j) j (g j) = zputn g f (j + 1) := by
  funext k
  show (if k = j then g j else if k < j then g k else f k) = if k < j + 1 then g k else f k
  by_cases h : k = j
  · rw [if_pos h, if_pos (by omega), h]
  · rw [if_neg h]
    by_cases h2 : k < j
    · rw [if_pos h2, if_pos (by omega)]
    · rw [if_neg h2, if_neg (by omega)]
theorem zput_w {y : zX} {g f : Nat → Int32} {j i : Nat} : zsI (zsrI y i (zputn g f j)) i j (g j) = zsrI y i (zputn g f (j + 1)) := by
  rw [zsI_r, zsrI_u, zsrI_t, zput_s]
def zbg (x : zX) (g : Nat → Int32) : zX := zsrI (zsI (zsI (zsI x 11 5 (nI 0)) 11 6 (nI 0)) 11 7 (nI 0)) 15 (zputn g (x.1 15) 8)
theorem zrow_st {x u : zX} {t q : Nat} (h : zrow (x.1 15)) (ho : zOnly x u) (hq : q < 8) : zrow ((zsI u 15 t (nI q)).1 15) := by
  intro k hk
  rw [zsI_u, ho.2 15 (by decide) (by decide)]
  show (if k = t then nI q else x.1 15 k) = -1 ∨ _
  by_cases h2 : k = t
  · exact Or.inr ⟨q, hq, if_pos h2⟩
  · rw [show upd (x.1 15) t (nI q) k = x.1 15 k from if_neg h2, if_neg h2]
    exact h k hk
theorem zrow_g {x : zX} {g : Nat → Int32} (h : zrow g) : zrow ((zbg x g).1 15) := by
  intro k hk
  show zputn g (x.1 15) 8 k = -1 ∨ ∃ q, q < 8 ∧ zputn g (x.1 15) 8 k = nI q
  rw [show zputn g (x.1 15) 8 k = g k from if_pos hk]
  exact h k hk
theorem zrow_n : zrow (fun _ => -1) := fun _ _ => Or.inl rfl
/-- two places of the trial exchanged -/
def zxz (a b : Nat) (y : zX) : zX := zsI (zsI y 15 a (y.1 15 b)) 15 b (y.1 15 a)
theorem zxz_r {a b : Nat} {y : zX} (k : Nat) : (zxz a b y).1 15 k = if k = b then y.1 15 a else if k = a then y.1 15 b else y.1 15 k := by
  unfold zxz
  rw [zsI_u, zsI_u]
  rfl
theorem zxz_n {a b i : Nat} {y : zX} (h : i ≠ 15) : (zxz a b y).1 i = y.1 i := by
  unfold zxz
  rw [zsI_n h, zsI_n h]
theorem zrow_x {a b : Nat} {y : zX} (ha : a < 8) (hb : b < 8) (h : zrow (y.1 15)) : zrow ((zxz a b y).1 15) := by
  intro k hk
  rw [zxz_r]
  by_cases h1 : k = b
  · rw [if_pos h1]; exact h a ha
  · rw [if_neg h1]
    by_cases h2 : k = a
    · rw [if_pos h2]; exact h b hb
    · rw [if_neg h2]; exact h k hk
theorem zxz_o {a b : Nat} {y w : zX} (h : zOnly (zxz a b y) w) : zOnly y (zxz a b w) := by
  refine ⟨h.1, fun i h1 h2 => ?_⟩
  by_cases hi : i = 15
  · subst hi
    funext k
    have hr : ∀ t, w.1 15 t = (zxz a b y).1 15 t := fun t => congrFun (h.2 15 (by decide) (by decide)) t
    rw [zxz_r, hr, hr, hr, zxz_r, zxz_r, zxz_r]
    by_cases e1 : k = b
    · rw [if_pos e1]
      by_cases e2 : a = b
      · rw [if_pos e2, e1, e2]
      · rw [if_neg e2, if_pos rfl, e1]
    · rw [if_neg e1]
      by_cases e2 : k = a
      · rw [if_pos e2, if_pos rfl, e2]
      · rw [if_neg e2, if_neg e1, if_neg e2]
  · rw [zxz_n hi, h.2 i h1 h2, zxz_n hi]
def zxst (a b : Nat) (y : zX × Int32) : zX × Int32 := if y.1.1 15 a = -1 ∧ y.1.1 15 b = -1 then y else (zxz a b (zweigh (zxz a b y.1) (nI 2)), if zworse (zxz a b y.1) (nI 2) then y.2 else nI (10 * a + b))
theorem zxst_s {a b : Nat} {y : zX} {v : Int32} (h1 : y.1 15 a = -1) (h2 : y.1 15 b = -1) : zxst a b (y, v) = (y, v) := if_pos ⟨h1, h2⟩
theorem zxst_w {a b : Nat} {y : zX} {v : Int32} (h : ¬ (y.1 15 a = -1 ∧ y.1 15 b = -1)) (hw : zworse (zxz a b y) (nI 2)) : zxst a b (y, v) = (zxz a b (zweigh (zxz a b y) (nI 2)), v) :=
  (if_neg h).trans (congrArg (Prod.mk (zxz a b (zweigh (zxz a b y) (nI 2)))) (if_pos hw))
theorem zxst_b {a b : Nat} {y : zX} {v : Int32} (h : ¬ (y.1 15 a = -1 ∧ y.1 15 b = -1)) (hw : ¬ zworse (zxz a b y) (nI 2)) : zxst a b (y, v) = (zxz a b (zweigh (zxz a b y) (nI 2)), nI (10 * a + b)) :=
  (if_neg h).trans (congrArg (Prod.mk (zxz a b (zweigh (zxz a b y) (nI 2)))) (if_neg hw))
def zxin (a : Nat) : Nat → zX × Int32 → zX × Int32
  | 0, y => y
  | n + 1, y => zxst a (a + 1 + n) (zxin a n y)
def zxout : Nat → zX × Int32 → zX × Int32
  | 0, y => y
  | n + 1, y => zxin n (7 - n) (zxout n y)
theorem zb_10 {P : Prop} [Decidable P] : (if P then (nI 0) else (nI 1)) = (0 : Int32) ↔ P := by
  by_cases h : P
  · rw [if_pos h]; exact ⟨fun _ => h, fun _ => rfl⟩
  · rw [if_neg h]; exact ⟨fun q => absurd q (by decide), fun q => absurd q h⟩
/-- a sum of longs -/
def zsml (f : Nat → Int64) : Nat → Int64
  | 0 => 0
  | n + 1 => zsml f n + f n
theorem zsml_t {f : Nat → Int64} {i : Nat} {a b v : Int64} (h : a = b + zsml f i) (hf : f i = v) : a + v = b + zsml f (i + 1) := by rw [zsml, hf, h, Int64.add_assoc]
def zall (x : zX) (N : Nat) : Int64 := zsml (fun a => zsml (fun b => (zwa x a b 0 + zwa x a b 1).toInt64) N) N
