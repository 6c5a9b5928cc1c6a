/-! SITTINGS, in the class: what a row of sitters is worth, what it breaks, by the tables -/
abbrev zba (x : zX) (a b : Int32) (row : Nat) : Prop := zin 8 a ∧ zin 8 b ∧ ¬ a = b ∧ ¬ x.1 13 ((row * 8 + a.toNatClampNeg) * 8 + b.toNatClampNeg) = 0
def zwa (x : zX) (a b row : Nat) : Int32 := if a = b then nI 0 else x.1 12 ((row * 8 + a) * 8 + b)
/-- every seat is free, or one of eight sits there -/
def zrow (f : Nat → Int32) : Prop := ∀ t, t < 8 → f t = -1 ∨ ∃ q, q < 8 ∧ f t = nI q
def zdw (x : zX) (f : Nat → Int32) (d : Nat) : Int32 := if f (2 * d) < 0 ∨ f (2 * d + 1) < 0 then 0 else
  (zwa x (f (2 * d)).toNatClampNeg (f (2 * d + 1)).toNatClampNeg (d / 2) + zwa x (f (2 * d + 1)).toNatClampNeg (f (2 * d)).toNatClampNeg (d / 2)) - (zocc (f (2 * (d ^^^ 1))) + zocc (f (2 * (d ^^^ 1) + 1))) * (x.1 14 (f (2 * d)).toNatClampNeg + x.1 14 (f (2 * d + 1)).toNatClampNeg)
def zwor (x : zX) (f : Nat → Int32) : Int32 := zsum (zdw x f) 4
def zbr1 (x : zX) (f : Nat → Int32) : Nat → Int32 := zsum (fun d => if zba x (f (2 * d)) (f (2 * d + 1)) (d / 2) then 1 else 0)
def zbr2 (x : zX) (f : Nat → Int32) : Nat → Int32 := zsum (fun t => if zbit (x.1 1 4) (f (4 + t)) then 1 else 0)
def zbrk (x : zX) (f : Nat → Int32) (aim : Int32) : Int32 := (if aim = 0 then 0 else zbr1 x f 4) + (if aim = nI 1 then 0 else zbr2 x f 4)
def zBk (x : zX) (aim : Int32) : Int32 := if aim = nI 3 then nI 0 else zbrk x (x.1 15) aim
def zWk (x : zX) (aim : Int32) : Int32 := if aim = nI 3 then zlc (zpairs (x.1 15) &&& (x.2.1 1 5 ^^^ (-1))) else zwor x (x.1 15)
abbrev zworse (x : zX) (aim : Int32) : Prop := ¬ x.1 11 5 = 0 ∧ (x.1 11 6 < zBk x aim ∨ (zBk x aim = x.1 11 6 ∧ zWk x aim ≤ x.1 11 7))
def zkeep (x : zX) (b w : Int32) : zX := zsrI (zsI (zsI (zsI x 11 5 (nI 1)) 11 6 b) 11 7 w) 16 (va_cpy (x.1 15) (x.1 16) 0 0 8)
def zweigh (x : zX) (aim : Int32) : zX := if zworse x aim then x else zkeep x (zBk x aim) (zWk x aim)
abbrev zunl (f : Nat → Int32) (t : Nat) : Prop := f t = -1 ∧ ¬ (t % 2 = 1 ∧ f (t - 1) = -1) ∧ (t / 2 % 2 = 0 ∨ 0 < zocc (f (2 * (t / 2 - 1))) + zocc (f (2 * (t / 2 - 1) + 1)))
/-- the sitting of the pupils from q on, seat by seat; d: how many are left -/
def zplc (aim : Int32) : Nat → Nat → zX → zX
  | 0, _, x => zweigh x aim
  | d + 1, q, x => zfold8 (fun t y => if zunl (y.1 15) t then zsI (zplc aim d (q + 1) (zsI y 15 t (nI q))) 15 t (-1) else y) 8 x
where zfold8 (f : Nat → zX → zX) : Nat → zX → zX
  | 0, x => x
  | n + 1, x => f n (zfold8 f n x)
theorem zpar1 {t : Nat} (ht : t < 8) : (nI t &&& nI 1) = nI 1 ↔ t % 2 = 1 := by
  have hd : ∀ i : Fin 8, (nI i.val &&& nI 1) = nI 1 ↔ i.val % 2 = 1 := by decide +kernel
  exact hd ⟨t, ht⟩
theorem zpar2 {t : Nat} (ht : t < 8) : (nI t &&& nI 2) = (0 : Int32) ↔ t / 2 % 2 = 0 := by
  have hd : ∀ i : Fin 8, (nI i.val &&& nI 2) = (0 : Int32) ↔ i.val / 2 % 2 = 0 := by decide +kernel
  exact hd ⟨t, ht⟩
theorem zxor4 {d : Nat} (h : d < 4) : d ^^^ 1 < 4 := by
  have hd : ∀ i : Fin 4, i.val ^^^ 1 < 4 := by decide +kernel
  exact hd ⟨d, h⟩
theorem z_asub (a b c : Int32) : (a + b) - c = a + (b - c) := by
  rw [Int32.sub_eq_add_neg, Int32.sub_eq_add_neg, Int32.add_assoc]
