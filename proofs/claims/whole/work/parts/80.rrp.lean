/-! READING A TEXT, in the reference: its marks and piles -/
/-- the reference as it reads: at, signs, waiting, open, digits, and what the two piles hold -/
def zrr (x : zX) (p s n : Nat) (o d : Int32) (w4 w5 : Nat → Int32) : zX := zsrI (zsrI (zsI (zsI (zsI (zsI (zsI x 77 15 (nI p)) 77 16 d) 77 25 (nI s)) 77 26 (nI n)) 77 27 o) 94 w4) 95 w5
section ZRR
variable {x : zX} {p s n q : Nat} {o d y : Int32} {w4 w5 : Nat → Int32}
theorem zrr_7r : (zrr x p s n o d w4 w5).1 77 = upd (upd (upd (upd (upd (x.1 77) 15 (nI p)) 16 d) 25 (nI s)) 26 (nI n)) 27 o := rfl
theorem zrr_n {i : Nat} (h1 : i ≠ 77) (h2 : i ≠ 94) (h3 : i ≠ 95) : (zrr x p s n o d w4 w5).1 i = x.1 i := by
  unfold zrr
  rw [zsrI_n h3, zsrI_n h2, zsI_n h1, zsI_n h1, zsI_n h1, zsI_n h1, zsI_n h1]
theorem zrr_x {u v : zX} (h7 : u.1 77 = v.1 77) (h4 : u.1 94 = v.1 94) (h5 : u.1 95 = v.1 95) (h : ∀ i, i ≠ 77 → i ≠ 94 → i ≠ 95 → u.1 i = v.1 i) (h2 : u.2 = v.2) : u = v := by
  refine Prod.ext (funext fun i => ?_) h2
  by_cases a : i = 77
  · rw [a]; exact h7
  · by_cases b : i = 94
    · rw [b]; exact h4
    · by_cases c : i = 95
      · rw [c]; exact h5
      · exact h i a b c
theorem zu5 {f : Nat → Int32} {a b c e g z : Int32} : upd (upd (upd (upd (upd (upd f 15 a) 16 b) 25 c) 26 e) 27 g) 15 z = upd (upd (upd (upd (upd f 15 z) 16 b) 25 c) 26 e) 27 g ∧ upd (upd (upd (upd (upd (upd f 15 a) 16 b) 25 c) 26 e) 27 g) 16 z = upd (upd (upd (upd (upd f 15 a) 16 z) 25 c) 26 e) 27 g ∧ upd (upd (upd (upd (upd (upd f 15 a) 16 b) 25 c) 26 e) 27 g) 25 z = upd (upd (upd (upd (upd f 15 a) 16 b) 25 z) 26 e) 27 g ∧ upd (upd (upd (upd (upd (upd f 15 a) 16 b) 25 c) 26 e) 27 g) 26 z = upd (upd (upd (upd (upd f 15 a) 16 b) 25 c) 26 z) 27 g ∧ upd (upd (upd (upd (upd (upd f 15 a) 16 b) 25 c) 26 e) 27 g) 27 z = upd (upd (upd (upd (upd f 15 a) 16 b) 25 c) 26 e) 27 z := by
  refine ⟨?_, ?_, ?_, ?_, ?_⟩ <;>
  · funext k
    unfold upd
    by_cases k1 : k = 15
    · simp [k1]
    · by_cases k2 : k = 16
      · simp [k2]
      · by_cases k3 : k = 25
        · simp [k3]
        · by_cases k4 : k = 26
          · simp [k4]
          · by_cases k5 : k = 27
            · simp [k5]
            · simp [k1, k2, k3, k4, k5]
theorem zrr_15 : zsI (zrr x p s n o d w4 w5) 77 15 (nI q) = zrr x q s n o d w4 w5 := zrr_x (by rw [zsI_u, zrr_7r, zrr_7r]; exact zu5.1) (zsI_n (by decide)) (zsI_n (by decide)) (fun i h1 h2 h3 => by rw [zsI_n h1, zrr_n h1 h2 h3, zrr_n h1 h2 h3]) rfl
theorem zrr_16 : zsI (zrr x p s n o d w4 w5) 77 16 y = zrr x p s n o y w4 w5 := zrr_x (by rw [zsI_u, zrr_7r, zrr_7r]; exact zu5.2.1) (zsI_n (by decide)) (zsI_n (by decide)) (fun i h1 h2 h3 => by rw [zsI_n h1, zrr_n h1 h2 h3, zrr_n h1 h2 h3]) rfl
theorem zrr_25 : zsI (zrr x p s n o d w4 w5) 77 25 (nI q) = zrr x p q n o d w4 w5 := zrr_x (by rw [zsI_u, zrr_7r, zrr_7r]; exact zu5.2.2.1) (zsI_n (by decide)) (zsI_n (by decide)) (fun i h1 h2 h3 => by rw [zsI_n h1, zrr_n h1 h2 h3, zrr_n h1 h2 h3]) rfl
theorem zrr_26 : zsI (zrr x p s n o d w4 w5) 77 26 (nI q) = zrr x p s q o d w4 w5 := zrr_x (by rw [zsI_u, zrr_7r, zrr_7r]; exact zu5.2.2.2.1) (zsI_n (by decide)) (zsI_n (by decide)) (fun i h1 h2 h3 => by rw [zsI_n h1, zrr_n h1 h2 h3, zrr_n h1 h2 h3]) rfl
theorem zrr_27 : zsI (zrr x p s n o d w4 w5) 77 27 y = zrr x p s n y d w4 w5 := zrr_x (by rw [zsI_u, zrr_7r, zrr_7r]; exact zu5.2.2.2.2) (zsI_n (by decide)) (zsI_n (by decide)) (fun i h1 h2 h3 => by rw [zsI_n h1, zrr_n h1 h2 h3, zrr_n h1 h2 h3]) rfl
theorem zrr_94 : zsI (zrr x p s n o d w4 w5) 94 q y = zrr x p s n o d (upd w4 q y) w5 := zrr_x (zsI_n (by decide)) zsI_u (zsI_n (by decide)) (fun i h1 h2 h3 => by rw [zsI_n h2, zrr_n h1 h2 h3, zrr_n h1 h2 h3]) rfl
theorem zrr_95 : zsI (zrr x p s n o d w4 w5) 95 q y = zrr x p s n o d w4 (upd w5 q y) := zrr_x (zsI_n (by decide)) (zsI_n (by decide)) zsI_u (fun i h1 h2 h3 => by rw [zsI_n h3, zrr_n h1 h2 h3, zrr_n h1 h2 h3]) rfl
theorem zrr_o {i : Nat} (a : i ≠ 77) (b : i ≠ 94) (c : i ≠ 95) : zsI (zrr x p s n o d w4 w5) i q y = zrr (zsI x i q y) p s n o d w4 w5 := by
  refine zrr_x ?_ ?_ ?_ (fun j h1 h2 h3 => ?_) rfl
  · rw [zsI_n (Ne.symm a), zrr_7r, zrr_7r, zsI_n (Ne.symm a)]
  · rw [zsI_n (Ne.symm b)]; rfl
  · rw [zsI_n (Ne.symm c)]; rfl
  · rw [zrr_n h1 h2 h3]
    by_cases hj : j = i
    · rw [hj, zsI_u, zsI_u, zrr_n a b c]
    · rw [zsI_n hj, zsI_n hj, zrr_n h1 h2 h3]
end ZRR
/-- the byte at a place of the text of F bytes, or -1 -/
def zrt (x : zX) (F k : Nat) : Int32 := if k < F then x.1 88 k else -1
abbrev zdr (v : Int32) : Prop := ¬ v < nI 48 ∧ ¬ nI 57 < v
abbrev zRS : Type := Nat × Nat × Nat × Int32 × Int32 × (Nat → Int32) × (Nat → Int32)
def zru (x : zX) (R : zRS) : zX := zrr x R.1 R.2.1 R.2.2.1 R.2.2.2.1 R.2.2.2.2.1 R.2.2.2.2.2.1 R.2.2.2.2.2.2
/-- ! by ! off the pile -/
def zwl (w5 : Nat → Int32) : Nat → Nat → Int32 → (Nat → Int32) → Nat × Nat × Int32 × (Nat → Int32)
  | 0, s, o, w4 => (s, 0, o, w4)
  | n + 1, s, o, w4 => if w5 n = nI 33 then zwl w5 n (s + 1) (o - nI 1) (upd w4 s (-33)) else (s, n + 1, o, w4)
/-- signs that bind as much or more off the pile -/
def zsl (w5 : Nat → Int32) (g : Int32) : Nat → Nat → (Nat → Int32) → Nat × Nat × (Nat → Int32)
  | 0, s, w4 => (s, 0, w4)
  | n + 1, s, w4 => if w5 n = nI 38 ∨ (w5 n = nI 124 ∧ ¬ g = nI 38) then zsl w5 g n (s + 1) (upd w4 s (-(w5 n))) else (s, n + 1, w4)
theorem zwl_le {w5 : Nat → Int32} : ∀ (n s : Nat) (o : Int32) (w4 : Nat → Int32), (zwl w5 n s o w4).1 + (zwl w5 n s o w4).2.1 = s + n ∧ (zwl w5 n s o w4).2.1 ≤ n
  | 0, _, _, _ => ⟨rfl, Nat.le_refl _⟩
  | n + 1, s, o, w4 => by
    rw [zwl]
    split
    · have h := zwl_le n (s + 1) (o - nI 1) (upd w4 s (-33)) (w5 := w5)
      omega
    · exact ⟨rfl, Nat.le_refl _⟩
theorem zsl_le {w5 : Nat → Int32} {g : Int32} : ∀ (n s : Nat) (w4 : Nat → Int32), (zsl w5 g n s w4).1 + (zsl w5 g n s w4).2.1 = s + n ∧ (zsl w5 g n s w4).2.1 ≤ n
  | 0, _, _ => ⟨rfl, Nat.le_refl _⟩
  | n + 1, s, w4 => by
    rw [zsl]
    split
    · have h := zsl_le n (s + 1) (upd w4 s (-(w5 n))) (w5 := w5) (g := g)
      omega
    · exact ⟨rfl, Nat.le_refl _⟩
/-- where a letter of a test stands -/
def zpl (v : Int32) : Int32 := if v = nI 97 then nI 0 else if v = nI 98 then nI 1 else if v = nI 107 then nI 2 else if v = nI 106 then nI 3 else if v = nI 116 then nI 4 else if v = nI 119 then nI 5 else if v = nI 114 then nI 6 else -1
/-- a number: whether, where it ends, its value -/
def znuR (T : Nat → Int32) (p : Nat) (d : Int32) : Bool × Nat × Int32 := if zdr (T p) then (if zdr (T (p + 1)) then (true, p + 2, nI 10 * (nI 10 * nI 0 + T p - nI 48) + T (p + 1) - nI 48) else (true, p + 1, nI 10 * nI 0 + T p - nI 48)) else (false, p, d)
abbrev zdrs (v : Int32) : Prop := ¬ v < nI 60 ∧ ¬ nI 62 < v
/-- a code put down, and ! by ! off the pile -/
def zpw (p s n : Nat) (o d v : Int32) (w4 w5 : Nat → Int32) : zRS := (p, (zwl w5 n (s + 1) o (upd w4 s v)).1, (zwl w5 n (s + 1) o (upd w4 s v)).2.1, (zwl w5 n (s + 1) o (upd w4 s v)).2.2.1, d, (zwl w5 n (s + 1) o (upd w4 s v)).2.2.2, w5)
/-- a test -/
def zrT (T : Nat → Int32) (p s n : Nat) (o d : Int32) (w4 w5 : Nat → Int32) : Bool × zRS :=
  if zpl (T p) < 0 then (false, p, s, n, o, d, w4, w5) else if zdrs (T (p + 1)) then (if (znuR T (p + 2) d).1 = true then (true, zpw (znuR T (p + 2) d).2.1 s n o (znuR T (p + 2) d).2.2 (nI 1000 * zpl (T p) + nI 100 * (T (p + 1) - nI 60) + (znuR T (p + 2) d).2.2) w4 w5) else (false, p + 2, s, n, o, d, w4, w5)) else (false, p + 1, s, n, o, d, w4, w5)
abbrev zRE : Type := Bool × Int32 × zRS
/-- an E, in g steps at most -/
def zrE (T : Nat → Int32) : Nat → Bool → Nat → Nat → Nat → Int32 → Int32 → (Nat → Int32) → (Nat → Int32) → Int32 → zRE
  | 0, _, p, s, n, o, d, w4, w5, tv => (false, tv, p, s, n, o, d, w4, w5)
  | g + 1, true, p, s, n, o, d, w4, w5, tv =>
    if T p = nI 33 ∨ T p = nI 40 then (if o = nI 4 then (false, tv, p, s, n, o, d, w4, w5) else zrE T g true (p + 1) s (n + 1) (o + nI 1) d w4 (upd w5 n (T p)) tv)
    else if (zrT T p s n o d w4 w5).1 = true then zrE T g false (zrT T p s n o d w4 w5).2.1 (zrT T p s n o d w4 w5).2.2.1 (zrT T p s n o d w4 w5).2.2.2.1 (zrT T p s n o d w4 w5).2.2.2.2.1 (zrT T p s n o d w4 w5).2.2.2.2.2.1 (zrT T p s n o d w4 w5).2.2.2.2.2.2.1 (zrT T p s n o d w4 w5).2.2.2.2.2.2.2 tv
    else (false, tv, (zrT T p s n o d w4 w5).2)
  | g + 1, false, p, s, n, o, d, w4, w5, tv =>
    if T p = nI 38 ∨ T p = nI 124 then zrE T g true (p + 1) (zsl w5 (T p) n s w4).1 ((zsl w5 (T p) n s w4).2.1 + 1) o d (zsl w5 (T p) n s w4).2.2 (upd w5 (zsl w5 (T p) n s w4).2.1 (T p)) tv
    else if (zsl w5 (nI 124) n s w4).2.1 = 0 then (true, nI (zsl w5 (nI 124) n s w4).1, p, (zsl w5 (nI 124) n s w4).1, (zsl w5 (nI 124) n s w4).2.1, o, d, (zsl w5 (nI 124) n s w4).2.2, w5)
    else if T p = nI 41 then zrE T g false (p + 1) (zwl w5 ((zsl w5 (nI 124) n s w4).2.1 - 1) (zsl w5 (nI 124) n s w4).1 (o - nI 1) (zsl w5 (nI 124) n s w4).2.2).1 (zwl w5 ((zsl w5 (nI 124) n s w4).2.1 - 1) (zsl w5 (nI 124) n s w4).1 (o - nI 1) (zsl w5 (nI 124) n s w4).2.2).2.1 (zwl w5 ((zsl w5 (nI 124) n s w4).2.1 - 1) (zsl w5 (nI 124) n s w4).1 (o - nI 1) (zsl w5 (nI 124) n s w4).2.2).2.2.1 d (zwl w5 ((zsl w5 (nI 124) n s w4).2.1 - 1) (zsl w5 (nI 124) n s w4).1 (o - nI 1) (zsl w5 (nI 124) n s w4).2.2).2.2.2 w5 (nI (zsl w5 (nI 124) n s w4).1)
    else (false, nI (zsl w5 (nI 124) n s w4).1, p, (zsl w5 (nI 124) n s w4).1, (zsl w5 (nI 124) n s w4).2.1, o, d, (zsl w5 (nI 124) n s w4).2.2, w5)
/-- how many letters come, one behind another -/
def zmt (T l : Nat → Int32) (p : Nat) : Nat → Nat
  | 0 => 0
  | n + 1 => if zmt T l p n = n ∧ T (p + n) = l n then n + 1 else zmt T l p n
theorem zmt_x {T l : Nat → Int32} {p k : Nat} (h : zmt T l p k = k) (h2 : ¬ T (p + k) = l k) : ∀ n, zmt T l p (k + 1 + n) = k
  | 0 => by
    rw [Nat.add_zero, zmt, if_neg (fun q => h2 q.2)]
    exact h
  | n + 1 => by
    rw [show k + 1 + (n + 1) = (k + 1 + n) + 1 by omega, zmt, zmt_x h h2 n, if_neg (by omega)]
theorem zmt_in {T l : Nat → Int32} {F p : Nat} (hT : zTe T F) (hp : p ≤ F) : ∀ n, (∀ k, k < n → ¬ l k = -1) → p + zmt T l p n ≤ F
  | 0, _ => hp
  | n + 1, hn => by
    rw [zmt]
    split
    · next h =>
      by_cases hq : p + n < F
      · omega
      · exact absurd (h.2.symm.trans (hT (p + n) (by omega))) (hn n (by omega))
    · exact zmt_in hT hp n (fun k hk => hn k (by omega))
/-- a word and a blank: whether, and where it ends -/
def zrw (T l : Nat → Int32) (p n : Nat) : Bool × Nat := if zmt T l p n = n then (if T (p + n) = nI 32 then (true, p + n + 1) else (false, p + n)) else (false, p + zmt T l p n)
theorem zrt_e {x : zX} {F : Nat} : zTe (zrt x F) F := fun _ h => if_neg (Nat.not_lt.mpr h)
