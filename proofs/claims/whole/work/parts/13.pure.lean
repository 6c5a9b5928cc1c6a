/-! PURE WORDS: sums, counts, first places, over rows of ints -/
theorem z_ix {p : Int32} {n : Nat} (h0 : ¬ p < 0) (h1 : ¬ nI n ≤ p) (hn : n < 2 ^ 31) : ∃ k, k < n ∧ p = nI k := by
  rcases pk_ix p hn with h | h | h
  · exact absurd h h0
  · exact absurd h h1
  · exact h
/-- the first place from k on, among n, that holds y; else -1 -/
def zfind (f : Nat → Int32) (y : Int32) : Nat → Nat → Int32
  | _, 0 => -1
  | k, n + 1 => if f k = y then nI k else zfind f y (k + 1) n
theorem zfind_y {f : Nat → Int32} {y : Int32} {k n : Nat} (h : f k = y) (hn : 0 < n) : zfind f y k n = nI k := by
  cases n with
  | zero => exact absurd hn (by omega)
  | succ n => exact if_pos h
theorem zfind_n {f : Nat → Int32} {y : Int32} {k n : Nat} (h : ¬ f k = y) (hn : 0 < n) : zfind f y k n = zfind f y (k + 1) (n - 1) := by
  cases n with
  | zero => exact absurd hn (by omega)
  | succ n => exact if_neg h
/-- a sum of ints -/
def zsum (f : Nat → Int32) : Nat → Int32
  | 0 => 0
  | n + 1 => zsum f n + f n
theorem zsum_c {f g : Nat → Int32} : ∀ {n : Nat}, (∀ k, k < n → f k = g k) → zsum f n = zsum g n
  | 0, _ => rfl
  | n + 1, h => by rw [zsum, zsum, zsum_c (fun k hk => h k (by omega)), h n (by omega)]
/-- ints joined by or -/
def zors (f : Nat → Int32) : Nat → Int32
  | 0 => 0
  | n + 1 => zors f n ||| f n
theorem zors_c {f g : Nat → Int32} : ∀ {n : Nat}, (∀ k, k < n → f k = g k) → zors f n = zors g n
  | 0, _ => rfl
  | n + 1, h => by rw [zors, zors, zors_c (fun k hk => h k (by omega)), h n (by omega)]
/-- the bit p of b, where p is 0 .. 7 -/
abbrev zbit (b p : Int32) : Prop := ¬ p < 0 ∧ ¬ nI 8 ≤ p ∧ ¬ ((b >>> (p &&& 31)) &&& nI 1) = 0
theorem zsum_t {f : Nat → Int32} {i : Nat} {a v : Int32} (h : a = zsum f i) (hf : f i = v) : a + v = zsum f (i + 1) := by rw [zsum, hf, h]
theorem zsum_f {f : Nat → Int32} {i : Nat} {a : Int32} (h : a = zsum f i) (hf : f i = 0) : a = zsum f (i + 1) := by rw [zsum, hf, h]; exact (Int32.add_zero _).symm
theorem zors_t {f : Nat → Int32} {i : Nat} {a v : Int32} (h : a = zors f i) (hf : f i = v) : (a ||| v) = zors f (i + 1) := by rw [zors, hf, h]
theorem zors_f {f : Nat → Int32} {i : Nat} {a : Int32} (h : a = zors f i) (hf : f i = 0) : a = zors f (i + 1) := by rw [zors, hf, h]; exact (Int32.or_zero).symm
/-- longs joined by or -/
def zorl (f : Nat → Int64) : Nat → Int64
  | 0 => 0
  | n + 1 => zorl f n ||| f n
theorem zorl_t {f : Nat → Int64} {i : Nat} {a v : Int64} (h : a = zorl f i) (hf : f i = v) : (a ||| v) = zorl f (i + 1) := by rw [zorl, hf, h]
theorem zorl_f {f : Nat → Int64} {i : Nat} {a : Int64} (h : a = zorl f i) (hf : f i = 0) : a = zorl f (i + 1) := by rw [zorl, hf, h]; exact (Int64.or_zero).symm
theorem zp2 {k : Nat} (h : k < 31) : nI 1 <<< (nI k &&& 31) = nI (2 ^ k) := by
  have hd : ∀ j : Fin 31, nI 1 <<< (nI j.val &&& 31) = nI (2 ^ j.val) := by decide +kernel
  exact hd ⟨k, h⟩
/-- how many of a desk's seats are taken -/
def zocc (y : Int32) : Int32 := if y = -1 then nI 0 else nI 1
/-- the place of pupil q's object -/
def zob (x : zX) (q : Nat) : Nat := (x.2.2 3 q).getD 0
/-- the pupil that a number names, or none -/
def zat (x : zX) (N : Nat) (q : Int32) : Option Nat := if q < 0 then none else if nI N ≤ q then none else x.2.2 3 q.toNatClampNeg
/-- what stands in now: N pupils, their objects, who sits where, who names whom -/
def zNow (G : zG) (x : zX) (N : Nat) : Prop := N ≤ 8 ∧ x.1 1 3 = nI N ∧ (∀ q, q < N → x.2.2 3 q = some (zob x q) ∧ 112 ≤ zob x q ∧ zob x q < zn G ∧ x.1 (zob x q) 0 = nI q) ∧ (∀ t, t < 8 → x.1 4 t = -1 ∨ ∃ q, q < N ∧ x.1 4 t = nI q) ∧ (∀ q, q < N → x.1 5 q = -1 ∨ ∃ o, o < N ∧ x.1 5 q = nI o)
theorem zat_in {G : zG} {x : zX} {N q : Nat} (h : zNow G x N) (hq : q < N) : zat x N (nI q) = some (zob x q) := by
  have h8 := h.1
  unfold zat
  rw [if_neg (nI_pos (by omega)), if_neg (nI_ge hq (by omega)), nI_clamp (by omega)]
  exact (h.2.2.1 q hq).1
theorem zat_of {G : zG} {x : zX} {N o : Nat} {q : Int32} (h : zNow G x N) (ho : zat x N q = some o) : ∃ k, k < N ∧ q = nI k ∧ o = zob x k := by
  have h8 := h.1
  unfold zat at ho
  by_cases h1 : q < 0
  · rw [if_pos h1] at ho; exact absurd ho (by simp)
  · rw [if_neg h1] at ho
    by_cases h2 : nI N ≤ q
    · rw [if_pos h2] at ho; exact absurd ho (by simp)
    · rw [if_neg h2] at ho
      obtain ⟨k, hk, rfl⟩ := z_ix h1 h2 (by omega)
      rw [nI_clamp (by omega), (h.2.2.1 k hk).1] at ho
      exact ⟨k, hk, rfl, (Option.some.inj ho).symm⟩
theorem zat_no {G : zG} {x : zX} {N : Nat} {q : Int32} (h : zNow G x N) (ho : zat x N q = none) : q < 0 ∨ nI N ≤ q := by
  have h8 := h.1
  unfold zat at ho
  by_cases h1 : q < 0
  · exact Or.inl h1
  · rw [if_neg h1] at ho
    by_cases h2 : nI N ≤ q
    · exact Or.inr h2
    · rw [if_neg h2] at ho
      obtain ⟨k, hk, rfl⟩ := z_ix h1 h2 (by omega)
      rw [nI_clamp (by omega), (h.2.2.1 k hk).1] at ho
      exact absurd ho (by simp)
/-- the pair of a desk, as a bit -/
def zpair (a b : Int32) : Int64 := if (if b < a then b else a) < 0 then 0 else (1 : Int64) <<< (((nI 8 * (if b < a then b else a)) + (if a < b then b else a)).toInt64 &&& 63)
def zpairs (f : Nat → Int32) : Int64 := zorl (fun d => zpair (f (2 * d)) (f (2 * d + 1))) 4
/-- the first sort's narrowing -/
def zsort (t : Int32) (v : Int64) : Int64 := if t = nI 0 then v.toInt32.toInt8.toInt32.toInt64 else if t = nI 1 then v.toInt32.toInt16.toInt32.toInt64 else if t = nI 2 then v.toInt32.toInt64 else if t = nI 4 then (if v = 0 then 0 else 1) else v
theorem znear2 {a b : Nat} (ha : a < 8) (hb : b < 8) : (nI a &&& nI 2) = (nI b &&& nI 2) ↔ a / 2 % 2 = b / 2 % 2 := by
  have hd : ∀ i j : Fin 8, (nI i.val &&& nI 2) = (nI j.val &&& nI 2) ↔ i.val / 2 % 2 = j.val / 2 % 2 := by decide +kernel
  exact hd ⟨a, ha⟩ ⟨b, hb⟩
theorem zxor1 {t : Nat} (h : t < 8) : nI t ^^^ nI 1 = nI (t ^^^ 1) := by
  have hd : ∀ i : Fin 8, nI i.val ^^^ nI 1 = nI (i.val ^^^ 1) := by decide +kernel
  exact hd ⟨t, h⟩
theorem zxor8 {t : Nat} (h : t < 8) : t ^^^ 1 < 8 := by
  have hd : ∀ i : Fin 8, i.val ^^^ 1 < 8 := by decide +kernel
  exact hd ⟨t, h⟩
theorem zb_e {P Q : Prop} [Decidable P] [Decidable Q] : (if P then (nI 1) else (nI 0)) = (if Q then (nI 1) else (nI 0)) ↔ (P ↔ Q) := by
  by_cases hp : P <;> by_cases hq : Q
  · rw [if_pos hp, if_pos hq]; exact ⟨fun _ => ⟨fun _ => hq, fun _ => hp⟩, fun _ => rfl⟩
  · rw [if_pos hp, if_neg hq]; exact ⟨fun h => absurd h (by decide), fun h => absurd (h.mp hp) hq⟩
  · rw [if_neg hp, if_pos hq]; exact ⟨fun h => absurd h (by decide), fun h => absurd (h.mpr hq) hp⟩
  · rw [if_neg hp, if_neg hq]; exact ⟨fun _ => ⟨fun h => absurd h hp, fun h => absurd h hq⟩, fun _ => rfl⟩
theorem zex_f {P : Nat → Prop} [DecidablePred P] {j : Nat} {a : Int32} (h : a = if (∃ o, o < j ∧ P o) then nI 1 else nI 0) (hn : ¬ P j) : a = if (∃ o, o < j + 1 ∧ P o) then nI 1 else nI 0 := by
  rw [h]
  by_cases q : ∃ o, o < j ∧ P o
  · obtain ⟨o, h1, h2⟩ := q
    rw [if_pos ⟨o, h1, h2⟩, if_pos ⟨o, by omega, h2⟩]
  · rw [if_neg q, if_neg]
    rintro ⟨o, h1, h2⟩
    by_cases ho : o = j
    · subst ho; exact hn h2
    · exact q ⟨o, by omega, h2⟩
theorem zex_t {P : Nat → Prop} [DecidablePred P] {j : Nat} (hp : P j) : nI 1 = if (∃ o, o < j + 1 ∧ P o) then nI 1 else nI 0 := by
  rw [if_pos ⟨j, by omega, hp⟩]
/-- popcount of a byte -/
def zpop : Nat → Nat → Nat
  | 0, _ => 0
  | f + 1, s => s % 2 + zpop f (s / 2)
/-- a kind that goes on talking -/
abbrev zgo (k : Nat) : Prop := k = 8 ∨ k = 0
/-- who sits at o talks and is near t -/
abbrev znb (x : zX) (b : Int32) (t o : Nat) : Prop := ¬ o = t ∧ zbit b (x.1 4 o) ∧ (t / 4 = o / 4 ∨ t / 2 % 2 = o / 2 % 2)
def znoise (x : zX) (b : Int32) (t : Nat) : Nat → Int32 := zsum (fun o => if znb x b t o then x.1 (zob x (x.1 4 o).toNatClampNeg) 2 else 0)
/-- who sits at t talks a minute later -/
abbrev ztk (G : zG) (x : zX) (b hu : Int32) (t p : Nat) : Prop := (zgo (zk G (zob x p)) ∧ zbit b (nI p)) ∨ ((∃ o, o < 8 ∧ znb x b t o) ∧ ¬ (znoise x b t 8 / nI 2 + x.1 (zob x p) 2 ≤ hu))
theorem zsitN {G : zG} {x : zX} {N j : Nat} {b : Int32} (h : zNow G x N) (hj : j < 8) (hb : zbit b (x.1 4 j)) : ∃ k, k < N ∧ x.1 4 j = nI k := by
  rcases h.2.2.2.1 j hj with q | q
  · rw [q] at hb; exact absurd (by decide) hb.1
  · exact q
theorem zsitP {G : zG} {x : zX} {N j : Nat} (h : zNow G x N) (hj : j < 8) (hb : ¬ x.1 4 j = -1) : ∃ k, k < N ∧ x.1 4 j = nI k := by
  rcases h.2.2.2.1 j hj with q | q
  · exact absurd q hb
  · exact q
def zlater (G : zG) (x : zX) (b hu w : Int32) : Int32 := zors (fun t => if ¬ x.1 4 t = -1 ∧ ¬ x.1 4 t = w ∧ ztk G x b hu t (x.1 4 t).toNatClampNeg then nI 1 <<< (x.1 4 t &&& 31) else 0) 8
/-- the closed sets: after the sets below s, the least of the fewest, and how many -/
def zclo (P : Nat → Prop) [DecidablePred P] : Nat → Int32 × Nat
  | 0 => (-5, 9)
  | s + 1 => if 2 ≤ zpop 8 s ∧ zpop 8 s < (zclo P s).2 ∧ P s then (nI s, zpop 8 s) else zclo P s
abbrev zcl (x : zX) (N : Nat) (y : Int32) : Prop := ∀ q, q < N → (zbit y (nI q) ↔ zbit y (x.1 5 q))
theorem zb_c {P Q : Prop} [Decidable P] [Decidable Q] (h : P ↔ Q) : (if P then (nI 1) else (nI 0)) = (if Q then (nI 1) else (nI 0)) := zb_e.mpr h
/-- a number of one of N -/
abbrev zin (N : Nat) (q : Int32) : Prop := ¬ q < 0 ∧ ¬ nI N ≤ q
theorem zin_i {N : Nat} {q : Int32} (h : N ≤ 8) : zin N q ↔ (¬ q < nI 0 ∧ ¬ (nI N - nI 1) < q) := by
  have h1 : (nI N - nI 1).toInt = (N : Int) - 1 := pk_sub_toInt (by omega) (by omega)
  have h2 : (nI N).toInt = (N : Int) := nI_toInt (by omega)
  have h3 : (nI 0) = (0 : Int32) := rfl
  rw [h3]
  unfold zin
  rw [Int32.lt_iff_toInt_lt, Int32.le_iff_toInt_le, Int32.lt_iff_toInt_lt, h1, h2, Int32.toInt_zero]
  omega
theorem zin_2 {N : Nat} {q : Int32} (h : N ≤ 8) : (¬ q < 0 ∧ ¬ nI (2 ^ N) ≤ q) ↔ (¬ q < nI 0 ∧ ¬ (nI (2 ^ N) - nI 1) < q) := by
  have hp : 2 ^ N ≤ 2 ^ 8 := Nat.pow_le_pow_right (by decide) h
  have h1 : (nI (2 ^ N) - nI 1).toInt = ((2 ^ N : Nat) : Int) - 1 := pk_sub_toInt (by omega) (by omega)
  have h2 : (nI (2 ^ N)).toInt = ((2 ^ N : Nat) : Int) := nI_toInt (by omega)
  have h3 : (nI 0) = (0 : Int32) := rfl
  rw [h3, Int32.lt_iff_toInt_lt, Int32.le_iff_toInt_le, Int32.lt_iff_toInt_lt, h1, h2, Int32.toInt_zero]
  omega
theorem zin_k {N : Nat} {q : Int32} (h : N ≤ 8) (hz : zin N q) : ∃ k, k < N ∧ q = nI k := z_ix hz.1 hz.2 (by omega)
/-- the reference's bit k of b -/
abbrev zhas (b k : Int32) : Prop := ((b >>> (k &&& 31)) &&& nI 1) = nI 1
/-- the reference's pupils, seats, slips -/
def zRef (x : zX) (N : Nat) : Prop := N ≤ 8 ∧ x.1 77 0 = nI N ∧ (∀ q, q < N → ∃ t, t < 8 ∧ x.1 84 q = nI t) ∧ (∀ t, t < 8 → x.1 85 t = -1 ∨ ∃ q, q < N ∧ x.1 85 t = nI q) ∧ (∀ q, q < N → x.1 83 q = -1 ∨ ∃ o, o < N ∧ x.1 83 q = nI o)
def zse (x : zX) (q : Nat) : Nat := (x.1 84 q).toNatClampNeg
theorem zse_of {x : zX} {N q : Nat} (h : zRef x N) (hq : q < N) : x.1 84 q = nI (zse x q) ∧ zse x q < 8 := by
  obtain ⟨t, ht, e⟩ := h.2.2.1 q hq
  unfold zse
  rw [e, nI_clamp (by omega)]
  exact ⟨rfl, ht⟩
theorem znear3 {a b : Nat} (ha : a < 8) (hb : b < 8) : (nI (a / 2) ^^^ nI (b / 2)) < nI 3 ↔ (a / 4 = b / 4 ∨ a / 2 % 2 = b / 2 % 2) := by
  have hd : ∀ i j : Fin 8, (nI (i.val / 2) ^^^ nI (j.val / 2)) < nI 3 ↔ (i.val / 4 = j.val / 4 ∨ i.val / 2 % 2 = j.val / 2 % 2) := by decide +kernel
  exact hd ⟨a, ha⟩ ⟨b, hb⟩
abbrev znr (a b : Nat) : Prop := a / 4 = b / 4 ∨ a / 2 % 2 = b / 2 % 2
/-- the clauses of the room that is held, in the reference: the first one's place, how many -/
def zClR (x : zX) (F C : Nat) : Prop := (x.1 77 13 < 0 ∧ F = 0 ∧ C = 0) ∨ (∃ r, r < 6 ∧ x.1 77 13 = nI r ∧ F = 10 * r ∧ x.1 89 r = nI C ∧ C ≤ 10)
theorem zClR_b {x : zX} {F C : Nat} (h : zClR x F C) : F + C ≤ 60 := by
  rcases h with ⟨-, h1, h2⟩ | ⟨r, h0, -, h1, -, h2⟩ <;> omega
/-- the loudest of the clauses: the last hush -/
def zhush (w n : Nat → Int32) (F : Nat) : Nat → Int32
  | 0 => nI 5
  | c + 1 => if w (F + c) = nI 3 then n (F + c) else zhush w n F c
abbrev zrb (x : zX) (b : Int32) (q o : Nat) : Prop := ¬ o = q ∧ zhas b (nI o) ∧ znr (zse x q) (zse x o)
def zrn (x : zX) (b : Int32) (q : Nat) : Nat → Int32 := zsum (fun o => if zrb x b q o then x.1 80 o else 0)
abbrev zrk (x : zX) (b hu : Int32) (N q : Nat) : Prop := ((∃ o, o < N ∧ zrb x b q o) ∧ hu < zrn x b q N / nI 2 + x.1 80 q) ∨ (zhas b (nI q) ∧ (x.1 78 q = nI 2 ∨ x.1 78 q = nI 5))
def zbehind (x : zX) (b hu w : Int32) (N : Nat) : Int32 := zors (fun q => if ¬ nI q = w ∧ zrk x b hu N q then nI 1 <<< (nI q &&& 31) else 0) N
def znoiseR (x : zX) (b : Int32) (N : Nat) : Int32 := zsum (fun q => if zhas b (nI q) then x.1 80 q else 0) N
/-- n minutes of talk, from b on -/
def ziter (f : Int32 → Int32) : Nat → Int32 → Int32
  | 0, b => b
  | n + 1, b => ziter f n (f b)
theorem ziter_s (f : Int32 → Int32) : ∀ (n : Nat) (b : Int32), ziter f (n + 1) b = f (ziter f n b)
  | 0, _ => rfl
  | n + 1, b => by
    show ziter f (n + 1) (f b) = f (ziter f n (f b))
    exact ziter_s f n (f b)
abbrev zrcl (x : zX) (N : Nat) (y : Int32) : Prop := ∀ q, q < N → ((¬ x.1 83 q < 0 ∧ zhas y (x.1 83 q)) ↔ zhas y (nI q))
theorem z_le {a b : Int32} (h : ¬ a ≤ b) : b < a := by
  rw [Int32.le_iff_toInt_le] at h
  rw [Int32.lt_iff_toInt_lt]
  omega
theorem z_nle {a b : Int32} (h : a ≤ b) : ¬ b < a := by
  rw [Int32.le_iff_toInt_le] at h
  rw [Int32.lt_iff_toInt_lt]
  omega
theorem z_ngt {a : Int32} (h : a < 0) : ¬ 0 ≤ a := by
  rw [Int32.lt_iff_toInt_lt] at h
  rw [Int32.le_iff_toInt_le]
  omega
theorem z_nlt {a b : Int32} (h : ¬ a < b) : b ≤ a := by
  rw [Int32.lt_iff_toInt_lt] at h
  rw [Int32.le_iff_toInt_le]
  omega
theorem zones {l : Nat} (h : l < 256) (h0 : 0 < l) : (nI l &&& (nI l - nI 1)) = nI (l &&& (l - 1)) ∧ l &&& (l - 1) < 256 ∧ zpop 8 (l &&& (l - 1)) + 1 = zpop 8 l := by
  have hd : ∀ i : Fin 256, 0 < i.val → (nI i.val &&& (nI i.val - nI 1)) = nI (i.val &&& (i.val - 1)) ∧ i.val &&& (i.val - 1) < 256 ∧ zpop 8 (i.val &&& (i.val - 1)) + 1 = zpop 8 i.val := by decide +kernel
  exact hd ⟨l, h⟩ h0
theorem zpop_b : ∀ (f s : Nat), zpop f s ≤ f
  | 0, _ => Nat.le_refl 0
  | f + 1, s => by
    have h := zpop_b f (s / 2)
    rw [zpop]
    omega
theorem zpop_0 : ∀ f : Nat, zpop f 0 = 0
  | 0 => rfl
  | f + 1 => by rw [zpop, show 0 / 2 = 0 from rfl, zpop_0 f]
theorem zclo_or (P : Nat → Prop) [DecidablePred P] : ∀ s : Nat, ((zclo P s).1 = -5 ∧ (zclo P s).2 = 9) ∨ ∃ f, f < s ∧ (zclo P s).1 = nI f ∧ (zclo P s).2 = zpop 8 f
  | 0 => Or.inl ⟨rfl, rfl⟩
  | s + 1 => by
    rw [zclo]
    by_cases h : 2 ≤ zpop 8 s ∧ zpop 8 s < (zclo P s).2 ∧ P s
    · rw [if_pos h]
      exact Or.inr ⟨s, by omega, rfl, rfl⟩
    · rw [if_neg h]
      rcases zclo_or P s with q | ⟨f, h1, h2⟩
      · exact Or.inl q
      · exact Or.inr ⟨f, by omega, h2⟩
/-- minutes without one: who talks then, and the noise so far -/
def zrun (f g : Int32 → Int32) : Nat → Int32 → Int32 × Int32
  | 0, b => (b, g b)
  | n + 1, b => (f (zrun f g n b).1, (zrun f g n b).2 + g (f (zrun f g n b).1))
/-- the first with the least, among those below -/
def zleast (S : Nat → Int32) : Nat → Int32 × Int32
  | 0 => (-5, 0)
  | q + 1 => if ¬ (zleast S q).1 < 0 ∧ ¬ S q < (zleast S q).2 then zleast S q else (nI q, S q)
def zofR (x : zX) (k : Nat) (w : Int32) : Int32 :=
  if w = nI 0 then x.1 78 k else if w = nI 1 then x.1 79 k else if w = nI 2 then x.1 80 k else if w = nI 3 then x.1 81 k else if w = nI 4 then x.1 82 k
  else if w = nI 5 then (if x.1 86 k = 0 then nI 0 else nI 1) else if w = nI 6 then (if 0 ≤ x.1 83 k then x.1 83 k else (-5)) else if w = nI 7 then x.1 84 k
  else if w = nI 8 then (if 0 ≤ x.1 85 (zse x k ^^^ 1) then x.1 85 (zse x k ^^^ 1) else (-5)) else -1
/-- where pupil q sits, in now -/
def zst (x : zX) (q : Nat) : Nat := (zfind (x.1 4) (nI q) 0 8).toNatClampNeg
def zSit (x : zX) (N : Nat) : Prop := ∀ q, q < N → zst x q < 8 ∧ zfind (x.1 4) (nI q) 0 8 = nI (zst x q)
/-- a kind's number, by its class -/
def zkn (k : Nat) : Int32 := if k = 0 then nI 5 else if k = 1 then nI 1 else if k = 2 then nI 6 else if k = 3 then nI 4 else if k = 4 then nI 0 else if k = 8 then nI 2 else nI 3
def zofN (G : zG) (x : zX) (k : Nat) (w : Int32) : Int32 :=
  if w = nI 0 then zkn (zk G (zob x k)) else if w = nI 1 then x.1 (zob x k) 1 else if w = nI 2 then x.1 (zob x k) 2 else if w = nI 3 then x.1 (zob x k) 3 else if w = nI 4 then x.1 (zob x k) 4
  else if w = nI 5 then (if zbit (x.1 1 4) (nI k) then nI 1 else nI 0) else if w = nI 6 then (if 0 ≤ x.1 5 k then x.1 5 k else (-5)) else if w = nI 7 then nI (zst x k)
  else if w = nI 8 then (if 0 ≤ x.1 4 (zst x k ^^^ 1) then x.1 4 (zst x k ^^^ 1) else (-5)) else -1
/-- the place of the room that a number names: the bare one, if none -/
def zrix (r : Int32) : Nat := if r < 0 then 70 else if nI 6 ≤ r then 70 else 28 + 7 * r.toNatClampNeg
theorem zrix_ok (r : Int32) : zRm (zrix r) := by
  unfold zrix
  by_cases h : r < 0
  · rw [if_pos h]; exact ⟨6, by decide, rfl⟩
  · rw [if_neg h]
    by_cases h2 : nI 6 ≤ r
    · rw [if_pos h2]; exact ⟨6, by decide, rfl⟩
    · rw [if_neg h2]
      obtain ⟨k, hk, rfl⟩ := z_ix h h2 (by decide)
      rw [nI_clamp (by omega)]
      exact ⟨k, by omega, rfl⟩
/-- the first minute with nobody talking, from minute m on, n minutes more -/
def zstill (f : Int32 → Int32) : Nat → Nat → Int32 → Int32
  | _, 0, _ => -5
  | m, n + 1, b => if b = 0 then nI m else zstill f (m + 1) n (f b)
theorem zstill_y {f : Int32 → Int32} {m n : Nat} {b : Int32} (h : b = 0) (hn : 0 < n) : zstill f m n b = nI m := by
  cases n with
  | zero => exact absurd hn (by omega)
  | succ n => exact if_pos h
theorem zstill_n {f : Int32 → Int32} {m n : Nat} {b : Int32} (h : ¬ b = 0) (hn : 0 < n) : zstill f m n b = zstill f (m + 1) (n - 1) (f b) := by
  cases n with
  | zero => exact absurd hn (by omega)
  | succ n => exact if_neg h
theorem z_nle2 {a b : Int32} (h : a < b) : ¬ b ≤ a := by
  rw [Int32.lt_iff_toInt_lt] at h
  rw [Int32.le_iff_toInt_le]
  omega
theorem z_lt1 {q : Int32} {m : Nat} (h : q ≤ nI m) (hm : m < 1000 := by decide) : q < nI (m + 1) := by
  rw [Int32.le_iff_toInt_le, nI_toInt (by omega)] at h
  rw [Int32.lt_iff_toInt_lt, nI_toInt (by omega)]
  omega
theorem zbyte {q : Int32} (h0 : ¬ q < 0) (h1 : ¬ nI 127 < q) : q.toInt8.toInt32 = q := by
  obtain ⟨k, hk, rfl⟩ := z_ix (n := 128) h0 (fun h => h1 (by
    rw [Int32.le_iff_toInt_le, nI_toInt (by omega)] at h
    rw [Int32.lt_iff_toInt_lt, nI_toInt (by omega)]
    omega)) (by decide)
  have hd : ∀ i : Fin 128, (nI i.val).toInt8.toInt32 = nI i.val := by decide +kernel
  exact hd ⟨k, hk⟩
theorem zlcmp0 {a b : Int64} : lg_cmp a b = 0 ↔ a = b := by
  have h1 := lg_cmp_le a b
  have h2 := lg_cmp_ge a b
  rw [Int64.le_iff_toInt_le] at h1 h2
  rw [← Int32.toInt_inj, ← Int64.toInt_inj]
  rw [Int32.le_iff_toInt_le, Int32.toInt_zero] at h1 h2
  rw [Int32.toInt_zero]
  omega
