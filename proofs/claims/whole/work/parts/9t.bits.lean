/-! BITS: of ints and of longs, and how many of a long are set -/
def zlb (v : Int64) (k : Nat) : Bool := v.toUInt64.toNat.testBit k
/-- how many of the first n -/
def zpc (f : Nat → Bool) : Nat → Nat
  | 0 => 0
  | n + 1 => zpc f n + (if f n = true then 1 else 0)
theorem zpc_c {f g : Nat → Bool} : ∀ {n : Nat}, (∀ k, k < n → f k = g k) → zpc f n = zpc g n
  | 0, _ => rfl
  | n + 1, h => by rw [zpc, zpc, zpc_c (fun k hk => h k (by omega)), h n (by omega)]
theorem zpc_le (f : Nat → Bool) : ∀ n : Nat, zpc f n ≤ n
  | 0 => Nat.le_refl _
  | n + 1 => by
    have h := zpc_le f n
    rw [zpc]
    split <;> omega
theorem zpc_a (f : Nat → Bool) (m : Nat) : ∀ n : Nat, zpc f (m + n) = zpc f m + zpc (fun k => f (m + k)) n
  | 0 => rfl
  | n + 1 => by
    rw [← Nat.add_assoc, zpc, zpc_a f m n, zpc]
    omega
theorem zpc_or (f g : Nat → Bool) : ∀ n : Nat, zpc (fun k => f k || g k) n = zpc f n + zpc (fun k => g k && !f k) n
  | 0 => rfl
  | n + 1 => by
    rw [zpc, zpc, zpc, zpc_or f g n]
    cases f n <;> cases g n <;> simp <;> omega
theorem zpc_f : ∀ n : Nat, zpc (fun _ => false) n = 0
  | 0 => rfl
  | n + 1 => by rw [zpc, zpc_f n]; rfl
theorem zpc_1 {p : Nat} : ∀ {n : Nat}, p < n → zpc (fun k => decide (k = p)) n = 1
  | 0, h => absurd h (by omega)
  | n + 1, h => by
    rw [zpc]
    by_cases e : n = p
    · subst e
      rw [zpc_c (g := fun _ => false) (fun k hk => decide_eq_false (by omega)), zpc_f]
      simp
    · rw [zpc_1 (by omega)]
      simp [e]
/-- masks, k bytes long -/
def zmM (c : Nat) : Nat → Nat
  | 0 => 0
  | k + 1 => c + 256 * zmM c k
def zZ1 (k n : Nat) : Nat := n - ((n / 2) &&& zmM 85 k)
def zZ2 (k n : Nat) : Nat := (n &&& zmM 51 k) + ((n / 4) &&& zmM 51 k)
def zZ3 (k n : Nat) : Nat := (n + n / 16) &&& zmM 15 k
theorem zand8 {x c : Nat} (y d : Nat) (hx : x < 256) (hc : c < 256) : (x + 256 * y) &&& (c + 256 * d) = (x &&& c) + 256 * (y &&& d) := by
  have hxc : x &&& c < 256 := Nat.lt_of_le_of_lt Nat.and_le_left hx
  apply Nat.eq_of_testBit_eq
  intro i
  have e1 : x + 256 * y = 2 ^ 8 * y + x := by omega
  have e2 : c + 256 * d = 2 ^ 8 * d + c := by omega
  have e3 : (x &&& c) + 256 * (y &&& d) = 2 ^ 8 * (y &&& d) + (x &&& c) := by omega
  rw [Nat.testBit_and, e1, e2, e3, Nat.testBit_two_pow_mul_add _ (by omega), Nat.testBit_two_pow_mul_add _ (by omega), Nat.testBit_two_pow_mul_add _ (by omega)]
  by_cases h : i < 8
  · rw [if_pos h, if_pos h, if_pos h, Nat.testBit_and]
  · rw [if_neg h, if_neg h, if_neg h, Nat.testBit_and]
def zg1 (a : Nat) : Nat := a - ((a / 2) &&& 85)
def zg2 (a : Nat) : Nat := (a &&& 51) + ((a / 4) &&& 51)
def zg3 (a : Nat) : Nat := (a + a / 16) &&& 15
def zpo8 (a : Nat) : Nat := zpc a.testBit 8
theorem zd1 : ∀ a : Fin 256, ∀ b : Fin 2, ((a.val / 2 + 128 * b.val) &&& 85) = ((a.val / 2) &&& 85) ∧ zg1 a.val < 256 ∧ (a.val / 2) &&& 85 ≤ a.val := by decide +kernel
theorem zd2 : ∀ a : Fin 256, ∀ b : Fin 4, ((a.val / 4 + 64 * b.val) &&& 51) = ((a.val / 4) &&& 51) ∧ zg2 a.val < 256 := by decide +kernel
theorem zd3 : ∀ a : Fin 256, zg2 (zg1 a.val) % 16 ≤ 4 ∧ zg2 (zg1 a.val) ≤ 68 ∧ zg3 (zg2 (zg1 a.val)) = zpo8 a.val ∧ zpo8 a.val ≤ 8 := by decide +kernel
theorem zd4 : ∀ a : Fin 69, ∀ b : Fin 5, a.val + a.val / 16 + 16 * b.val < 256 ∧ ((a.val + a.val / 16 + 16 * b.val) &&& 15) = zg3 a.val := by decide +kernel
theorem zZ1_s (k a b : Nat) (ha : a < 256) : zZ1 (k + 1) (a + 256 * b) = zg1 a + 256 * zZ1 k b := by
  unfold zZ1
  have e : (a + 256 * b) / 2 = (a / 2 + 128 * (b % 2)) + 256 * (b / 2) := by omega
  rw [e, zmM, zand8 _ _ (by omega) (by omega), (zd1 ⟨a, ha⟩ ⟨b % 2, by omega⟩).1]
  have h1 := (zd1 ⟨a, ha⟩ ⟨b % 2, by omega⟩).2.2
  have h2 : (b / 2) &&& zmM 85 k ≤ b / 2 := Nat.and_le_left
  unfold zg1
  dsimp only at h1 ⊢
  omega
theorem zZ2_s (k a b : Nat) (ha : a < 256) : zZ2 (k + 1) (a + 256 * b) = zg2 a + 256 * zZ2 k b := by
  unfold zZ2
  have e : (a + 256 * b) / 4 = (a / 4 + 64 * (b % 4)) + 256 * (b / 4) := by omega
  rw [e, zmM, zand8 _ _ ha (by omega), zand8 _ _ (by omega) (by omega)]
  have h2 := (zd2 ⟨a, ha⟩ ⟨b % 4, by omega⟩).1
  dsimp only at h2
  rw [h2]
  unfold zg2
  omega
theorem zZ3_s (k a b : Nat) (ha : a ≤ 68) (hb : b % 16 ≤ 4) : zZ3 (k + 1) (a + 256 * b) = zg3 a + 256 * zZ3 k b := by
  unfold zZ3
  have h := zd4 ⟨a, by omega⟩ ⟨b % 16, by omega⟩
  dsimp only at h
  have e : (a + 256 * b) + (a + 256 * b) / 16 = (a + a / 16 + 16 * (b % 16)) + 256 * (b + b / 16) := by omega
  rw [e, zmM, zand8 _ _ h.1 (by omega), h.2]
/-- the bits of each byte, in the byte's place -/
def zQb : Nat → Nat → Nat
  | 0, _ => 0
  | k + 1, n => zpo8 (n % 256) + 256 * zQb k (n / 256)
theorem zZ0 (n : Nat) : zZ3 0 n = 0 := Nat.and_zero _
theorem zZ20 (n : Nat) : zZ2 0 n = 0 := by
  unfold zZ2
  rw [zmM, Nat.and_zero, Nat.and_zero]
theorem zZs : ∀ (k n : Nat), zZ2 k (zZ1 k n) % 16 ≤ 4 ∧ zZ3 k (zZ2 k (zZ1 k n)) = zQb k n
  | 0, n => ⟨by rw [zZ20]; decide, zZ0 _⟩
  | k + 1, n => by
    have hn : n = n % 256 + 256 * (n / 256) := by omega
    have ha : n % 256 < 256 := Nat.mod_lt _ (by decide)
    have h1 := (zd1 ⟨n % 256, ha⟩ ⟨0, by omega⟩).2.1
    have h3 := zd3 ⟨n % 256, ha⟩
    dsimp only at h1 h3
    obtain ⟨i1, i2⟩ := zZs k (n / 256)
    have e1 : zZ1 (k + 1) n = zg1 (n % 256) + 256 * zZ1 k (n / 256) := by
      conv => lhs; rw [hn]
      exact zZ1_s k _ _ ha
    rw [e1, zZ2_s k _ _ h1]
    refine ⟨?_, ?_⟩
    · omega
    · rw [zZ3_s k _ _ h3.2.1 i1, i2, h3.2.2.1]
      rfl
theorem zpc8 (n k : Nat) : zpc n.testBit (8 + k) = zpo8 (n % 256) + zpc (n / 256).testBit k := by
  rw [zpc_a]
  unfold zpo8
  congr 1
  · refine zpc_c (fun j hj => ?_)
    rw [show 256 = 2 ^ 8 from rfl, Nat.testBit_mod_two_pow]
    simp [hj]
  · refine zpc_c (fun j hj => ?_)
    rw [show 256 = 2 ^ 8 from rfl, Nat.testBit_div_two_pow, Nat.add_comm]
theorem zpo8_le (n : Nat) : zpo8 n ≤ 8 := zpc_le _ _
theorem zf4 {a b c d e f g h m : Nat} (h0 : a ≤ 8) (h1 : b ≤ 8) (h2 : c ≤ 8) (h3 : d ≤ 8) (h4 : e ≤ 8) (h5 : f ≤ 8) (h6 : g ≤ 8) (h7 : h ≤ 8) (hm : m = a + 256 * (b + 256 * (c + 256 * (d + 256 * (e + 256 * (f + 256 * (g + 256 * h))))))) :
    m + m / 256 = (a + b + 256 * (b + c)) + 65536 * ((c + d + 256 * (d + e)) + 65536 * ((e + f + 256 * (f + g)) + 65536 * (g + h + 256 * h))) := by
  have e1 : m / 256 = b + 256 * (c + 256 * (d + 256 * (e + 256 * (f + 256 * (g + 256 * h))))) := by omega
  rw [e1, hm]
  omega
theorem zf5 {A B C D m : Nat} (h0 : A < 5000) (h1 : B < 5000) (h2 : C < 5000) (h3 : D < 5000) (hm : m = A + 65536 * (B + 65536 * (C + 65536 * D))) :
    m < 1407374883553280000 ∧ m + m / 65536 = (A + B + 65536 * (B + C)) + 4294967296 * (C + D + 65536 * D) := by
  have e1 : m / 65536 = B + 65536 * (C + 65536 * D) := by omega
  rw [e1, hm]
  omega
theorem zf6 {P Q m : Nat} (h0 : P < 700000000) (h1 : Q < 700000000) (hm : m = P + 4294967296 * Q) : m < 3006477107200000000 ∧ m + m / 4294967296 < 4294967296 * 700000001 ∧ (m + m / 4294967296) % 128 = (P + Q) % 128 := by
  have e1 : m / 4294967296 = Q := by omega
  rw [e1, hm]
  omega
/-- the last three steps, over Nat -/
def zN4 (m : Nat) : Nat := m + m / 256
def zN5 (m : Nat) : Nat := m + m / 65536
def zN6 (m : Nat) : Nat := m + m / 4294967296
theorem zNq {A B C D m : Nat} (h0 : A < 5000) (h1 : B < 5000) (h2 : C < 5000) (h3 : D < 5000) (hm : m = A + 65536 * (B + 65536 * (C + 65536 * D))) : m < 1407374883553280000 ∧ zN5 m < 3006477107200000000 ∧ zN6 (zN5 m) % 128 = (A + B + C + D) % 128 := by
  obtain ⟨k1, k2⟩ := zf5 h0 h1 h2 h3 hm
  have e5 : zN5 m = m + m / 65536 := rfl
  rw [← e5] at k2
  clear e5
  generalize zN5 m = m5 at k2 ⊢
  obtain ⟨j1, -, j3⟩ := zf6 (P := A + B + 65536 * (B + C)) (Q := C + D + 65536 * D) (by omega) (by omega) k2
  have e6 : zN6 m5 = m5 + m5 / 4294967296 := rfl
  rw [← e6] at j3
  refine ⟨k1, j1, ?_⟩
  rw [j3]
  omega
theorem zNp {a b c d e f g h m : Nat} (b0 : a ≤ 8) (b1 : b ≤ 8) (b2 : c ≤ 8) (b3 : d ≤ 8) (b4 : e ≤ 8) (b5 : f ≤ 8) (b6 : g ≤ 8) (b7 : h ≤ 8) (eq : m = a + 256 * (b + 256 * (c + 256 * (d + 256 * (e + 256 * (f + 256 * (g + 256 * h))))))) : zN4 m < 1407374883553280000 ∧ zN5 (zN4 m) < 3006477107200000000 ∧ zN6 (zN5 (zN4 m)) % 128 = a + b + c + d + e + f + g + h := by
  have s4 := zf4 b0 b1 b2 b3 b4 b5 b6 b7 eq
  have e4 : zN4 m = m + m / 256 := rfl
  rw [← e4] at s4
  clear e4
  generalize zN4 m = m4 at s4 ⊢
  obtain ⟨q1, q2, q3⟩ := zNq (A := a + b + 256 * (b + c)) (B := c + d + 256 * (d + e)) (C := e + f + 256 * (f + g)) (D := g + h + 256 * h) (by omega) (by omega) (by omega) (by omega) s4
  refine ⟨q1, q2, ?_⟩
  rw [q3]
  omega
theorem zpc64 (n : Nat) : zpc n.testBit 64 = zpo8 (n % 256) + zpo8 (n / 256 % 256) + zpo8 (n / 256 / 256 % 256) + zpo8 (n / 256 / 256 / 256 % 256) + zpo8 (n / 256 / 256 / 256 / 256 % 256) + zpo8 (n / 256 / 256 / 256 / 256 / 256 % 256) + zpo8 (n / 256 / 256 / 256 / 256 / 256 / 256 % 256) + zpo8 (n / 256 / 256 / 256 / 256 / 256 / 256 / 256 % 256) := by
  have e (k : Nat) (n : Nat) : zpc n.testBit (8 + k) = zpo8 (n % 256) + zpc (n / 256).testBit k := zpc8 n k
  have e8 := e 56 n
  have e7 := e 48 (n / 256)
  have e6 := e 40 (n / 256 / 256)
  have e5 := e 32 (n / 256 / 256 / 256)
  have e4 := e 24 (n / 256 / 256 / 256 / 256)
  have e3 := e 16 (n / 256 / 256 / 256 / 256 / 256)
  have e2 := e 8 (n / 256 / 256 / 256 / 256 / 256 / 256)
  have e1 := e 0 (n / 256 / 256 / 256 / 256 / 256 / 256 / 256)
  have e0 : ∀ f : Nat → Bool, zpc f 0 = 0 := fun _ => rfl
  rw [e0] at e1
  simp only [Nat.reduceAdd] at e8 e7 e6 e5 e4 e3 e2 e1
  rw [e8, e7, e6, e5, e4, e3, e2, e1]
  simp only [Nat.add_assoc, Nat.add_zero]
theorem zNs (n : Nat) : zN4 (zQb 8 n) < 1407374883553280000 ∧ zN5 (zN4 (zQb 8 n)) < 3006477107200000000 ∧ zN6 (zN5 (zN4 (zQb 8 n))) % 128 = zpc n.testBit 64 := by
  rw [zpc64]
  exact zNp (zpo8_le _) (zpo8_le _) (zpo8_le _) (zpo8_le _) (zpo8_le _) (zpo8_le _) (zpo8_le _) (zpo8_le _) (by simp only [zQb, Nat.mul_zero, Nat.add_zero])
def zto (v : Int64) : Nat := v.toUInt64.toNat
theorem zto_lt (v : Int64) : zto v < 18446744073709551616 := v.toUInt64.toNat_lt
theorem zQb_lt (n : Nat) : zQb 8 n < 1407374883553280000 := by
  have h := zpo8_le
  have eq : zQb 8 n = zpo8 (n % 256) + 256 * (zpo8 (n / 256 % 256) + 256 * (zpo8 (n / 256 / 256 % 256) + 256 * (zpo8 (n / 256 / 256 / 256 % 256) + 256 * (zpo8 (n / 256 / 256 / 256 / 256 % 256) + 256 * (zpo8 (n / 256 / 256 / 256 / 256 / 256 % 256) + 256 * (zpo8 (n / 256 / 256 / 256 / 256 / 256 / 256 % 256) + 256 * zpo8 (n / 256 / 256 / 256 / 256 / 256 / 256 / 256 % 256))))))) := by
    simp only [zQb, Nat.mul_zero, Nat.add_zero]
  have b0 := zpo8_le (n % 256)
  have b1 := zpo8_le (n / 256 % 256)
  have b2 := zpo8_le (n / 256 / 256 % 256)
  have b3 := zpo8_le (n / 256 / 256 / 256 % 256)
  have b4 := zpo8_le (n / 256 / 256 / 256 / 256 % 256)
  have b5 := zpo8_le (n / 256 / 256 / 256 / 256 / 256 % 256)
  have b6 := zpo8_le (n / 256 / 256 / 256 / 256 / 256 / 256 % 256)
  have b7 := zpo8_le (n / 256 / 256 / 256 / 256 / 256 / 256 / 256 % 256)
  omega
theorem zto_sub {a b : Int64} (h : zto b ≤ zto a) : zto (a - b) = zto a - zto b := by
  have e : (a - b).toUInt64 = a.toUInt64 - b.toUInt64 := rfl
  unfold zto at *
  rw [e, UInt64.toNat_sub_of_le _ _ (by rw [UInt64.le_iff_toNat_le]; exact h)]
theorem zto_add {a b : Int64} (h : zto a + zto b < 18446744073709551616) : zto (a + b) = zto a + zto b := by
  have e : (a + b).toUInt64 = a.toUInt64 + b.toUInt64 := rfl
  unfold zto at *
  rw [e, UInt64.toNat_add, Nat.mod_eq_of_lt h]
theorem zto_and (a b : Int64) : zto (a &&& b) = zto a &&& zto b := by
  have e : (a &&& b).toUInt64 = a.toUInt64 &&& b.toUInt64 := rfl
  unfold zto
  rw [e, UInt64.toNat_and]
theorem zto_shr (v : Int64) (k : UInt64) (hk : k.toNat < 64) : zto (v.toUInt64 >>> k).toInt64 = zto v / 2 ^ k.toNat := by
  unfold zto
  rw [show (v.toUInt64 >>> k).toInt64.toUInt64 = v.toUInt64 >>> k from rfl, UInt64.toNat_shiftRight, Nat.mod_eq_of_lt hk, Nat.shiftRight_eq_div_pow]
theorem zto1 (v : Int64) : zto (zlc1 v) = zZ1 8 (zto v) := by
  have e : zto (v.toUInt64 >>> ((nI 1).toInt64.toUInt64 &&& Int64.toUInt64 63)).toInt64 = zto v / 2 := zto_shr v _ (by decide)
  have h : zto ((v.toUInt64 >>> ((nI 1).toInt64.toUInt64 &&& Int64.toUInt64 63)).toInt64 &&& (6148914691236517205)) = (zto v / 2) &&& zmM 85 8 := by
    rw [zto_and, e]
    rfl
  unfold zlc1 zZ1
  rw [zto_sub (by rw [h]; exact Nat.le_trans Nat.and_le_left (Nat.div_le_self _ _)), h]
theorem zto2 (v : Int64) : zto (zlc2 v) = zZ2 8 (zto v) := by
  have e : zto (v.toUInt64 >>> ((nI 2).toInt64.toUInt64 &&& Int64.toUInt64 63)).toInt64 = zto v / 4 := zto_shr v _ (by decide)
  have h1 : zto (v &&& (3689348814741910323)) = zto v &&& zmM 51 8 := by
    rw [zto_and]
    rfl
  have h2 : zto ((v.toUInt64 >>> ((nI 2).toInt64.toUInt64 &&& Int64.toUInt64 63)).toInt64 &&& (3689348814741910323)) = (zto v / 4) &&& zmM 51 8 := by
    rw [zto_and, e]
    rfl
  have b1 : zto v &&& zmM 51 8 ≤ 3689348814741910323 := Nat.and_le_right
  have b2 : (zto v / 4) &&& zmM 51 8 ≤ 3689348814741910323 := Nat.and_le_right
  unfold zlc2 zZ2
  rw [zto_add (by rw [h1, h2]; omega), h1, h2]
theorem zto3 (v : Int64) (hv : zto v < 7378697629483820647) : zto (zlc3 v) = zZ3 8 (zto v) := by
  have e : zto (v.toUInt64 >>> ((nI 4).toInt64.toUInt64 &&& Int64.toUInt64 63)).toInt64 = zto v / 16 := zto_shr v _ (by decide)
  unfold zlc3 zZ3
  rw [zto_and, zto_add (by rw [e]; omega), e]
  rfl
theorem zto4 (v : Int64) (hv : zto v < 3006477107200000000) : zto (zlc4 v) = zN4 (zto v) := by
  have e : zto (v.toUInt64 >>> ((nI 8).toInt64.toUInt64 &&& Int64.toUInt64 63)).toInt64 = zto v / 256 := zto_shr v _ (by decide)
  unfold zlc4 zN4
  rw [zto_add (by rw [e]; omega), e]
theorem zto5 (v : Int64) (hv : zto v < 3006477107200000000) : zto (zlc5 v) = zN5 (zto v) := by
  have e : zto (v.toUInt64 >>> ((nI 16).toInt64.toUInt64 &&& Int64.toUInt64 63)).toInt64 = zto v / 65536 := zto_shr v _ (by decide)
  unfold zlc5 zN5
  rw [zto_add (by rw [e]; omega), e]
theorem zto6 (v : Int64) (hv : zto v < 3006477107200000000) : zto (zlc6 v) = zN6 (zto v) := by
  have e : zto (v.toUInt64 >>> ((nI 32).toInt64.toUInt64 &&& Int64.toUInt64 63)).toInt64 = zto v / 4294967296 := zto_shr v _ (by decide)
  unfold zlc6 zN6
  rw [zto_add (by rw [e]; omega), e]
theorem zto7 (v : Int64) : v.toInt32 &&& nI 127 = nI (zto v % 128) := by
  have hi : ∀ a b : Int32, a.toUInt32.toNat = b.toUInt32.toNat → a = b := fun a b h => by
    have h2 := UInt32.toNat_inj.mp h
    cases a
    cases b
    cases h2
    rfl
  apply hi
  have e0 : v.toInt32.toUInt32.toNat = zto v % 4294967296 := by
    show v.toInt32.toBitVec.toNat = _
    rw [show v.toInt32.toBitVec = v.toBitVec.signExtend 32 from rfl, BitVec.signExtend_eq_setWidth_of_le _ (by decide), BitVec.toNat_setWidth]
    rfl
  have e1 : (v.toInt32 &&& nI 127).toUInt32 = v.toInt32.toUInt32 &&& 127 := rfl
  have h : zto v % 128 < 128 := Nat.mod_lt _ (by decide)
  have e2 : (nI (zto v % 128)).toUInt32.toNat = zto v % 128 := by
    have hd : ∀ i : Fin 128, (nI i.val).toUInt32.toNat = i.val := by decide +kernel
    exact hd ⟨_, h⟩
  rw [e1, e2, UInt32.toNat_and, e0]
  show zto v % 4294967296 &&& 127 = _
  rw [show 127 = 2 ^ 7 - 1 from rfl, Nat.and_two_pow_sub_one_eq_mod]
  omega
/-- how many bits of a long are set: the count, and the tricks, say the same -/
theorem zlc_e (v : Int64) : zlc v = nI (zpc (zlb v) 64) := by
  have h := zZs 8 (zto v)
  have hs := zNs (zto v)
  have hq := zQb_lt (zto v)
  have e2 : zto (zlc2 (zlc1 v)) = zZ2 8 (zZ1 8 (zto v)) := by rw [zto2, zto1]
  have b2 : zZ2 8 (zZ1 8 (zto v)) < 7378697629483820647 := by
    have b1 : zZ1 8 (zto v) &&& zmM 51 8 ≤ 3689348814741910323 := Nat.and_le_right
    have b3 : (zZ1 8 (zto v) / 4) &&& zmM 51 8 ≤ 3689348814741910323 := Nat.and_le_right
    unfold zZ2
    omega
  have e3 : zto (zlc3 (zlc2 (zlc1 v))) = zQb 8 (zto v) := by rw [zto3 _ (by rw [e2]; exact b2), e2, h.2]
  have e4 : zto (zlc4 (zlc3 (zlc2 (zlc1 v)))) = zN4 (zQb 8 (zto v)) := by rw [zto4 _ (by rw [e3]; omega), e3]
  have e5 : zto (zlc5 (zlc4 (zlc3 (zlc2 (zlc1 v))))) = zN5 (zN4 (zQb 8 (zto v))) := by rw [zto5 _ (by rw [e4]; omega), e4]
  have e6 : zto (zlc6 (zlc5 (zlc4 (zlc3 (zlc2 (zlc1 v)))))) = zN6 (zN5 (zN4 (zQb 8 (zto v)))) := by rw [zto6 _ (by rw [e5]; omega), e5]
  unfold zlc
  rw [zto7, e6, hs.2.2]
  rfl
theorem zlb_or (a b : Int64) (k : Nat) : zlb (a ||| b) k = (zlb a k || zlb b k) := by
  unfold zlb
  rw [show (a ||| b).toUInt64 = a.toUInt64 ||| b.toUInt64 from rfl, UInt64.toNat_or, Nat.testBit_or]
theorem zlb_an (a b : Int64) {k : Nat} (hk : k < 64) : zlb (a &&& (b ^^^ (-1))) k = (zlb a k && !zlb b k) := by
  unfold zlb
  rw [show (a &&& (b ^^^ (-1))).toUInt64 = a.toUInt64 &&& (b.toUInt64 ^^^ (18446744073709551615 : UInt64)) from rfl, UInt64.toNat_and, UInt64.toNat_xor, Nat.testBit_and, Nat.testBit_xor]
  rw [show (18446744073709551615 : UInt64).toNat = 2 ^ 64 - 1 from rfl, Nat.testBit_two_pow_sub_one]
  simp [hk]
theorem zlb_0 (k : Nat) : zlb 0 k = false := by
  unfold zlb
  rw [show (0 : Int64).toUInt64.toNat = 0 from rfl, Nat.zero_testBit]
