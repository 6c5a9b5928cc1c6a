theorem zrem {p q : Int64} (hp : 0 ≤ p.toInt) (hq : 0 < q.toInt) : (p - p / q * q).toInt = p.toInt % q.toInt := by
  have hqn : q ≠ -1 := by
    intro e
    rw [e] at hq
    exact absurd hq (by decide)
  have hd : (p / q).toInt = p.toInt / q.toInt := by rw [Int64.toInt_div_of_ne_right _ _ hqn, Int.tdiv_eq_ediv_of_nonneg hp]
  have h1 : p.toInt / q.toInt * q.toInt ≤ p.toInt := Int.ediv_mul_le _ (by omega)
  have h2 : 0 ≤ p.toInt / q.toInt * q.toInt := Int.mul_nonneg (Int.ediv_nonneg hp (by omega)) (by omega)
  have hlt := Int64.toInt_lt p
  have hm : (p / q * q).toInt = p.toInt / q.toInt * q.toInt := by rw [Int64.toInt_mul, hd, Int.bmod_eq_of_le (by omega) (by omega)]
  rw [Int64.toInt_sub, hm, Int.bmod_eq_of_le (by omega) (by omega), Int.emod_def, Int.mul_comm]
theorem zsml_b {f : Nat → Int64} {B : Int} (hB0 : 0 ≤ B) (hB : B ≤ 2 ^ 50) : ∀ n, n ≤ 8 → (∀ k, k < n → -B ≤ (f k).toInt ∧ (f k).toInt ≤ B) → -(n * B) ≤ (zsml f n).toInt ∧ (zsml f n).toInt ≤ n * B
  | 0, _, _ => by
    show -((0 : Nat) * B) ≤ (0 : Int64).toInt ∧ (0 : Int64).toInt ≤ (0 : Nat) * B
    rw [Int64.toInt_zero]
    omega
  | n + 1, hn, h => by
    have h1 := zsml_b hB0 hB n (by omega) (fun k hk => h k (by omega))
    have h2 := h n (by omega)
    have e : ((n + 1 : Nat) : Int) * B = n * B + B := by rw [Int.natCast_add, Int.add_mul]; omega
    have hb : (n : Int) * B ≤ 8 * 2 ^ 50 := Int.mul_le_mul (by omega) hB hB0 (by omega)
    rw [e, zsml, Int64.toInt_add, Int.bmod_eq_of_le (by omega) (by omega)]
    omega
/-- the sum of all pairs' worth, in the reference -/
def zamR (x : zX) (N F C : Nat) : Int64 := zsml (fun a => zsml (fun b => zsml (fun r => if a = b then 0 else (zpwR x N F C a b (nI r)).toInt64) 2) N) N
theorem zi64_b (v : Int32) : -(2 ^ 31) ≤ v.toInt64.toInt ∧ v.toInt64.toInt ≤ 2 ^ 31 := by
  have h1 := Int32.toInt_lt v
  have h2 := Int32.le_toInt v
  rw [Int32.toInt_toInt64]
  omega
theorem zamR_b {x : zX} {N F C : Nat} (h8 : N ≤ 8) : -(2 ^ 50) ≤ (zamR x N F C).toInt ∧ (zamR x N F C).toInt ≤ 2 ^ 50 := by
  have hr : ∀ a b, -(2 * (2 ^ 31 : Int)) ≤ (zsml (fun r => if a = b then 0 else (zpwR x N F C a b (nI r)).toInt64) 2).toInt ∧ (zsml (fun r => if a = b then 0 else (zpwR x N F C a b (nI r)).toInt64) 2).toInt ≤ 2 * 2 ^ 31 := by
    intro a b
    refine zsml_b (B := 2 ^ 31) (by decide) (by decide) 2 (by decide) (fun k _ => ?_)
    split
    · exact ⟨by rw [Int64.toInt_zero]; decide, by rw [Int64.toInt_zero]; decide⟩
    · exact zi64_b _
  have hb : ∀ a, -(N * (2 * (2 ^ 31 : Int))) ≤ (zsml (fun b => zsml (fun r => if a = b then 0 else (zpwR x N F C a b (nI r)).toInt64) 2) N).toInt ∧ (zsml (fun b => zsml (fun r => if a = b then 0 else (zpwR x N F C a b (nI r)).toInt64) 2) N).toInt ≤ N * (2 * 2 ^ 31) := fun a => zsml_b (B := 2 * 2 ^ 31) (by decide) (by decide) N h8 (fun b _ => hr a b)
  have ha := zsml_b (B := 8 * (2 * 2 ^ 31)) (by decide) (by decide) N h8 (f := fun a => zsml (fun b => zsml (fun r => if a = b then 0 else (zpwR x N F C a b (nI r)).toInt64) 2) N) (fun a _ => by have := hb a; omega)
  unfold zamR
  omega
theorem zlc_lt {a : Int64} (h : ¬ 0 ≤ lg_cmp a 0) : a < 0 := by
  have h1 := lg_cmp_ge a 0
  rw [Int64.lt_iff_toInt_lt, Int64.toInt_zero]
  rw [Int64.le_iff_toInt_le, Int64.toInt_zero] at h1
  by_cases h2 : 0 ≤ a.toInt
  · exact absurd (h1.mpr h2) h
  · omega
theorem zlc_ge {a : Int64} (h : 0 ≤ lg_cmp a 0) : ¬ a < 0 := by
  have h1 := lg_cmp_ge a 0
  rw [Int64.lt_iff_toInt_lt, Int64.toInt_zero]
  rw [Int64.le_iff_toInt_le, Int64.toInt_zero] at h1
  have := h1.mp h
  omega
theorem zabs_ok {v : Int64} (h : -(2 ^ 50) ≤ v.toInt ∧ v.toInt ≤ 2 ^ 50) : 0 ≤ (if v < 0 then -v else v : Int64).toInt := by
  split
  · next h1 =>
    rw [Int64.lt_iff_toInt_lt, Int64.toInt_zero] at h1
    rw [Int64.toInt_neg, Int.bmod_eq_of_le (by omega) (by omega)]
    omega
  · next h1 =>
    rw [Int64.lt_iff_toInt_lt, Int64.toInt_zero] at h1
    omega
theorem zsml_z {a b : Nat} {f : Nat → Int64} (h : a = b) : ∀ {n : Nat}, zsml (fun rr => if a = b then 0 else f rr) n = 0
  | 0 => rfl
  | n + 1 => by rw [zsml, zsml_z h, if_pos h]; rfl
set_option maxHeartbeats 1000000 in
set_option maxRecDepth 100000 in
theorem c_X12_divisor (l : Launch) {G : zG} (hG : zOK G) (x : zX) (a9 : Int64) (hab : 0 ≤ (if a9 < 0 then -a9 else a9 : Int64).toInt) : zMl l yX12_divisor wsX12_divisor { frames := 0, cells := 0, slots := 0, locals := 0 } G [.ref (za G 77), .long a9, .long 14] x (fun (r : Int64) (u : zX) => x = u ∧ zgcd 16 (if a9 < 0 then -a9 else a9) 14 = r ∧ 0 < r.toInt) := by
  intro A
  refine zBody (cc := cX12_divisor) (maxL := 11) (ret := (some .long)) (by decide) rfl (Nat.le_of_ble_eq_true rfl) ?_
  intro p e s m below meth c hx hb hml hown hts hr hlocks hK hN hI ls hl
  have hown : s.vm.findClass RX12 = some m.cls := hown
  have hl : lv_has ls 11 [(0, .ref (za G 77)), (1, .long a9), (3, .long 14)] := hl
  refine lv_lload_n hx hb dX12_divisor_0 rfl (lv_at hl 1 rfl) ?_
  refine lv_lconst (v := 0) hx hb dX12_divisor_1 rfl ?_
  refine W.lcmp hx hb dX12_divisor_2 ?_
  refine lv_if_ge (tgt := 11) hx hb dX12_divisor_3 (by decide) (fun c_3 => ?_) (fun c_3 => ?_)
  · skip
    have hal : ¬ a9 < 0 := fun h9 => zlc_ge c_3 h9
    refine lv_lload_n hx hb dX12_divisor_11 rfl (lv_at hl 1 rfl) ?_
    have hae : a9 = (if a9 < 0 then -a9 else a9) := (if_neg hal).symm
    have hab9 : 0 ≤ (a9 : Int64).toInt := by rw [hae]; exact hab
    refine lv_lstore (lv' := [(5, .long a9), (0, .ref (za G 77)), (1, .long a9), (3, .long 14)]) hx hb dX12_divisor_12 hl (by decide) rfl (fun ls hl => ?_)
    refine lv_lload_n hx hb dX12_divisor_14 rfl (lv_at hl 3 rfl) ?_
    refine lv_lstore (lv' := [(7, .long 14), (5, .long a9), (0, .ref (za G 77)), (1, .long a9), (3, .long 14)]) hx hb dX12_divisor_15 hl (by decide) rfl (fun ls hl => ?_)
    have L17 : ∀ (f : Nat) (n6 : Nat) (p6 : Int64) (q6 : Int64), (0 ≤ p6.toInt) → (0 ≤ q6.toInt ∧ q6.toInt < n6) → (q6.toInt = 0 → 0 < p6.toInt) → (zgcd n6 p6 q6 = zgcd 16 (if a9 < 0 then -a9 else a9) 14) → n6 ≤ f → ∀ (H : Heap) (locs : List Loc), zI G x A s.heap H locs → ∀ ls : Array Slot, lv_has ls 11 [(0, .ref (za G 77)), (1, .long a9), (3, .long 14), (5, .long p6), (7, .long q6)] → W p l e { frames := 0, cells := 0, slots := 0, locals := 0 } s m ([.ref (za G 77), .long a9, .long 14] : List Value).toArray below meth c H locs 0 0 (MQ below (va_Ql (fun (r : Int64) (u : zX) => x = u ∧ zgcd 16 (if a9 < 0 then -a9 else a9) 14 = r ∧ 0 < r.toInt) (fun u t => zJ G u A t.heap) A) ([.ref (za G 77), .long a9, .long 14] : List Value).toArray s 0 0 A) (F0 m 17 ls []) := by
      intro f
      induction f with
      | zero =>
        intro n6 p6 q6 hp0 hq0 hpq hg hf
        exact absurd hf (by omega)
      | succ f ih =>
        intro n6 p6 q6 hp0 hq0 hpq hg hf H locs hI ls hl
        obtain ⟨m6, rfl⟩ : ∃ m, n6 = m + 1 := ⟨n6 - 1, by omega⟩
        have ih17 := ih
        refine lv_lload hx hb dX12_divisor_17 (lv_at hl 4 rfl) ?_
        refine lv_lconst (v := 0) hx hb dX12_divisor_19 rfl ?_
        refine W.lcmp hx hb dX12_divisor_20 ?_
        refine lv_if_eq (tgt := 42) hx hb dX12_divisor_21 (by decide) (fun c_21 => ?_) (fun c_21 => ?_)
        · skip
          rw [zlcmp0] at c_21
          refine lv_lload hx hb dX12_divisor_42 (lv_at hl 3 rfl) ?_
          exact z_lret hx hb hr hlocks hI (⟨rfl, by rw [← hg, zgcd, if_pos c_21], hpq (by rw [c_21]; exact Int64.toInt_zero)⟩) dX12_divisor_44
        · skip
          rw [zlcmp0] at c_21
          have hq6n : ¬ q6 = 0 := c_21
          have hqp : 0 < q6.toInt := by rcases Int.lt_or_eq_of_le hq0.1 with h | h; exact h; exact absurd (Int64.toInt_inj.mp (h.symm.trans Int64.toInt_zero.symm)) c_21
          refine lv_lload hx hb dX12_divisor_24 (lv_at hl 3 rfl) ?_
          refine lv_lload hx hb dX12_divisor_26 (lv_at hl 4 rfl) ?_
          refine lv_lrem hx hb dX12_divisor_28 hq6n ?_
          refine lv_lstore (lv' := [(9, .long (p6 - p6 / q6 * q6)), (0, .ref (za G 77)), (1, .long a9), (3, .long 14), (5, .long p6), (7, .long q6)]) hx hb dX12_divisor_29 hl (by decide) rfl (fun ls hl => ?_)
          refine lv_lload hx hb dX12_divisor_31 (lv_at hl 5 rfl) ?_
          refine lv_lstore (lv' := [(5, .long q6), (9, .long (p6 - p6 / q6 * q6)), (0, .ref (za G 77)), (1, .long a9), (3, .long 14), (7, .long q6)]) hx hb dX12_divisor_33 hl (by decide) rfl (fun ls hl => ?_)
          refine lv_lload hx hb dX12_divisor_35 (lv_at hl 1 rfl) ?_
          refine lv_lstore (lv' := [(7, .long (p6 - p6 / q6 * q6)), (5, .long q6), (9, .long (p6 - p6 / q6 * q6)), (0, .ref (za G 77)), (1, .long a9), (3, .long 14)]) hx hb dX12_divisor_37 hl (by decide) rfl (fun ls hl => ?_)
          refine lv_goto (tgt := 17) hx hb dX12_divisor_39 (by decide) ?_
          exact ih17 m6 q6 (p6 - p6 / q6 * q6) (by omega) (by rw [zrem hp0 hqp]; have h9 := Int.emod_lt_of_pos p6.toInt hqp; have h10 := Int.emod_nonneg p6.toInt (show q6.toInt ≠ 0 by omega); omega) (fun _ => hqp) (by rw [← hg, zgcd, if_neg hq6n]) (by omega) _ _ hI ls (lv_sub hl [3, 4, 5, 1, 0] rfl)
    exact L17 (16) 16 a9 14 hab9 (by decide) (fun h9 => absurd h9 (by decide)) (congrArg (fun q => zgcd 16 q 14) hae) (by omega) _ _ hI ls (lv_sub hl [2, 3, 4, 1, 0] rfl)
  · skip
    have hal : a9 < 0 := zlc_lt c_3
    refine lv_lload_n hx hb dX12_divisor_6 rfl (lv_at hl 1 rfl) ?_
    refine lv_lneg hx hb dX12_divisor_7 ?_
    refine lv_goto (tgt := 12) hx hb dX12_divisor_8 (by decide) ?_
    have hae : (-a9) = (if a9 < 0 then -a9 else a9) := (if_pos hal).symm
    have hab9 : 0 ≤ ((-a9) : Int64).toInt := by rw [hae]; exact hab
    refine lv_lstore (lv' := [(5, .long (-a9)), (0, .ref (za G 77)), (1, .long a9), (3, .long 14)]) hx hb dX12_divisor_12 hl (by decide) rfl (fun ls hl => ?_)
    refine lv_lload_n hx hb dX12_divisor_14 rfl (lv_at hl 3 rfl) ?_
    refine lv_lstore (lv' := [(7, .long 14), (5, .long (-a9)), (0, .ref (za G 77)), (1, .long a9), (3, .long 14)]) hx hb dX12_divisor_15 hl (by decide) rfl (fun ls hl => ?_)
    have L17 : ∀ (f : Nat) (n6 : Nat) (p6 : Int64) (q6 : Int64), (0 ≤ p6.toInt) → (0 ≤ q6.toInt ∧ q6.toInt < n6) → (q6.toInt = 0 → 0 < p6.toInt) → (zgcd n6 p6 q6 = zgcd 16 (if a9 < 0 then -a9 else a9) 14) → n6 ≤ f → ∀ (H : Heap) (locs : List Loc), zI G x A s.heap H locs → ∀ ls : Array Slot, lv_has ls 11 [(0, .ref (za G 77)), (1, .long a9), (3, .long 14), (5, .long p6), (7, .long q6)] → W p l e { frames := 0, cells := 0, slots := 0, locals := 0 } s m ([.ref (za G 77), .long a9, .long 14] : List Value).toArray below meth c H locs 0 0 (MQ below (va_Ql (fun (r : Int64) (u : zX) => x = u ∧ zgcd 16 (if a9 < 0 then -a9 else a9) 14 = r ∧ 0 < r.toInt) (fun u t => zJ G u A t.heap) A) ([.ref (za G 77), .long a9, .long 14] : List Value).toArray s 0 0 A) (F0 m 17 ls []) := by
      intro f
      induction f with
      | zero =>
        intro n6 p6 q6 hp0 hq0 hpq hg hf
        exact absurd hf (by omega)
      | succ f ih =>
        intro n6 p6 q6 hp0 hq0 hpq hg hf H locs hI ls hl
        obtain ⟨m6, rfl⟩ : ∃ m, n6 = m + 1 := ⟨n6 - 1, by omega⟩
        have ih17 := ih
        refine lv_lload hx hb dX12_divisor_17 (lv_at hl 4 rfl) ?_
        refine lv_lconst (v := 0) hx hb dX12_divisor_19 rfl ?_
        refine W.lcmp hx hb dX12_divisor_20 ?_
        refine lv_if_eq (tgt := 42) hx hb dX12_divisor_21 (by decide) (fun c_21 => ?_) (fun c_21 => ?_)
        · skip
          rw [zlcmp0] at c_21
          refine lv_lload hx hb dX12_divisor_42 (lv_at hl 3 rfl) ?_
          exact z_lret hx hb hr hlocks hI (⟨rfl, by rw [← hg, zgcd, if_pos c_21], hpq (by rw [c_21]; exact Int64.toInt_zero)⟩) dX12_divisor_44
        · skip
          rw [zlcmp0] at c_21
          have hq6n : ¬ q6 = 0 := c_21
          have hqp : 0 < q6.toInt := by rcases Int.lt_or_eq_of_le hq0.1 with h | h; exact h; exact absurd (Int64.toInt_inj.mp (h.symm.trans Int64.toInt_zero.symm)) c_21
          refine lv_lload hx hb dX12_divisor_24 (lv_at hl 3 rfl) ?_
          refine lv_lload hx hb dX12_divisor_26 (lv_at hl 4 rfl) ?_
          refine lv_lrem hx hb dX12_divisor_28 hq6n ?_
          refine lv_lstore (lv' := [(9, .long (p6 - p6 / q6 * q6)), (0, .ref (za G 77)), (1, .long a9), (3, .long 14), (5, .long p6), (7, .long q6)]) hx hb dX12_divisor_29 hl (by decide) rfl (fun ls hl => ?_)
          refine lv_lload hx hb dX12_divisor_31 (lv_at hl 5 rfl) ?_
          refine lv_lstore (lv' := [(5, .long q6), (9, .long (p6 - p6 / q6 * q6)), (0, .ref (za G 77)), (1, .long a9), (3, .long 14), (7, .long q6)]) hx hb dX12_divisor_33 hl (by decide) rfl (fun ls hl => ?_)
          refine lv_lload hx hb dX12_divisor_35 (lv_at hl 1 rfl) ?_
          refine lv_lstore (lv' := [(7, .long (p6 - p6 / q6 * q6)), (5, .long q6), (9, .long (p6 - p6 / q6 * q6)), (0, .ref (za G 77)), (1, .long a9), (3, .long 14)]) hx hb dX12_divisor_37 hl (by decide) rfl (fun ls hl => ?_)
          refine lv_goto (tgt := 17) hx hb dX12_divisor_39 (by decide) ?_
          exact ih17 m6 q6 (p6 - p6 / q6 * q6) (by omega) (by rw [zrem hp0 hqp]; have h9 := Int.emod_lt_of_pos p6.toInt hqp; have h10 := Int.emod_nonneg p6.toInt (show q6.toInt ≠ 0 by omega); omega) (fun _ => hqp) (by rw [← hg, zgcd, if_neg hq6n]) (by omega) _ _ hI ls (lv_sub hl [3, 4, 5, 1, 0] rfl)
    exact L17 (16) 16 (-a9) 14 hab9 (by decide) (fun h9 => absurd h9 (by decide)) (congrArg (fun q => zgcd 16 q 14) hae) (by omega) _ _ hI ls (lv_sub hl [2, 3, 4, 1, 0] rfl)
