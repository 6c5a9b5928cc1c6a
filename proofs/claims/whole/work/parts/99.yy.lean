theorem zKd_q {x y : zX} (h : zQ9 x y) {N : Nat} (g : zKd x N) : zKd y N := fun q hq => by rw [h.1 78 (by decide) (by decide)]; exact g q hq
theorem zTR_q {x y z : zX} {N F C : Nat} (h : zQ9 x y) (g : zTR y N F C z) : zTR x N F C z := by
  intro a q r h1 h2 h3 h4
  have h9 := g a q r h1 h2 h3 h4
  rw [zpwR_q h] at h9
  refine ⟨h9.1, h9.2.trans ?_⟩
  by_cases hb : zbaR x F C a q (nI r)
  · rw [if_pos hb, if_pos ((zbaR_q h).mpr hb)]
  · rw [if_neg hb, if_neg (fun g9 => hb ((zbaR_q h).mp g9))]
theorem zrow_R {x : zX} {N : Nat} (h : zRef x N) {f : Nat → Int32} : zrow (zputn (x.1 85) f 8) := by
  intro t ht
  rw [show zputn (x.1 85) f 8 t = x.1 85 t from if_pos ht]
  rcases h.2.2.2.1 t ht with h1 | ⟨q, hq, h1⟩
  · exact Or.inl h1
  · exact Or.inr ⟨q, by have := h.1; omega, h1⟩
/-- a row's exchange in the reference -/
def zcx (a b : Nat) (y : zX) : zX := zsI (zsI y 100 a (y.1 100 b)) 100 b (y.1 100 a)
theorem zcx_r {a b : Nat} {y : zX} (k : Nat) : (zcx a b y).1 100 k = if k = b then y.1 100 a else if k = a then y.1 100 b else y.1 100 k := by
  unfold zcx
  rw [zsI_u, zsI_u]
  rfl
theorem zcx_z {a b : Nat} {y : zX} : zcx a b (zcx a b y) = y := by
  refine zX_ext (fun i k => ?_) rfl
  by_cases hi : i = 100
  · rw [hi, zcx_r, zcx_r, zcx_r, zcx_r]
    by_cases h1 : k = b
    · rw [if_pos h1, h1]
      by_cases h2 : a = b
      · rw [if_pos h2, h2]
      · rw [if_neg h2, if_pos rfl]
    · rw [if_neg h1]
      by_cases h2 : k = a
      · rw [if_pos h2, if_pos rfl, h2]
      · rw [if_neg h2, if_neg h1, if_neg h2]
  · unfold zcx
    rw [zsI_n hi, zsI_n hi, zsI_n hi, zsI_n hi]
theorem zrow_c {a b : Nat} {y : zX} (ha : a < 8) (hb : b < 8) (h : zrow (y.1 100)) : zrow ((zcx a b y).1 100) := by
  intro k hk
  rw [zcx_r]
  split
  · exact h a ha
  · split
    · exact h b hb
    · exact h k hk
/-- the best swap so far: place, breaks, worth -/
abbrev zS3 : Type := Int32 × Int32 × Int32
def zsw1 (y : zX) (a b : Nat) (t : zS3) : zS3 := if y.1 100 a < 0 ∧ y.1 100 b < 0 then t else if t.2.1 < zsum (zsk (zcx a b y) (-1)) 8 ∨ (zsum (zsk (zcx a b y) (-1)) 8 = t.2.1 ∧ zsum (zsw (zcx a b y)) 8 ≤ t.2.2) then t else (nI (10 * a + b), zsum (zsk (zcx a b y) (-1)) 8, zsum (zsw (zcx a b y)) 8)
def zswi (y : zX) (a : Nat) : Nat → zS3 → zS3
  | 0, t => t
  | n + 1, t => zsw1 y a (a + 1 + n) (zswi y a n t)
def zswo (y : zX) : Nat → zS3 → zS3
  | 0, t => t
  | a + 1, t => zswi y a (7 - a) (zswo y a t)
/-- one sitting tried -/
def zfb1 (N : Nat) (but : Int32) (c : Nat) (t : Bool × zX) : Bool × zX :=
  if ¬ (zlay t.2 N c).2 = true then (t.1, zsrI t.2 100 (zlay t.2 N c).1)
  else if t.1 = true ∧ t.2.1 77 34 < zsum (zsk (zsrI t.2 100 (zlay t.2 N c).1) but) 8 then (t.1, zsrI t.2 100 (zlay t.2 N c).1)
  else if t.1 = true ∧ zsum (zsk (zsrI t.2 100 (zlay t.2 N c).1) but) 8 = t.2.1 77 34 ∧ zsum (zsw (zsrI t.2 100 (zlay t.2 N c).1)) 8 ≤ t.2.1 77 35 then (t.1, zsrI t.2 100 (zlay t.2 N c).1)
  else (true, zsrI (zsI (zsI (zsrI t.2 100 (zlay t.2 N c).1) 77 34 (zsum (zsk (zsrI t.2 100 (zlay t.2 N c).1) but) 8)) 77 35 (zsum (zsw (zsrI t.2 100 (zlay t.2 N c).1)) 8)) 101 (zkp (zlay t.2 N c).1 (t.2.1 101) 8))
def zfbN (N : Nat) (but : Int32) (y : zX) : Nat → Bool × zX
  | 0 => (false, y)
  | c + 1 => zfb1 N but c (zfbN N but y c)

theorem zfbN_q {N : Nat} {but : Int32} {y : zX} : ∀ n, zQ9 y (zfbN N but y n).2 ∧ (zfbN N but y n).2.1 98 = y.1 98 ∧ (zfbN N but y n).2.1 99 = y.1 99
  | 0 => ⟨zQ9.r, rfl, rfl⟩
  | n + 1 => by
    have h := zfbN_q (N := N) (but := but) (y := y) n
    have hw : zQ9 y (zsrI (zfbN N but y n).2 100 (zlay (zfbN N but y n).2 N n).1) := h.1.t (zQ9.w (by decide))
    have e8 : (zsrI (zfbN N but y n).2 100 (zlay (zfbN N but y n).2 N n).1).1 98 = y.1 98 := (zsrI_n (by decide)).trans h.2.1
    have e9 : (zsrI (zfbN N but y n).2 100 (zlay (zfbN N but y n).2 N n).1).1 99 = y.1 99 := (zsrI_n (by decide)).trans h.2.2
    rw [zfbN]
    unfold zfb1
    split
    · exact ⟨hw, e8, e9⟩
    · split
      · exact ⟨hw, e8, e9⟩
      · split
        · exact ⟨hw, e8, e9⟩
        · refine ⟨((hw.t (zQ9.f (Or.inl rfl))).t (zQ9.f (Or.inr rfl))).t (zQ9.w (by decide)), ?_, ?_⟩
          · show (zsrI (zsI (zsI _ 77 34 _) 77 35 _) 101 _).1 98 = _
            rw [zsrI_n (by decide), zsI_n (by decide), zsI_n (by decide)]; exact e8
          · show (zsrI (zsI (zsI _ 77 34 _) 77 35 _) 101 _).1 99 = _
            rw [zsrI_n (by decide), zsI_n (by decide), zsI_n (by decide)]; exact e9
/-- the greatest common divisor, by remainders -/
def zgcd : Nat → Int64 → Int64 → Int64
  | 0, p, _ => p
  | n + 1, p, q => if q = 0 then p else zgcd n q (p - p / q * q)
set_option maxHeartbeats 1000000 in
set_option maxRecDepth 100000 in
theorem c_X12_sitting (l : Launch) {G : zG} (hG : zOK G) (x : zX) (N F C : Nat) (w : Int32) (hr0 : zRef x N) (hcs : zCls x F C) (hkd : zKd x N) : zMi l yX12_sitting wsX12_sitting { frames := 5, cells := 0, slots := 0, locals := 127 } G [.ref (za G 77), .int w] x (fun (r : Int32) (u : zX) => (¬ (¬ w < 0 ∧ ¬ nI 2 < w) ∧ x = u ∧ -100001 = r) ∨ ((¬ w < 0 ∧ ¬ nI 2 < w) ∧ ∃ y, (zQ9 x y ∧ zTR x N F C y) ∧ (zsrI y 100 (zputn (y.1 85) (y.1 100) 8)) = u ∧ (if w = nI 0 then zsum (zsw (zsrI y 100 (zputn (y.1 85) (y.1 100) 8))) 8 else if w = nI 1 then zsum (zsk (zsrI y 100 (zputn (y.1 85) (y.1 100) 8)) (-1)) 8 else zhush (x.1 90) (x.1 91) F C) = r)) := by
  intro A
  refine zBody (cc := cX12_sitting) (maxL := 2) (ret := (some .int)) (by decide) rfl (Nat.le_of_ble_eq_true rfl) ?_
  intro p e s m below meth c hx hb hml hown hts hr hlocks hK hN hI ls hl
  have hown : s.vm.findClass RX12 = some m.cls := hown
  have hl : lv_has ls 2 [(0, .ref (za G 77)), (1, .int w)] := hl
  have wK258 := hts (.constant RX12 258 (-100001)) (z_mem 1 rfl)
  refine lv_aload_n hx hb dX12_sitting_0 rfl (lv_at hl 0 rfl) ?_
  refine lv_iload_n hx hb dX12_sitting_1 rfl (lv_at hl 1 rfl) ?_
  refine lv_iconst (v := (nI 0)) hx hb dX12_sitting_2 rfl ?_
  refine lv_iconst (v := (nI 2)) hx hb dX12_sitting_3 rfl ?_
  refine z_calli (va_runV (As := [.int w, .int (nI 0), .int (nI 2)]) (rest := []) ⟨hx, hb, hml, hown, hts⟩ ((c_X12_in l hG x w (nI 0) (nI 2)) A) (cwV 3 hts gX12_sitting_X12_in rfl rfl rfl (by decide +kernel) ⟨Nat.le_of_ble_eq_true rfl, Nat.le_of_ble_eq_true rfl⟩) (z_pV hI hK hN (z_recv hK hI (zo77 hG) rfl)) rfl rfl hl.1 rfl (lv_room (Nat.le_of_ble_eq_true rfl)) dX12_sitting_4 ⟨Nat.zero_le _, Nat.zero_le _⟩) hI (fun r_4 u H locs hw hI => ?_)
  obtain ⟨rfl, rfl⟩ := hw
  refine lv_if_ne (tgt := 14) hx hb dX12_sitting_7 (by decide) (fun c_7 => ?_) (fun c_7 => ?_)
  · skip
    rw [zb_0, Classical.not_not] at c_7
    refine lv_aload_n hx hb dX12_sitting_14 rfl (lv_at hl 0 rfl) ?_
    refine z_callv (va_runV (As := []) (rest := []) ⟨hx, hb, hml, hown, hts⟩ ((c_X12_layPairs l hG x N F C hr0 hcs hkd) A) (cwV 0 hts gX12_sitting_X12_layPairs rfl rfl rfl (by decide +kernel) ⟨Nat.le_of_ble_eq_true rfl, Nat.le_of_ble_eq_true rfl⟩) (z_pV hI hK hN (z_recv hK hI (zo77 hG) rfl)) rfl rfl hl.1 rfl (lv_room (Nat.le_of_ble_eq_true rfl)) dX12_sitting_15 ⟨Nat.zero_le _, Nat.zero_le _⟩) hI (fun u H locs hw hI => ?_)
    obtain ⟨hLQy, hLTy⟩ := hw
    generalize u = y at hI hLQy hLTy
    refine lv_aload_n hx hb dX12_sitting_18 rfl (lv_at hl 0 rfl) ?_
    refine z_callv (va_runV (As := []) (rest := []) ⟨hx, hb, hml, hown, hts⟩ ((c_X12_asIs l hG y) A) (cwV 0 hts gX12_sitting_X12_asIs rfl rfl rfl (by decide +kernel) ⟨Nat.le_of_ble_eq_true rfl, Nat.le_of_ble_eq_true rfl⟩) (z_pV hI hK hN (z_recv hK hI (zo77 hG) rfl)) rfl rfl hl.1 rfl (lv_room (Nat.le_of_ble_eq_true rfl)) dX12_sitting_19 ⟨Nat.zero_le _, Nat.zero_le _⟩) hI (fun u H locs hw hI => ?_)
    obtain rfl := hw
    refine lv_iload_n hx hb dX12_sitting_22 rfl (lv_at hl 1 rfl) ?_
    refine lv_if_ne (tgt := 33) hx hb dX12_sitting_23 (by decide) (fun c_23 => ?_) (fun c_23 => ?_)
    · skip
      refine lv_iload_n hx hb dX12_sitting_33 rfl (lv_at hl 1 rfl) ?_
      refine lv_iconst (v := (nI 1)) hx hb dX12_sitting_34 rfl ?_
      refine lv_icmp_ne (tgt := 46) hx hb dX12_sitting_35 (by decide) (fun c_35 => ?_) (fun c_35 => ?_)
      · skip
        refine lv_aload_n hx hb dX12_sitting_46 rfl (lv_at hl 0 rfl) ?_
        refine z_calli (va_runV (As := []) (rest := []) ⟨hx, hb, hml, hown, hts⟩ ((c_X12_hushNow l hG (zsrI y 100 (zputn (y.1 85) (y.1 100) 8)) F C (zClR_q (hLQy.t (zQ9.w (by decide))) hcs.1)) A) (cwV 0 hts gX12_sitting_X12_hushNow rfl rfl rfl (by decide +kernel) ⟨Nat.le_of_ble_eq_true rfl, Nat.le_of_ble_eq_true rfl⟩) (z_pV hI hK hN (z_recv hK hI (zo77 hG) rfl)) rfl rfl hl.1 rfl (lv_room (Nat.le_of_ble_eq_true rfl)) dX12_sitting_47 ⟨Nat.zero_le _, Nat.zero_le _⟩) hI (fun r_47 u H locs hw hI => ?_)
        obtain ⟨rfl, rfl⟩ := hw
        exact z_iret hx hb hr hlocks hI (Or.inr ⟨c_7, y, ⟨hLQy, hLTy⟩, rfl, (if_neg c_23).trans ((if_neg c_35).trans (by rw [zsrI_n (by decide), zsrI_n (by decide), hLQy.1 90 (by decide) (by decide), hLQy.1 91 (by decide) (by decide)]))⟩) dX12_sitting_50
      · skip
        refine lv_aload_n hx hb dX12_sitting_38 rfl (lv_at hl 0 rfl) ?_
        refine lv_iconst (v := (-1)) hx hb dX12_sitting_39 rfl ?_
        refine z_calli (va_runV (As := [.int (-1)]) (rest := []) ⟨hx, hb, hml, hown, hts⟩ ((c_X12_breaksThere l hG (zsrI y 100 (zputn (y.1 85) (y.1 100) 8)) (-1) (by rw [zsrI_u]; exact (zrow_R (zRef_q hLQy hr0)))) A) (cwV 1 hts gX12_sitting_X12_breaksThere rfl rfl rfl (by decide +kernel) ⟨Nat.le_of_ble_eq_true rfl, Nat.le_of_ble_eq_true rfl⟩) (z_pV hI hK hN (z_recv hK hI (zo77 hG) rfl)) rfl rfl hl.1 rfl (lv_room (Nat.le_of_ble_eq_true rfl)) dX12_sitting_40 ⟨Nat.zero_le _, Nat.zero_le _⟩) hI (fun r_40 u H locs hw hI => ?_)
        obtain ⟨rfl, rfl⟩ := hw
        refine lv_goto (tgt := 50) hx hb dX12_sitting_43 (by decide) ?_
        exact z_iret hx hb hr hlocks hI (Or.inr ⟨c_7, y, ⟨hLQy, hLTy⟩, rfl, (if_neg c_23).trans (if_pos c_35)⟩) dX12_sitting_50
    · skip
      refine lv_aload_n hx hb dX12_sitting_26 rfl (lv_at hl 0 rfl) ?_
      refine z_calli (va_runV (As := []) (rest := []) ⟨hx, hb, hml, hown, hts⟩ ((c_X12_worthThere l hG (zsrI y 100 (zputn (y.1 85) (y.1 100) 8)) (by rw [zsrI_u]; exact (zrow_R (zRef_q hLQy hr0)))) A) (cwV 0 hts gX12_sitting_X12_worthThere rfl rfl rfl (by decide +kernel) ⟨Nat.le_of_ble_eq_true rfl, Nat.le_of_ble_eq_true rfl⟩) (z_pV hI hK hN (z_recv hK hI (zo77 hG) rfl)) rfl rfl hl.1 rfl (lv_room (Nat.le_of_ble_eq_true rfl)) dX12_sitting_27 ⟨Nat.zero_le _, Nat.zero_le _⟩) hI (fun r_27 u H locs hw hI => ?_)
      obtain ⟨rfl, rfl⟩ := hw
      refine lv_goto (tgt := 50) hx hb dX12_sitting_30 (by decide) ?_
      exact z_iret hx hb hr hlocks hI (Or.inr ⟨c_7, y, ⟨hLQy, hLTy⟩, rfl, if_pos c_23⟩) dX12_sitting_50
  · skip
    rw [zb_0] at c_7
    refine lv_ldcw (v := (-100001)) hx hb hown wK258 dX12_sitting_10 ?_
    exact z_iret hx hb hr hlocks hI (Or.inl ⟨c_7, rfl, rfl⟩) dX12_sitting_13
set_option maxHeartbeats 1000000 in
set_option maxRecDepth 100000 in
theorem c_X12_swap (l : Launch) {G : zG} (hG : zOK G) (x : zX) (N F C : Nat) (hr0 : zRef x N) (hcs : zCls x F C) (hkd : zKd x N) : zMi l yX12_swap wsX12_swap { frames := 5, cells := 0, slots := 0, locals := 127 } G [.ref (za G 77)] x (fun (r : Int32) (u : zX) => ∃ y, (zQ9 x y ∧ zTR x N F C y) ∧ (zsrI y 100 (zputn (y.1 85) (y.1 100) 8)) = u ∧ (zswo u 8 (-5, zsum (zsk u (-1)) 8, zsum (zsw u) 8)).1 = r) := by
  intro A
  refine zBody (cc := cX12_swap) (maxL := 8) (ret := (some .int)) (by decide) rfl (Nat.le_of_ble_eq_true rfl) ?_
  intro p e s m below meth c hx hb hml hown hts hr hlocks hK hN hI ls hl
  have hown : s.vm.findClass RX12 = some m.cls := hown
  have hl : lv_has ls 8 [(0, .ref (za G 77))] := hl
  have hin12 : ∀ w ∈ wsX120, w ∈ wsX12_swap := (fun _ h => List.mem_cons_of_mem _ (List.mem_append_right _ (h)))
  have wF108 := hts (.fieldLink RX12 108 "WhoSitsByModel" "there" "[I") (z_mem 1 rfl)
  refine lv_aload_n hx hb dX12_swap_0 rfl (lv_at hl 0 rfl) ?_
  refine z_callv (va_runV (As := []) (rest := []) ⟨hx, hb, hml, hown, hts⟩ ((c_X12_layPairs l hG x N F C hr0 hcs hkd) A) (cwV 0 hts gX12_swap_X12_layPairs rfl rfl rfl (by decide +kernel) ⟨Nat.le_of_ble_eq_true rfl, Nat.le_of_ble_eq_true rfl⟩) (z_pV hI hK hN (z_recv hK hI (zo77 hG) rfl)) rfl rfl hl.1 rfl (lv_room (Nat.le_of_ble_eq_true rfl)) dX12_swap_1 ⟨Nat.zero_le _, Nat.zero_le _⟩) hI (fun u H locs hw hI => ?_)
  obtain ⟨hLQy, hLTy⟩ := hw
  generalize u = y at hI hLQy hLTy
  refine lv_aload_n hx hb dX12_swap_4 rfl (lv_at hl 0 rfl) ?_
  refine z_callv (va_runV (As := []) (rest := []) ⟨hx, hb, hml, hown, hts⟩ ((c_X12_asIs l hG y) A) (cwV 0 hts gX12_swap_X12_asIs rfl rfl rfl (by decide +kernel) ⟨Nat.le_of_ble_eq_true rfl, Nat.le_of_ble_eq_true rfl⟩) (z_pV hI hK hN (z_recv hK hI (zo77 hG) rfl)) rfl rfl hl.1 rfl (lv_room (Nat.le_of_ble_eq_true rfl)) dX12_swap_5 ⟨Nat.zero_le _, Nat.zero_le _⟩) hI (fun u H locs hw hI => ?_)
  obtain rfl := hw
  have hrw9 : zrow ((zsrI y 100 (zputn (y.1 85) (y.1 100) 8)).1 100) := (by rw [zsrI_u]; exact (zrow_R (zRef_q hLQy hr0)))
  generalize hs9 : (zsrI y 100 (zputn (y.1 85) (y.1 100) 8)) = s9 at hI hrw9
  refine lv_bipush (v := (-5)) hx hb dX12_swap_8 rfl ?_
  refine lv_istore_n (lv' := [(1, .int (-5)), (0, .ref (za G 77))]) hx hb dX12_swap_10 rfl hl (by decide) rfl (fun ls hl => ?_)
  refine lv_aload_n hx hb dX12_swap_11 rfl (lv_at hl 1 rfl) ?_
  refine lv_iconst (v := (-1)) hx hb dX12_swap_12 rfl ?_
  refine z_calli (va_runV (As := [.int (-1)]) (rest := []) ⟨hx, hb, hml, hown, hts⟩ ((c_X12_breaksThere l hG s9 (-1) hrw9) A) (cwV 1 hts gX12_swap_X12_breaksThere rfl rfl rfl (by decide +kernel) ⟨Nat.le_of_ble_eq_true rfl, Nat.le_of_ble_eq_true rfl⟩) (z_pV hI hK hN (z_recv hK hI (zo77 hG) rfl)) rfl rfl hl.1 rfl (lv_room (Nat.le_of_ble_eq_true rfl)) dX12_swap_13 ⟨Nat.zero_le _, Nat.zero_le _⟩) hI (fun r_13 u H locs hw hI => ?_)
  obtain ⟨rfl, rfl⟩ := hw
  refine lv_istore_n (lv' := [(2, .int (zsum (zsk s9 (-1)) 8)), (1, .int (-5)), (0, .ref (za G 77))]) hx hb dX12_swap_16 rfl hl (by decide) rfl (fun ls hl => ?_)
  refine lv_aload_n hx hb dX12_swap_17 rfl (lv_at hl 2 rfl) ?_
  refine z_calli (va_runV (As := []) (rest := []) ⟨hx, hb, hml, hown, hts⟩ ((c_X12_worthThere l hG s9 hrw9) A) (cwV 0 hts gX12_swap_X12_worthThere rfl rfl rfl (by decide +kernel) ⟨Nat.le_of_ble_eq_true rfl, Nat.le_of_ble_eq_true rfl⟩) (z_pV hI hK hN (z_recv hK hI (zo77 hG) rfl)) rfl rfl hl.1 rfl (lv_room (Nat.le_of_ble_eq_true rfl)) dX12_swap_18 ⟨Nat.zero_le _, Nat.zero_le _⟩) hI (fun r_18 u H locs hw hI => ?_)
  obtain ⟨rfl, rfl⟩ := hw
  refine lv_istore_n (lv' := [(3, .int (zsum (zsw s9) 8)), (2, .int (zsum (zsk s9 (-1)) 8)), (1, .int (-5)), (0, .ref (za G 77))]) hx hb dX12_swap_21 rfl hl (by decide) rfl (fun ls hl => ?_)
  refine lv_iconst (v := (nI 0)) hx hb dX12_swap_22 rfl ?_
  refine lv_istore (lv' := [(4, .int (nI 0)), (3, .int (zsum (zsw s9) 8)), (2, .int (zsum (zsk s9 (-1)) 8)), (1, .int (-5)), (0, .ref (za G 77))]) hx hb dX12_swap_23 hl (by decide) rfl (fun ls hl => ?_)
  have L25 : ∀ (f : Nat) (a : Nat) (f9 : Int32) (n9 : Int32) (w9 : Int32), (a ≤ 8) → (zswo s9 a (-5, zsum (zsk s9 (-1)) 8, zsum (zsw s9) 8) = (f9, n9, w9)) → 9 ≤ a + f → ∀ (H : Heap) (locs : List Loc), zI G s9 A s.heap H locs → ∀ ls : Array Slot, lv_has ls 8 [(0, .ref (za G 77)), (1, .int f9), (2, .int n9), (3, .int w9), (4, .int (nI a))] → W p l e { frames := 5, cells := 0, slots := 0, locals := 127 } s m ([.ref (za G 77)] : List Value).toArray below meth c H locs 0 0 (MQ below (va_Qi (fun (r : Int32) (u : zX) => ∃ y, (zQ9 x y ∧ zTR x N F C y) ∧ (zsrI y 100 (zputn (y.1 85) (y.1 100) 8)) = u ∧ (zswo u 8 (-5, zsum (zsk u (-1)) 8, zsum (zsw u) 8)).1 = r) (fun u t => zJ G u A t.heap) A) ([.ref (za G 77)] : List Value).toArray s 0 0 A) (F0 m 25 ls []) := by
    intro f
    induction f with
    | zero =>
      intro a f9 n9 w9 h1 h2 hf
      exact absurd hf (by omega)
    | succ f ih =>
      intro a f9 n9 w9 h1 h2 hf H locs hI ls hl
      have ih25 := ih
      refine lv_iload hx hb dX12_swap_25 (lv_at hl 4 rfl) ?_
      refine lv_bipush (v := (nI 8)) hx hb dX12_swap_27 rfl ?_
      refine lv_icmp_ge (tgt := 145) hx hb dX12_swap_29 (by decide) (fun c_29 => ?_) (fun c_29 => ?_)
      · skip
        rw [zqG (by omega) (by omega)] at c_29
        refine lv_iload_n hx hb dX12_swap_145 rfl (lv_at hl 1 rfl) ?_
        exact z_iret hx hb hr hlocks hI (⟨y, ⟨hLQy, hLTy⟩, hs9, by rw [show a = 8 by omega] at h2; rw [h2]⟩) dX12_swap_146
      · skip
        rw [zqG (by omega) (by omega)] at c_29
        refine lv_iload hx hb dX12_swap_32 (lv_at hl 4 rfl) ?_
        refine lv_iconst (v := (nI 1)) hx hb dX12_swap_34 rfl ?_
        refine z_iadd (v := (nI (a + 1))) hx hb (nI_add _ _) dX12_swap_35 ?_
        refine lv_istore (lv' := [(5, .int (nI (a + 1))), (0, .ref (za G 77)), (1, .int f9), (2, .int n9), (3, .int w9), (4, .int (nI a))]) hx hb dX12_swap_36 hl (by decide) rfl (fun ls hl => ?_)
        have L38 : ∀ (f : Nat) (b : Nat) (k4 : Nat) (f8 : Int32) (n8 : Int32) (w8 : Int32), (b = a + 1 + k4) → (b ≤ 8) → (zswi s9 a k4 (f9, n9, w9) = (f8, n8, w8)) → 9 ≤ b + f → ∀ (H : Heap) (locs : List Loc), zI G s9 A s.heap H locs → ∀ ls : Array Slot, lv_has ls 8 [(0, .ref (za G 77)), (1, .int f8), (2, .int n8), (3, .int w8), (4, .int (nI a)), (5, .int (nI b))] → W p l e { frames := 5, cells := 0, slots := 0, locals := 127 } s m ([.ref (za G 77)] : List Value).toArray below meth c H locs 0 0 (MQ below (va_Qi (fun (r : Int32) (u : zX) => ∃ y, (zQ9 x y ∧ zTR x N F C y) ∧ (zsrI y 100 (zputn (y.1 85) (y.1 100) 8)) = u ∧ (zswo u 8 (-5, zsum (zsk u (-1)) 8, zsum (zsw u) 8)).1 = r) (fun u t => zJ G u A t.heap) A) ([.ref (za G 77)] : List Value).toArray s 0 0 A) (F0 m 38 ls []) := by
          intro f
          induction f with
          | zero =>
            intro b k4 f8 n8 w8 g0 g1 g2 hf
            exact absurd hf (by omega)
          | succ f ih =>
            intro b k4 f8 n8 w8 g0 g1 g2 hf H locs hI ls hl
            have ih38 := ih
            refine lv_iload hx hb dX12_swap_38 (lv_at hl 5 rfl) ?_
            refine lv_bipush (v := (nI 8)) hx hb dX12_swap_40 rfl ?_
            refine lv_icmp_ge (tgt := 139) hx hb dX12_swap_42 (by decide) (fun c_42 => ?_) (fun c_42 => ?_)
            · skip
              rw [zqG (by omega) (by omega)] at c_42
              refine lv_iinc (v := (nI (a + 1))) (lv' := [(4, .int (nI (a + 1))), (0, .ref (za G 77)), (1, .int f8), (2, .int n8), (3, .int w8), (5, .int (nI b))]) hx hb dX12_swap_139 hl (k := 4) rfl (zinc a) (by decide) rfl (fun ls hl => ?_)
              refine lv_goto (tgt := 25) hx hb dX12_swap_142 (by decide) ?_
              exact ih25 (a + 1) f8 n8 w8 (by omega) (by rw [zswo, h2, show 7 - a = k4 by omega]; exact g2) (by omega) _ _ hI ls (lv_sub hl [1, 2, 3, 4, 0] rfl)
            · skip
              rw [zqG (by omega) (by omega)] at c_42
              refine lv_aload_n hx hb dX12_swap_45 rfl (lv_at hl 0 rfl) ?_
              refine z_get (C := RX12) (T := TX12) (N := 51) (ci := 12) (v := .ref (za G 100)) hx hb hts hin12 hown hK hI (zo77 hG) rfl 32 (by decide) wF108 (fun _ h9 => h9) rfl dX12_swap_46 ?_
              refine lv_iload hx hb dX12_swap_49 (lv_at hl 4 rfl) ?_
              refine z_iald (v := (s9.1 100 a)) hx hb hK hI (zo100 hG) a rfl (by omega) (by decide) rfl dX12_swap_51 ?_
              refine lv_if_ge (tgt := 68) hx hb dX12_swap_52 (by decide) (fun c_52 => ?_) (fun c_52 => ?_)
              · skip
                have c_52n : ¬ s9.1 100 a < 0 := Int32.not_lt.mpr c_52
                refine lv_aload_n hx hb dX12_swap_68 rfl (lv_at hl 0 rfl) ?_
                refine lv_iload hx hb dX12_swap_69 (lv_at hl 4 rfl) ?_
                refine lv_iload hx hb dX12_swap_71 (lv_at hl 5 rfl) ?_
                refine z_callv (va_runV (As := [.int (nI a), .int (nI b)]) (rest := []) ⟨hx, hb, hml, hown, hts⟩ ((c_X12_change l hG s9 a b (by omega) (by omega)) A) (cwV 2 hts gX12_swap_X12_change rfl rfl rfl (by decide +kernel) ⟨Nat.le_of_ble_eq_true rfl, Nat.le_of_ble_eq_true rfl⟩) (z_pV hI hK hN (z_recv hK hI (zo77 hG) rfl)) rfl rfl hl.1 rfl (lv_room (Nat.le_of_ble_eq_true rfl)) dX12_swap_73 ⟨Nat.zero_le _, Nat.zero_le _⟩) hI (fun u H locs hw hI => ?_)
                obtain rfl := hw
                have hI : zI G (zcx a b s9) A s.heap H locs := hI
                refine lv_aload_n hx hb dX12_swap_76 rfl (lv_at hl 0 rfl) ?_
                refine lv_iconst (v := (-1)) hx hb dX12_swap_77 rfl ?_
                refine z_calli (va_runV (As := [.int (-1)]) (rest := []) ⟨hx, hb, hml, hown, hts⟩ ((c_X12_breaksThere l hG (zcx a b s9) (-1) (zrow_c (by omega) (by omega) hrw9)) A) (cwV 1 hts gX12_swap_X12_breaksThere rfl rfl rfl (by decide +kernel) ⟨Nat.le_of_ble_eq_true rfl, Nat.le_of_ble_eq_true rfl⟩) (z_pV hI hK hN (z_recv hK hI (zo77 hG) rfl)) rfl rfl hl.1 rfl (lv_room (Nat.le_of_ble_eq_true rfl)) dX12_swap_78 ⟨Nat.zero_le _, Nat.zero_le _⟩) hI (fun r_78 u H locs hw hI => ?_)
                obtain ⟨rfl, rfl⟩ := hw
                refine lv_istore (lv' := [(6, .int (zsum (zsk (zcx a b s9) (-1)) 8)), (0, .ref (za G 77)), (1, .int f8), (2, .int n8), (3, .int w8), (4, .int (nI a)), (5, .int (nI b))]) hx hb dX12_swap_81 hl (by decide) rfl (fun ls hl => ?_)
                refine lv_aload_n hx hb dX12_swap_83 rfl (lv_at hl 1 rfl) ?_
                refine z_calli (va_runV (As := []) (rest := []) ⟨hx, hb, hml, hown, hts⟩ ((c_X12_worthThere l hG (zcx a b s9) (zrow_c (by omega) (by omega) hrw9)) A) (cwV 0 hts gX12_swap_X12_worthThere rfl rfl rfl (by decide +kernel) ⟨Nat.le_of_ble_eq_true rfl, Nat.le_of_ble_eq_true rfl⟩) (z_pV hI hK hN (z_recv hK hI (zo77 hG) rfl)) rfl rfl hl.1 rfl (lv_room (Nat.le_of_ble_eq_true rfl)) dX12_swap_84 ⟨Nat.zero_le _, Nat.zero_le _⟩) hI (fun r_84 u H locs hw hI => ?_)
                obtain ⟨rfl, rfl⟩ := hw
                refine lv_istore (lv' := [(7, .int (zsum (zsw (zcx a b s9)) 8)), (6, .int (zsum (zsk (zcx a b s9) (-1)) 8)), (0, .ref (za G 77)), (1, .int f8), (2, .int n8), (3, .int w8), (4, .int (nI a)), (5, .int (nI b))]) hx hb dX12_swap_87 hl (by decide) rfl (fun ls hl => ?_)
                refine lv_aload_n hx hb dX12_swap_89 rfl (lv_at hl 2 rfl) ?_
                refine lv_iload hx hb dX12_swap_90 (lv_at hl 6 rfl) ?_
                refine lv_iload hx hb dX12_swap_92 (lv_at hl 7 rfl) ?_
                refine z_callv (va_runV (As := [.int (nI a), .int (nI b)]) (rest := []) ⟨hx, hb, hml, hown, hts⟩ ((c_X12_change l hG (zcx a b s9) a b (by omega) (by omega)) A) (cwV 2 hts gX12_swap_X12_change rfl rfl rfl (by decide +kernel) ⟨Nat.le_of_ble_eq_true rfl, Nat.le_of_ble_eq_true rfl⟩) (z_pV hI hK hN (z_recv hK hI (zo77 hG) rfl)) rfl rfl hl.1 rfl (lv_room (Nat.le_of_ble_eq_true rfl)) dX12_swap_94 ⟨Nat.zero_le _, Nat.zero_le _⟩) hI (fun u H locs hw hI => ?_)
                obtain rfl := hw
                have hI : zI G (zcx a b (zcx a b s9)) A s.heap H locs := hI
                rw [zcx_z] at hI
                refine lv_iload hx hb dX12_swap_97 (lv_at hl 1 rfl) ?_
                refine lv_iload_n hx hb dX12_swap_99 rfl (lv_at hl 4 rfl) ?_
                refine lv_icmp_gt (tgt := 133) hx hb dX12_swap_100 (by decide) (fun c_100 => ?_) (fun c_100 => ?_)
                · skip
                  refine lv_iinc (v := (nI (b + 1))) (lv' := [(5, .int (nI (b + 1))), (7, .int (zsum (zsw (zcx a b s9)) 8)), (6, .int (zsum (zsk (zcx a b s9) (-1)) 8)), (0, .ref (za G 77)), (1, .int f8), (2, .int n8), (3, .int w8), (4, .int (nI a))]) hx hb dX12_swap_133 hl (k := 7) rfl (zinc b) (by decide) rfl (fun ls hl => ?_)
                  refine lv_goto (tgt := 38) hx hb dX12_swap_136 (by decide) ?_
                  exact ih38 (b + 1) (k4 + 1) f8 n8 w8 (by omega) (by omega) (by rw [zswi, g2, ← g0]; exact (if_neg (fun h9 => c_52n h9.1)).trans (if_pos (Or.inl c_100))) (by omega) _ _ hI ls (lv_sub hl [3, 4, 5, 6, 7, 0] rfl)
                · skip
                  refine lv_iload hx hb dX12_swap_103 (lv_at hl 1 rfl) ?_
                  refine lv_iload_n hx hb dX12_swap_105 rfl (lv_at hl 4 rfl) ?_
                  refine lv_icmp_ne (tgt := 118) hx hb dX12_swap_106 (by decide) (fun c_106 => ?_) (fun c_106 => ?_)
                  · skip
                    refine lv_bipush (v := (nI 10)) hx hb dX12_swap_118 rfl ?_
                    refine lv_iload hx hb dX12_swap_120 (lv_at hl 6 rfl) ?_
                    refine z_imul (v := (nI (10 * a))) hx hb (pk_mul _ _) dX12_swap_122 ?_
                    refine lv_iload hx hb dX12_swap_123 (lv_at hl 7 rfl) ?_
                    refine z_iadd (v := (nI ((10 * a) + b))) hx hb (nI_add _ _) dX12_swap_125 ?_
                    refine lv_istore_n (lv' := [(1, .int (nI ((10 * a) + b))), (7, .int (zsum (zsw (zcx a b s9)) 8)), (6, .int (zsum (zsk (zcx a b s9) (-1)) 8)), (0, .ref (za G 77)), (2, .int n8), (3, .int w8), (4, .int (nI a)), (5, .int (nI b))]) hx hb dX12_swap_126 rfl hl (by decide) rfl (fun ls hl => ?_)
                    refine lv_iload hx hb dX12_swap_127 (lv_at hl 2 rfl) ?_
                    refine lv_istore_n (lv' := [(2, .int (zsum (zsk (zcx a b s9) (-1)) 8)), (1, .int (nI ((10 * a) + b))), (7, .int (zsum (zsw (zcx a b s9)) 8)), (6, .int (zsum (zsk (zcx a b s9) (-1)) 8)), (0, .ref (za G 77)), (3, .int w8), (4, .int (nI a)), (5, .int (nI b))]) hx hb dX12_swap_129 rfl hl (by decide) rfl (fun ls hl => ?_)
                    refine lv_iload hx hb dX12_swap_130 (lv_at hl 2 rfl) ?_
                    refine lv_istore_n (lv' := [(3, .int (zsum (zsw (zcx a b s9)) 8)), (2, .int (zsum (zsk (zcx a b s9) (-1)) 8)), (1, .int (nI ((10 * a) + b))), (7, .int (zsum (zsw (zcx a b s9)) 8)), (6, .int (zsum (zsk (zcx a b s9) (-1)) 8)), (0, .ref (za G 77)), (4, .int (nI a)), (5, .int (nI b))]) hx hb dX12_swap_132 rfl hl (by decide) rfl (fun ls hl => ?_)
                    refine lv_iinc (v := (nI (b + 1))) (lv' := [(5, .int (nI (b + 1))), (3, .int (zsum (zsw (zcx a b s9)) 8)), (2, .int (zsum (zsk (zcx a b s9) (-1)) 8)), (1, .int (nI ((10 * a) + b))), (7, .int (zsum (zsw (zcx a b s9)) 8)), (6, .int (zsum (zsk (zcx a b s9) (-1)) 8)), (0, .ref (za G 77)), (4, .int (nI a))]) hx hb dX12_swap_133 hl (k := 7) rfl (zinc b) (by decide) rfl (fun ls hl => ?_)
                    refine lv_goto (tgt := 38) hx hb dX12_swap_136 (by decide) ?_
                    exact ih38 (b + 1) (k4 + 1) (nI ((10 * a) + b)) (zsum (zsk (zcx a b s9) (-1)) 8) (zsum (zsw (zcx a b s9)) 8) (by omega) (by omega) (by rw [zswi, g2, ← g0]; exact (if_neg (fun h9 => c_52n h9.1)).trans (if_neg (fun h9 => h9.elim c_100 (fun h9 => c_106 h9.1)))) (by omega) _ _ hI ls (lv_sub hl [6, 3, 2, 1, 7, 0] rfl)
                  · skip
                    refine lv_iload hx hb dX12_swap_109 (lv_at hl 0 rfl) ?_
                    refine lv_iload_n hx hb dX12_swap_111 rfl (lv_at hl 5 rfl) ?_
                    refine lv_icmp_gt (tgt := 118) hx hb dX12_swap_112 (by decide) (fun c_112 => ?_) (fun c_112 => ?_)
                    · skip
                      refine lv_bipush (v := (nI 10)) hx hb dX12_swap_118 rfl ?_
                      refine lv_iload hx hb dX12_swap_120 (lv_at hl 6 rfl) ?_
                      refine z_imul (v := (nI (10 * a))) hx hb (pk_mul _ _) dX12_swap_122 ?_
                      refine lv_iload hx hb dX12_swap_123 (lv_at hl 7 rfl) ?_
                      refine z_iadd (v := (nI ((10 * a) + b))) hx hb (nI_add _ _) dX12_swap_125 ?_
                      refine lv_istore_n (lv' := [(1, .int (nI ((10 * a) + b))), (7, .int (zsum (zsw (zcx a b s9)) 8)), (6, .int (zsum (zsk (zcx a b s9) (-1)) 8)), (0, .ref (za G 77)), (2, .int n8), (3, .int w8), (4, .int (nI a)), (5, .int (nI b))]) hx hb dX12_swap_126 rfl hl (by decide) rfl (fun ls hl => ?_)
                      refine lv_iload hx hb dX12_swap_127 (lv_at hl 2 rfl) ?_
                      refine lv_istore_n (lv' := [(2, .int (zsum (zsk (zcx a b s9) (-1)) 8)), (1, .int (nI ((10 * a) + b))), (7, .int (zsum (zsw (zcx a b s9)) 8)), (6, .int (zsum (zsk (zcx a b s9) (-1)) 8)), (0, .ref (za G 77)), (3, .int w8), (4, .int (nI a)), (5, .int (nI b))]) hx hb dX12_swap_129 rfl hl (by decide) rfl (fun ls hl => ?_)
                      refine lv_iload hx hb dX12_swap_130 (lv_at hl 2 rfl) ?_
                      refine lv_istore_n (lv' := [(3, .int (zsum (zsw (zcx a b s9)) 8)), (2, .int (zsum (zsk (zcx a b s9) (-1)) 8)), (1, .int (nI ((10 * a) + b))), (7, .int (zsum (zsw (zcx a b s9)) 8)), (6, .int (zsum (zsk (zcx a b s9) (-1)) 8)), (0, .ref (za G 77)), (4, .int (nI a)), (5, .int (nI b))]) hx hb dX12_swap_132 rfl hl (by decide) rfl (fun ls hl => ?_)
                      refine lv_iinc (v := (nI (b + 1))) (lv' := [(5, .int (nI (b + 1))), (3, .int (zsum (zsw (zcx a b s9)) 8)), (2, .int (zsum (zsk (zcx a b s9) (-1)) 8)), (1, .int (nI ((10 * a) + b))), (7, .int (zsum (zsw (zcx a b s9)) 8)), (6, .int (zsum (zsk (zcx a b s9) (-1)) 8)), (0, .ref (za G 77)), (4, .int (nI a))]) hx hb dX12_swap_133 hl (k := 7) rfl (zinc b) (by decide) rfl (fun ls hl => ?_)
                      refine lv_goto (tgt := 38) hx hb dX12_swap_136 (by decide) ?_
                      exact ih38 (b + 1) (k4 + 1) (nI ((10 * a) + b)) (zsum (zsk (zcx a b s9) (-1)) 8) (zsum (zsw (zcx a b s9)) 8) (by omega) (by omega) (by rw [zswi, g2, ← g0]; exact (if_neg (fun h9 => c_52n h9.1)).trans (if_neg (fun h9 => h9.elim c_100 (fun h9 => Int32.not_le.mpr c_112 h9.2)))) (by omega) _ _ hI ls (lv_sub hl [6, 3, 2, 1, 7, 0] rfl)
                    · skip
                      refine lv_goto (tgt := 133) hx hb dX12_swap_115 (by decide) ?_
                      refine lv_iinc (v := (nI (b + 1))) (lv' := [(5, .int (nI (b + 1))), (7, .int (zsum (zsw (zcx a b s9)) 8)), (6, .int (zsum (zsk (zcx a b s9) (-1)) 8)), (0, .ref (za G 77)), (1, .int f8), (2, .int n8), (3, .int w8), (4, .int (nI a))]) hx hb dX12_swap_133 hl (k := 7) rfl (zinc b) (by decide) rfl (fun ls hl => ?_)
                      refine lv_goto (tgt := 38) hx hb dX12_swap_136 (by decide) ?_
                      exact ih38 (b + 1) (k4 + 1) f8 n8 w8 (by omega) (by omega) (by rw [zswi, g2, ← g0]; exact (if_neg (fun h9 => c_52n h9.1)).trans (if_pos (Or.inr ⟨c_106, Int32.not_lt.mp c_112⟩))) (by omega) _ _ hI ls (lv_sub hl [3, 4, 5, 6, 7, 0] rfl)
              · skip
                refine lv_aload_n hx hb dX12_swap_55 rfl (lv_at hl 0 rfl) ?_
                refine z_get (C := RX12) (T := TX12) (N := 51) (ci := 12) (v := .ref (za G 100)) hx hb hts hin12 hown hK hI (zo77 hG) rfl 32 (by decide) wF108 (fun _ h9 => h9) rfl dX12_swap_56 ?_
                refine lv_iload hx hb dX12_swap_59 (lv_at hl 5 rfl) ?_
                refine z_iald (v := (s9.1 100 b)) hx hb hK hI (zo100 hG) b rfl (by omega) (by decide) rfl dX12_swap_61 ?_
                refine lv_if_ge (tgt := 68) hx hb dX12_swap_62 (by decide) (fun c_62 => ?_) (fun c_62 => ?_)
                · skip
                  have c_62n : ¬ s9.1 100 b < 0 := Int32.not_lt.mpr c_62
                  refine lv_aload_n hx hb dX12_swap_68 rfl (lv_at hl 0 rfl) ?_
                  refine lv_iload hx hb dX12_swap_69 (lv_at hl 4 rfl) ?_
                  refine lv_iload hx hb dX12_swap_71 (lv_at hl 5 rfl) ?_
                  refine z_callv (va_runV (As := [.int (nI a), .int (nI b)]) (rest := []) ⟨hx, hb, hml, hown, hts⟩ ((c_X12_change l hG s9 a b (by omega) (by omega)) A) (cwV 2 hts gX12_swap_X12_change rfl rfl rfl (by decide +kernel) ⟨Nat.le_of_ble_eq_true rfl, Nat.le_of_ble_eq_true rfl⟩) (z_pV hI hK hN (z_recv hK hI (zo77 hG) rfl)) rfl rfl hl.1 rfl (lv_room (Nat.le_of_ble_eq_true rfl)) dX12_swap_73 ⟨Nat.zero_le _, Nat.zero_le _⟩) hI (fun u H locs hw hI => ?_)
                  obtain rfl := hw
                  have hI : zI G (zcx a b s9) A s.heap H locs := hI
                  refine lv_aload_n hx hb dX12_swap_76 rfl (lv_at hl 0 rfl) ?_
                  refine lv_iconst (v := (-1)) hx hb dX12_swap_77 rfl ?_
                  refine z_calli (va_runV (As := [.int (-1)]) (rest := []) ⟨hx, hb, hml, hown, hts⟩ ((c_X12_breaksThere l hG (zcx a b s9) (-1) (zrow_c (by omega) (by omega) hrw9)) A) (cwV 1 hts gX12_swap_X12_breaksThere rfl rfl rfl (by decide +kernel) ⟨Nat.le_of_ble_eq_true rfl, Nat.le_of_ble_eq_true rfl⟩) (z_pV hI hK hN (z_recv hK hI (zo77 hG) rfl)) rfl rfl hl.1 rfl (lv_room (Nat.le_of_ble_eq_true rfl)) dX12_swap_78 ⟨Nat.zero_le _, Nat.zero_le _⟩) hI (fun r_78 u H locs hw hI => ?_)
                  obtain ⟨rfl, rfl⟩ := hw
                  refine lv_istore (lv' := [(6, .int (zsum (zsk (zcx a b s9) (-1)) 8)), (0, .ref (za G 77)), (1, .int f8), (2, .int n8), (3, .int w8), (4, .int (nI a)), (5, .int (nI b))]) hx hb dX12_swap_81 hl (by decide) rfl (fun ls hl => ?_)
                  refine lv_aload_n hx hb dX12_swap_83 rfl (lv_at hl 1 rfl) ?_
                  refine z_calli (va_runV (As := []) (rest := []) ⟨hx, hb, hml, hown, hts⟩ ((c_X12_worthThere l hG (zcx a b s9) (zrow_c (by omega) (by omega) hrw9)) A) (cwV 0 hts gX12_swap_X12_worthThere rfl rfl rfl (by decide +kernel) ⟨Nat.le_of_ble_eq_true rfl, Nat.le_of_ble_eq_true rfl⟩) (z_pV hI hK hN (z_recv hK hI (zo77 hG) rfl)) rfl rfl hl.1 rfl (lv_room (Nat.le_of_ble_eq_true rfl)) dX12_swap_84 ⟨Nat.zero_le _, Nat.zero_le _⟩) hI (fun r_84 u H locs hw hI => ?_)
                  obtain ⟨rfl, rfl⟩ := hw
                  refine lv_istore (lv' := [(7, .int (zsum (zsw (zcx a b s9)) 8)), (6, .int (zsum (zsk (zcx a b s9) (-1)) 8)), (0, .ref (za G 77)), (1, .int f8), (2, .int n8), (3, .int w8), (4, .int (nI a)), (5, .int (nI b))]) hx hb dX12_swap_87 hl (by decide) rfl (fun ls hl => ?_)
                  refine lv_aload_n hx hb dX12_swap_89 rfl (lv_at hl 2 rfl) ?_
                  refine lv_iload hx hb dX12_swap_90 (lv_at hl 6 rfl) ?_
                  refine lv_iload hx hb dX12_swap_92 (lv_at hl 7 rfl) ?_
                  refine z_callv (va_runV (As := [.int (nI a), .int (nI b)]) (rest := []) ⟨hx, hb, hml, hown, hts⟩ ((c_X12_change l hG (zcx a b s9) a b (by omega) (by omega)) A) (cwV 2 hts gX12_swap_X12_change rfl rfl rfl (by decide +kernel) ⟨Nat.le_of_ble_eq_true rfl, Nat.le_of_ble_eq_true rfl⟩) (z_pV hI hK hN (z_recv hK hI (zo77 hG) rfl)) rfl rfl hl.1 rfl (lv_room (Nat.le_of_ble_eq_true rfl)) dX12_swap_94 ⟨Nat.zero_le _, Nat.zero_le _⟩) hI (fun u H locs hw hI => ?_)
                  obtain rfl := hw
                  have hI : zI G (zcx a b (zcx a b s9)) A s.heap H locs := hI
                  rw [zcx_z] at hI
                  refine lv_iload hx hb dX12_swap_97 (lv_at hl 1 rfl) ?_
                  refine lv_iload_n hx hb dX12_swap_99 rfl (lv_at hl 4 rfl) ?_
                  refine lv_icmp_gt (tgt := 133) hx hb dX12_swap_100 (by decide) (fun c_100 => ?_) (fun c_100 => ?_)
                  · skip
                    refine lv_iinc (v := (nI (b + 1))) (lv' := [(5, .int (nI (b + 1))), (7, .int (zsum (zsw (zcx a b s9)) 8)), (6, .int (zsum (zsk (zcx a b s9) (-1)) 8)), (0, .ref (za G 77)), (1, .int f8), (2, .int n8), (3, .int w8), (4, .int (nI a))]) hx hb dX12_swap_133 hl (k := 7) rfl (zinc b) (by decide) rfl (fun ls hl => ?_)
                    refine lv_goto (tgt := 38) hx hb dX12_swap_136 (by decide) ?_
                    exact ih38 (b + 1) (k4 + 1) f8 n8 w8 (by omega) (by omega) (by rw [zswi, g2, ← g0]; exact (if_neg (fun h9 => c_62n h9.2)).trans (if_pos (Or.inl c_100))) (by omega) _ _ hI ls (lv_sub hl [3, 4, 5, 6, 7, 0] rfl)
                  · skip
                    refine lv_iload hx hb dX12_swap_103 (lv_at hl 1 rfl) ?_
                    refine lv_iload_n hx hb dX12_swap_105 rfl (lv_at hl 4 rfl) ?_
                    refine lv_icmp_ne (tgt := 118) hx hb dX12_swap_106 (by decide) (fun c_106 => ?_) (fun c_106 => ?_)
                    · skip
                      refine lv_bipush (v := (nI 10)) hx hb dX12_swap_118 rfl ?_
                      refine lv_iload hx hb dX12_swap_120 (lv_at hl 6 rfl) ?_
                      refine z_imul (v := (nI (10 * a))) hx hb (pk_mul _ _) dX12_swap_122 ?_
                      refine lv_iload hx hb dX12_swap_123 (lv_at hl 7 rfl) ?_
                      refine z_iadd (v := (nI ((10 * a) + b))) hx hb (nI_add _ _) dX12_swap_125 ?_
                      refine lv_istore_n (lv' := [(1, .int (nI ((10 * a) + b))), (7, .int (zsum (zsw (zcx a b s9)) 8)), (6, .int (zsum (zsk (zcx a b s9) (-1)) 8)), (0, .ref (za G 77)), (2, .int n8), (3, .int w8), (4, .int (nI a)), (5, .int (nI b))]) hx hb dX12_swap_126 rfl hl (by decide) rfl (fun ls hl => ?_)
                      refine lv_iload hx hb dX12_swap_127 (lv_at hl 2 rfl) ?_
                      refine lv_istore_n (lv' := [(2, .int (zsum (zsk (zcx a b s9) (-1)) 8)), (1, .int (nI ((10 * a) + b))), (7, .int (zsum (zsw (zcx a b s9)) 8)), (6, .int (zsum (zsk (zcx a b s9) (-1)) 8)), (0, .ref (za G 77)), (3, .int w8), (4, .int (nI a)), (5, .int (nI b))]) hx hb dX12_swap_129 rfl hl (by decide) rfl (fun ls hl => ?_)
                      refine lv_iload hx hb dX12_swap_130 (lv_at hl 2 rfl) ?_
                      refine lv_istore_n (lv' := [(3, .int (zsum (zsw (zcx a b s9)) 8)), (2, .int (zsum (zsk (zcx a b s9) (-1)) 8)), (1, .int (nI ((10 * a) + b))), (7, .int (zsum (zsw (zcx a b s9)) 8)), (6, .int (zsum (zsk (zcx a b s9) (-1)) 8)), (0, .ref (za G 77)), (4, .int (nI a)), (5, .int (nI b))]) hx hb dX12_swap_132 rfl hl (by decide) rfl (fun ls hl => ?_)
                      refine lv_iinc (v := (nI (b + 1))) (lv' := [(5, .int (nI (b + 1))), (3, .int (zsum (zsw (zcx a b s9)) 8)), (2, .int (zsum (zsk (zcx a b s9) (-1)) 8)), (1, .int (nI ((10 * a) + b))), (7, .int (zsum (zsw (zcx a b s9)) 8)), (6, .int (zsum (zsk (zcx a b s9) (-1)) 8)), (0, .ref (za G 77)), (4, .int (nI a))]) hx hb dX12_swap_133 hl (k := 7) rfl (zinc b) (by decide) rfl (fun ls hl => ?_)
                      refine lv_goto (tgt := 38) hx hb dX12_swap_136 (by decide) ?_
                      exact ih38 (b + 1) (k4 + 1) (nI ((10 * a) + b)) (zsum (zsk (zcx a b s9) (-1)) 8) (zsum (zsw (zcx a b s9)) 8) (by omega) (by omega) (by rw [zswi, g2, ← g0]; exact (if_neg (fun h9 => c_62n h9.2)).trans (if_neg (fun h9 => h9.elim c_100 (fun h9 => c_106 h9.1)))) (by omega) _ _ hI ls (lv_sub hl [6, 3, 2, 1, 7, 0] rfl)
                    · skip
                      refine lv_iload hx hb dX12_swap_109 (lv_at hl 0 rfl) ?_
                      refine lv_iload_n hx hb dX12_swap_111 rfl (lv_at hl 5 rfl) ?_
                      refine lv_icmp_gt (tgt := 118) hx hb dX12_swap_112 (by decide) (fun c_112 => ?_) (fun c_112 => ?_)
                      · skip
                        refine lv_bipush (v := (nI 10)) hx hb dX12_swap_118 rfl ?_
                        refine lv_iload hx hb dX12_swap_120 (lv_at hl 6 rfl) ?_
                        refine z_imul (v := (nI (10 * a))) hx hb (pk_mul _ _) dX12_swap_122 ?_
                        refine lv_iload hx hb dX12_swap_123 (lv_at hl 7 rfl) ?_
                        refine z_iadd (v := (nI ((10 * a) + b))) hx hb (nI_add _ _) dX12_swap_125 ?_
                        refine lv_istore_n (lv' := [(1, .int (nI ((10 * a) + b))), (7, .int (zsum (zsw (zcx a b s9)) 8)), (6, .int (zsum (zsk (zcx a b s9) (-1)) 8)), (0, .ref (za G 77)), (2, .int n8), (3, .int w8), (4, .int (nI a)), (5, .int (nI b))]) hx hb dX12_swap_126 rfl hl (by decide) rfl (fun ls hl => ?_)
                        refine lv_iload hx hb dX12_swap_127 (lv_at hl 2 rfl) ?_
                        refine lv_istore_n (lv' := [(2, .int (zsum (zsk (zcx a b s9) (-1)) 8)), (1, .int (nI ((10 * a) + b))), (7, .int (zsum (zsw (zcx a b s9)) 8)), (6, .int (zsum (zsk (zcx a b s9) (-1)) 8)), (0, .ref (za G 77)), (3, .int w8), (4, .int (nI a)), (5, .int (nI b))]) hx hb dX12_swap_129 rfl hl (by decide) rfl (fun ls hl => ?_)
                        refine lv_iload hx hb dX12_swap_130 (lv_at hl 2 rfl) ?_
                        refine lv_istore_n (lv' := [(3, .int (zsum (zsw (zcx a b s9)) 8)), (2, .int (zsum (zsk (zcx a b s9) (-1)) 8)), (1, .int (nI ((10 * a) + b))), (7, .int (zsum (zsw (zcx a b s9)) 8)), (6, .int (zsum (zsk (zcx a b s9) (-1)) 8)), (0, .ref (za G 77)), (4, .int (nI a)), (5, .int (nI b))]) hx hb dX12_swap_132 rfl hl (by decide) rfl (fun ls hl => ?_)
                        refine lv_iinc (v := (nI (b + 1))) (lv' := [(5, .int (nI (b + 1))), (3, .int (zsum (zsw (zcx a b s9)) 8)), (2, .int (zsum (zsk (zcx a b s9) (-1)) 8)), (1, .int (nI ((10 * a) + b))), (7, .int (zsum (zsw (zcx a b s9)) 8)), (6, .int (zsum (zsk (zcx a b s9) (-1)) 8)), (0, .ref (za G 77)), (4, .int (nI a))]) hx hb dX12_swap_133 hl (k := 7) rfl (zinc b) (by decide) rfl (fun ls hl => ?_)
                        refine lv_goto (tgt := 38) hx hb dX12_swap_136 (by decide) ?_
                        exact ih38 (b + 1) (k4 + 1) (nI ((10 * a) + b)) (zsum (zsk (zcx a b s9) (-1)) 8) (zsum (zsw (zcx a b s9)) 8) (by omega) (by omega) (by rw [zswi, g2, ← g0]; exact (if_neg (fun h9 => c_62n h9.2)).trans (if_neg (fun h9 => h9.elim c_100 (fun h9 => Int32.not_le.mpr c_112 h9.2)))) (by omega) _ _ hI ls (lv_sub hl [6, 3, 2, 1, 7, 0] rfl)
                      · skip
                        refine lv_goto (tgt := 133) hx hb dX12_swap_115 (by decide) ?_
                        refine lv_iinc (v := (nI (b + 1))) (lv' := [(5, .int (nI (b + 1))), (7, .int (zsum (zsw (zcx a b s9)) 8)), (6, .int (zsum (zsk (zcx a b s9) (-1)) 8)), (0, .ref (za G 77)), (1, .int f8), (2, .int n8), (3, .int w8), (4, .int (nI a))]) hx hb dX12_swap_133 hl (k := 7) rfl (zinc b) (by decide) rfl (fun ls hl => ?_)
                        refine lv_goto (tgt := 38) hx hb dX12_swap_136 (by decide) ?_
                        exact ih38 (b + 1) (k4 + 1) f8 n8 w8 (by omega) (by omega) (by rw [zswi, g2, ← g0]; exact (if_neg (fun h9 => c_62n h9.2)).trans (if_pos (Or.inr ⟨c_106, Int32.not_lt.mp c_112⟩))) (by omega) _ _ hI ls (lv_sub hl [3, 4, 5, 6, 7, 0] rfl)
                · skip
                  refine lv_goto (tgt := 133) hx hb dX12_swap_65 (by decide) ?_
                  refine lv_iinc (v := (nI (b + 1))) (lv' := [(5, .int (nI (b + 1))), (0, .ref (za G 77)), (1, .int f8), (2, .int n8), (3, .int w8), (4, .int (nI a))]) hx hb dX12_swap_133 hl (k := 5) rfl (zinc b) (by decide) rfl (fun ls hl => ?_)
                  refine lv_goto (tgt := 38) hx hb dX12_swap_136 (by decide) ?_
                  exact ih38 (b + 1) (k4 + 1) f8 n8 w8 (by omega) (by omega) (by rw [zswi, g2, ← g0]; exact if_pos ⟨Int32.not_le.mp c_52, Int32.not_le.mp c_62⟩) (by omega) _ _ hI ls (lv_sub hl [1, 2, 3, 4, 5, 0] rfl)
        exact L38 (9) (a + 1) 0 f9 n9 w9 (by omega) (by omega) rfl (by omega) _ _ hI ls (lv_sub hl [1, 2, 3, 4, 5, 0] rfl)
  exact L25 (9) 0 (-5) (zsum (zsk s9 (-1)) 8) (zsum (zsw s9) 8) (by omega) rfl (by omega) _ _ hI ls (lv_sub hl [4, 3, 2, 1, 0] rfl)
