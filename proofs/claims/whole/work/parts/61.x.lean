set_option maxHeartbeats 1000000 in
set_option maxRecDepth 100000 in
theorem c_X5_byteAt (l : Launch) {G : zG} (hG : zOK G) (x : zX) (b L k : Nat) (hb0 : zRm b) (hL : x.1 b 8 = nI L) (hL9 : L ≤ 100) (hk9 : k ≤ 200) : zMi l yX5_byteAt wsX5_byteAt { frames := 0, cells := 0, slots := 0, locals := 0 } G [.ref (za G b), .int (nI k)] x (fun (r : Int32) (u : zX) => x = u ∧ zby x b L k = r) := by
  intro A
  refine zBody (cc := cX5_byteAt) (maxL := 2) (ret := (some .int)) (by decide) rfl (Nat.le_of_ble_eq_true rfl) ?_
  intro p e s m below meth c hx hb hml hown hts hr hlocks hK hN hI ls hl
  have hown : s.vm.findClass RX5 = some m.cls := hown
  have hl : lv_has ls 2 [(0, .ref (za G b)), (1, .int (nI k))] := hl
  have hin5 : ∀ w ∈ wsX50, w ∈ wsX5_byteAt := (fun _ h => List.mem_cons_of_mem _ (List.mem_append_right _ (h)))
  have wF44 := hts (.fieldLink RX5 44 "WhoSitsBy$Room" "length" "I") (z_mem 1 rfl)
  have wF28 := hts (.fieldLink RX5 28 "WhoSitsBy$Room" "source" "[B") (z_mem 2 rfl)
  refine lv_iload_n hx hb dX5_byteAt_0 rfl (lv_at hl 1 rfl) ?_
  refine lv_if_lt (tgt := 30) hx hb dX5_byteAt_1 (by decide) (fun c_1 => ?_) (fun c_1 => ?_)
  · skip
    rw [show (0 : Int32) = nI 0 from rfl] at c_1; rw [zqL (by omega) (by omega)] at c_1
    exact absurd c_1 (by omega)
  · skip
    rw [show (0 : Int32) = nI 0 from rfl] at c_1; rw [zqL (by omega) (by omega)] at c_1
    refine lv_iload_n hx hb dX5_byteAt_4 rfl (lv_at hl 1 rfl) ?_
    refine lv_aload_n hx hb dX5_byteAt_5 rfl (lv_at hl 0 rfl) ?_
    refine z_get (C := RX5) (T := TX5) (N := 11) (ci := 5) (v := .int (nI L)) hx hb hts hin5 hown hK hI (zor hG hb0) rfl 8 (by decide) wF44 (fun _ h9 => h9) (congrArg (fun q => some (Value.int q)) hL) dX5_byteAt_6 ?_
    refine lv_icmp_ge (tgt := 30) hx hb dX5_byteAt_9 (by decide) (fun c_9 => ?_) (fun c_9 => ?_)
    · skip
      rw [zqG (by omega) (by omega)] at c_9
      refine lv_iconst (v := (-1)) hx hb dX5_byteAt_30 rfl ?_
      exact z_iret hx hb hr hlocks hI (⟨rfl, if_neg (by omega)⟩) dX5_byteAt_31
    · skip
      rw [zqG (by omega) (by omega)] at c_9
      refine lv_iload_n hx hb dX5_byteAt_12 rfl (lv_at hl 1 rfl) ?_
      refine lv_aload_n hx hb dX5_byteAt_13 rfl (lv_at hl 0 rfl) ?_
      refine z_get (C := RX5) (T := TX5) (N := 11) (ci := 5) (v := .ref (za G (b + 5))) hx hb hts hin5 hown hK hI (zor hG hb0) rfl 7 (by decide) wF28 (fun _ h9 => h9) rfl dX5_byteAt_14 ?_
      refine z_alen (v := nI 100) hx hb hK hI 2 (zor5 hG hb0).1 ((zor5 hG hb0).2 _) rfl rfl dX5_byteAt_17 ?_
      refine lv_icmp_ge (tgt := 30) hx hb dX5_byteAt_18 (by decide) (fun c_18 => ?_) (fun c_18 => ?_)
      · skip
        rw [zqG (by omega) (by omega)] at c_18
        exact absurd c_18 (by omega)
      · skip
        rw [zqG (by omega) (by omega)] at c_18
        refine lv_aload_n hx hb dX5_byteAt_21 rfl (lv_at hl 0 rfl) ?_
        refine z_get (C := RX5) (T := TX5) (N := 11) (ci := 5) (v := .ref (za G (b + 5))) hx hb hts hin5 hown hK hI (zor hG hb0) rfl 7 (by decide) wF28 (fun _ h9 => h9) rfl dX5_byteAt_22 ?_
        refine lv_iload_n hx hb dX5_byteAt_25 rfl (lv_at hl 1 rfl) ?_
        refine z_bald (v := (x.1 (b + 5) k)) hx hb hK hI (zor5 hG hb0) k rfl (by omega) (by decide) rfl dX5_byteAt_26 ?_
        refine lv_goto (tgt := 31) hx hb dX5_byteAt_27 (by decide) ?_
        exact z_iret hx hb hr hlocks hI (⟨rfl, if_pos (by omega)⟩) dX5_byteAt_31
set_option maxHeartbeats 1000000 in
set_option maxRecDepth 100000 in
theorem c_X5_takes (l : Launch) {G : zG} (hG : zOK G) (x : zX) (b L p1 : Nat) (sg : Int32) (hb0 : zRm b) (hL : x.1 b 8 = nI L) (hL9 : L ≤ 100) (hat : x.1 b 9 = nI p1) (hp1 : p1 ≤ 100) : zMi l yX5_takes wsX5_takes { frames := 1, cells := 0, slots := 0, locals := 21 } G [.ref (za G b), .int sg] x (fun (r : Int32) (u : zX) => (zby x b L p1 = sg ∧ zsI x b 9 (nI (p1 + 1)) = u ∧ nI 1 = r) ∨ (¬ zby x b L p1 = sg ∧ x = u ∧ nI 0 = r)) := by
  intro A
  refine zBody (cc := cX5_takes) (maxL := 2) (ret := (some .boolean)) (by decide) rfl (Nat.le_of_ble_eq_true rfl) ?_
  intro p e s m below meth c hx hb hml hown hts hr hlocks hK hN hI ls hl
  have hown : s.vm.findClass RX5 = some m.cls := hown
  have hl : lv_has ls 2 [(0, .ref (za G b)), (1, .int sg)] := hl
  have hin5 : ∀ w ∈ wsX50, w ∈ wsX5_takes := (fun _ h => List.mem_cons_of_mem _ (List.mem_append_right _ (h)))
  have wF53 := hts (.fieldLink RX5 53 "WhoSitsBy$Room" "at" "I") (z_mem 1 rfl)
  refine lv_aload_n hx hb dX5_takes_0 rfl (lv_at hl 0 rfl) ?_
  refine lv_aload_n hx hb dX5_takes_1 rfl (lv_at hl 0 rfl) ?_
  refine z_get (C := RX5) (T := TX5) (N := 11) (ci := 5) (v := .int (nI p1)) hx hb hts hin5 hown hK hI (zor hG hb0) rfl 9 (by decide) wF53 (fun _ h9 => h9) (congrArg (fun q => some (Value.int q)) hat) dX5_takes_2 ?_
  refine z_calli (va_runV (As := [.int (nI p1)]) (rest := []) ⟨hx, hb, hml, hown, hts⟩ ((c_X5_byteAt l hG x b L p1 hb0 hL hL9 (by omega)) A) (cwV 1 hts gX5_takes_X5_byteAt rfl rfl rfl (by decide +kernel) ⟨Nat.le_of_ble_eq_true rfl, Nat.le_of_ble_eq_true rfl⟩) (z_pV hI hK hN (z_recv hK hI (zor hG hb0) rfl)) rfl rfl hl.1 rfl (lv_room (Nat.le_of_ble_eq_true rfl)) dX5_takes_5 ⟨Nat.zero_le _, Nat.zero_le _⟩) hI (fun r_5 u H locs hw hI => ?_)
  obtain ⟨rfl, rfl⟩ := hw
  refine lv_iload_n hx hb dX5_takes_8 rfl (lv_at hl 1 rfl) ?_
  refine lv_icmp_eq (tgt := 14) hx hb dX5_takes_9 (by decide) (fun c_9 => ?_) (fun c_9 => ?_)
  · skip
    refine lv_aload_n hx hb dX5_takes_14 rfl (lv_at hl 0 rfl) ?_
    refine lv_dup hx hb dX5_takes_15 rfl ?_
    refine z_get (C := RX5) (T := TX5) (N := 11) (ci := 5) (v := .int (nI p1)) hx hb hts hin5 hown hK hI (zor hG hb0) rfl 9 (by decide) wF53 (fun _ h9 => h9) (congrArg (fun q => some (Value.int q)) hat) dX5_takes_16 ?_
    refine lv_iconst (v := (nI 1)) hx hb dX5_takes_19 rfl ?_
    refine z_iadd (v := (nI (p1 + 1))) hx hb (nI_add _ _) dX5_takes_20 ?_
    refine z_putI (C := RX5) (T := TX5) (N := 11) (ci := 5) (ty := .int) hx hb hts hin5 tyX5 tyX5_ok nmX5 hown hK hI (zor hG hb0) rfl 9 (by decide) wF53 (fun _ h9 => h9) rfl (fun _ _ => rfl) (by decide +kernel) rfl rfl (fun _ _ => Nat.le_of_ble_eq_true rfl) dX5_takes_21 (fun H locs hI => ?_)
    refine lv_iconst (v := (nI 1)) hx hb dX5_takes_24 rfl ?_
    exact z_zret hx hb hr hlocks hI (Or.inr rfl) (Or.inl ⟨c_9, rfl, rfl⟩) dX5_takes_25
  · skip
    refine lv_iconst (v := (nI 0)) hx hb dX5_takes_12 rfl ?_
    exact z_zret hx hb hr hlocks hI (Or.inl rfl) (Or.inr ⟨c_9, rfl, rfl⟩) dX5_takes_13
set_option maxHeartbeats 1000000 in
set_option maxRecDepth 100000 in
theorem c_X5_puts (l : Launch) {G : zG} (hG : zOK G) (x : zX) (b c1 : Nat) (v : Int32) (hb0 : zRm b) (hc1 : c1 ≤ 100) (hcc : x.1 b 5 = nI c1) : zMi l yX5_puts wsX5_puts { frames := 0, cells := 0, slots := 0, locals := 0 } G [.ref (za G b), .int v] x (fun (r : Int32) (u : zX) => (¬ c1 < 100 ∧ x = u ∧ nI 0 = r) ∨ (c1 < 100 ∧ zps x b c1 v = u ∧ nI 1 = r)) := by
  intro A
  refine zBody (cc := cX5_puts) (maxL := 2) (ret := (some .boolean)) (by decide) rfl (Nat.le_of_ble_eq_true rfl) ?_
  intro p e s m below meth c hx hb hml hown hts hr hlocks hK hN hI ls hl
  have hown : s.vm.findClass RX5 = some m.cls := hown
  have hl : lv_has ls 2 [(0, .ref (za G b)), (1, .int v)] := hl
  have hin5 : ∀ w ∈ wsX50, w ∈ wsX5_puts := (fun _ h => List.mem_cons_of_mem _ (List.mem_append_right _ (h)))
  have wF59 := hts (.fieldLink RX5 59 "WhoSitsBy$Room" "codeCount" "I") (z_mem 1 rfl)
  have wF21 := hts (.fieldLink RX5 21 "WhoSitsBy$Room" "codes" "[I") (z_mem 2 rfl)
  refine lv_aload_n hx hb dX5_puts_0 rfl (lv_at hl 0 rfl) ?_
  refine z_get (C := RX5) (T := TX5) (N := 11) (ci := 5) (v := .int (nI c1)) hx hb hts hin5 hown hK hI (zor hG hb0) rfl 5 (by decide) wF59 (fun _ h9 => h9) (congrArg (fun q => some (Value.int q)) hcc) dX5_puts_1 ?_
  refine lv_if_lt (tgt := 19) hx hb dX5_puts_4 (by decide) (fun c_4 => ?_) (fun c_4 => ?_)
  · skip
    rw [show (0 : Int32) = nI 0 from rfl] at c_4; rw [zqL (by omega) (by omega)] at c_4
    exact absurd c_4 (by omega)
  · skip
    rw [show (0 : Int32) = nI 0 from rfl] at c_4; rw [zqL (by omega) (by omega)] at c_4
    refine lv_aload_n hx hb dX5_puts_7 rfl (lv_at hl 0 rfl) ?_
    refine z_get (C := RX5) (T := TX5) (N := 11) (ci := 5) (v := .int (nI c1)) hx hb hts hin5 hown hK hI (zor hG hb0) rfl 5 (by decide) wF59 (fun _ h9 => h9) (congrArg (fun q => some (Value.int q)) hcc) dX5_puts_8 ?_
    refine lv_aload_n hx hb dX5_puts_11 rfl (lv_at hl 0 rfl) ?_
    refine z_get (C := RX5) (T := TX5) (N := 11) (ci := 5) (v := .ref (za G (b + 4))) hx hb hts hin5 hown hK hI (zor hG hb0) rfl 3 (by decide) wF21 (fun _ h9 => h9) rfl dX5_puts_12 ?_
    refine z_alen (v := nI 100) hx hb hK hI 0 (zor4 hG hb0).1 ((zor4 hG hb0).2 _) rfl rfl dX5_puts_15 ?_
    refine lv_icmp_lt (tgt := 21) hx hb dX5_puts_16 (by decide) (fun c_16 => ?_) (fun c_16 => ?_)
    · skip
      rw [zqL (by omega) (by omega)] at c_16
      refine lv_aload_n hx hb dX5_puts_21 rfl (lv_at hl 0 rfl) ?_
      refine z_get (C := RX5) (T := TX5) (N := 11) (ci := 5) (v := .ref (za G (b + 4))) hx hb hts hin5 hown hK hI (zor hG hb0) rfl 3 (by decide) wF21 (fun _ h9 => h9) rfl dX5_puts_22 ?_
      refine lv_aload_n hx hb dX5_puts_25 rfl (lv_at hl 0 rfl) ?_
      refine z_get (C := RX5) (T := TX5) (N := 11) (ci := 5) (v := .int (nI c1)) hx hb hts hin5 hown hK hI (zor hG hb0) rfl 5 (by decide) wF59 (fun _ h9 => h9) (congrArg (fun q => some (Value.int q)) hcc) dX5_puts_26 ?_
      refine lv_iload_n hx hb dX5_puts_29 rfl (lv_at hl 1 rfl) ?_
      refine z_iast (y := v) hx hb hK hI (zor4 hG hb0) c1 rfl (by omega) (by decide) dX5_puts_30 (fun H locs hI => ?_)
      refine lv_aload_n hx hb dX5_puts_31 rfl (lv_at hl 0 rfl) ?_
      refine lv_dup hx hb dX5_puts_32 rfl ?_
      refine z_get (C := RX5) (T := TX5) (N := 11) (ci := 5) (v := .int (nI c1)) hx hb hts hin5 hown hK hI (zor hG hb0) rfl 5 (by decide) wF59 (fun _ h9 => h9) (congrArg (fun q => some (Value.int q)) ((congrFun (zsI_n (show b ≠ b + 4 by omega)) 5).trans hcc)) dX5_puts_33 ?_
      refine lv_iconst (v := (nI 1)) hx hb dX5_puts_36 rfl ?_
      refine z_iadd (v := (nI (c1 + 1))) hx hb (nI_add _ _) dX5_puts_37 ?_
      refine z_putI (C := RX5) (T := TX5) (N := 11) (ci := 5) (ty := .int) hx hb hts hin5 tyX5 tyX5_ok nmX5 hown hK hI (zor hG hb0) rfl 5 (by decide) wF59 (fun _ h9 => h9) rfl (fun _ _ => rfl) (by decide +kernel) rfl rfl (fun _ _ => Nat.le_of_ble_eq_true rfl) dX5_puts_38 (fun H locs hI => ?_)
      refine lv_iconst (v := (nI 1)) hx hb dX5_puts_41 rfl ?_
      exact z_zret hx hb hr hlocks hI (Or.inr rfl) (Or.inr ⟨by omega, rfl, rfl⟩) dX5_puts_42
    · skip
      rw [zqL (by omega) (by omega)] at c_16
      refine lv_iconst (v := (nI 0)) hx hb dX5_puts_19 rfl ?_
      exact z_zret hx hb hr hlocks hI (Or.inl rfl) (Or.inl ⟨by omega, rfl, rfl⟩) dX5_puts_20
