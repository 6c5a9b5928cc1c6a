set_option maxHeartbeats 1000000 in
set_option maxRecDepth 100000 in
theorem c_X12_takesNumber (l : Launch) {G : zG} (hG : zOK G) (x : zX) (p1 s1 n1 F : Nat) (o1 d1 : Int32) (w4 w5 : Nat → Int32) (hfd : x.1 77 14 = nI F) (hF : F ≤ 100) (hp1 : p1 ≤ F) : zMi l yX12_takesNumber wsX12_takesNumber { frames := 2, cells := 0, slots := 0, locals := 43 } G [.ref (za G 77)] (zrr x p1 s1 n1 o1 d1 w4 w5) (fun (r : Int32) (u : zX) => zrr x (znuR (zrt x F) p1 d1).2.1 s1 n1 o1 (znuR (zrt x F) p1 d1).2.2 w4 w5 = u ∧ (if (znuR (zrt x F) p1 d1).1 = true then nI 1 else nI 0) = r) := by
  intro A
  refine zBody (cc := cX12_takesNumber) (maxL := 2) (ret := (some .boolean)) (by decide) rfl (Nat.le_of_ble_eq_true rfl) ?_
  intro p e s m below meth c hx hb hml hown hts hr hlocks hK hN hI ls hl
  have hown : s.vm.findClass RX12 = some m.cls := hown
  have hl : lv_has ls 2 [(0, .ref (za G 77))] := hl
  have hin12 : ∀ w ∈ wsX120, w ∈ wsX12_takesNumber := (fun _ h => List.mem_cons_of_mem _ (List.mem_append_right _ (h)))
  have wF60 := hts (.fieldLink RX12 60 "WhoSitsByModel" "digits" "I") (z_mem 1 rfl)
  have wF57 := hts (.fieldLink RX12 57 "WhoSitsByModel" "at" "I") (z_mem 2 rfl)
  refine lv_aload_n hx hb dX12_takesNumber_0 rfl (lv_at hl 0 rfl) ?_
  refine z_calli (va_runV (As := []) (rest := []) ⟨hx, hb, hml, hown, hts⟩ ((c_X12_isDigitR l hG x p1 s1 n1 o1 d1 w4 w5 F hfd hF (by omega)) A) (cwV 0 hts gX12_takesNumber_X12_isDigit rfl rfl rfl (by decide +kernel) ⟨Nat.le_of_ble_eq_true rfl, Nat.le_of_ble_eq_true rfl⟩) (z_pV hI hK hN (z_recv hK hI (zo77 hG) rfl)) rfl rfl hl.1 rfl (lv_room (Nat.le_of_ble_eq_true rfl)) dX12_takesNumber_1 ⟨Nat.zero_le _, Nat.zero_le _⟩) hI (fun r_1 u H locs hw hI => ?_)
  obtain ⟨rfl, rfl⟩ := hw
  refine lv_if_ne (tgt := 9) hx hb dX12_takesNumber_4 (by decide) (fun c_4 => ?_) (fun c_4 => ?_)
  · skip
    rw [zb_0, Classical.not_not] at c_4
    refine lv_aload_n hx hb dX12_takesNumber_9 rfl (lv_at hl 0 rfl) ?_
    refine lv_iconst (v := (nI 0)) hx hb dX12_takesNumber_10 rfl ?_
    refine z_putI (C := RX12) (T := TX12) (N := 51) (ci := 12) (ty := .int) hx hb hts hin12 tyX12 tyX12_ok nmX12 hown hK hI (zo77 hG) rfl 16 (by decide) wF60 (fun _ h9 => h9) rfl (fun _ _ => rfl) (by decide +kernel) rfl rfl (fun _ _ => Nat.le_of_ble_eq_true rfl) dX12_takesNumber_11 (fun H locs hI => ?_)
    rw [zrr_16] at hI
    refine lv_iconst (v := (nI 0)) hx hb dX12_takesNumber_14 rfl ?_
    refine lv_istore_n (lv' := [(1, .int (nI 0)), (0, .ref (za G 77))]) hx hb dX12_takesNumber_15 rfl hl (by decide) rfl (fun ls hl => ?_)
    refine lv_iload_n hx hb dX12_takesNumber_16 rfl (lv_at hl 0 rfl) ?_
    refine lv_iconst (v := (nI 2)) hx hb dX12_takesNumber_17 rfl ?_
    refine lv_icmp_ge (tgt := 63) hx hb dX12_takesNumber_18 (by decide) (fun c_18 => absurd c_18 (by decide)) (fun c_18 => ?_)
    refine lv_aload_n hx hb dX12_takesNumber_21 rfl (lv_at hl 1 rfl) ?_
    refine z_calli (va_runV (As := []) (rest := []) ⟨hx, hb, hml, hown, hts⟩ ((c_X12_isDigitR l hG x p1 s1 n1 o1 (nI 0) w4 w5 F hfd hF (by omega)) A) (cwV 0 hts gX12_takesNumber_X12_isDigit rfl rfl rfl (by decide +kernel) ⟨Nat.le_of_ble_eq_true rfl, Nat.le_of_ble_eq_true rfl⟩) (z_pV hI hK hN (z_recv hK hI (zo77 hG) rfl)) rfl rfl hl.1 rfl (lv_room (Nat.le_of_ble_eq_true rfl)) dX12_takesNumber_22 ⟨Nat.zero_le _, Nat.zero_le _⟩) hI (fun r_22 u H locs hw hI => ?_)
    obtain ⟨rfl, rfl⟩ := hw
    refine lv_if_eq (tgt := 63) hx hb dX12_takesNumber_25 (by decide) (fun c_25 => ?_) (fun c_25 => ?_)
    · skip
      rw [zb_0] at c_25
      exact absurd c_4 c_25
    · skip
      rw [zb_0, Classical.not_not] at c_25
      have hq0 : p1 + 1 ≤ F := zdr_lt zrt_e c_25
      refine lv_aload_n hx hb dX12_takesNumber_28 rfl (lv_at hl 1 rfl) ?_
      refine lv_bipush (v := (nI 10)) hx hb dX12_takesNumber_29 rfl ?_
      refine lv_aload_n hx hb dX12_takesNumber_31 rfl (lv_at hl 1 rfl) ?_
      refine z_get (C := RX12) (T := TX12) (N := 51) (ci := 12) (v := .int (nI 0)) hx hb hts hin12 hown hK hI (zo77 hG) rfl 16 (by decide) wF60 (fun _ h9 => h9) rfl dX12_takesNumber_32 ?_
      refine z_imul (v := (nI 10 * (nI 0))) hx hb rfl dX12_takesNumber_35 ?_
      refine lv_aload_n hx hb dX12_takesNumber_36 rfl (lv_at hl 1 rfl) ?_
      refine z_calli (va_runV (As := []) (rest := [.int (nI 10 * (nI 0)), .ref (za G 77)]) ⟨hx, hb, hml, hown, hts⟩ ((c_X12_nextR l hG x p1 s1 n1 o1 (nI 0) w4 w5 F hfd hF (by omega)) A) (cwV 0 hts gX12_takesNumber_X12_next rfl rfl rfl (by decide +kernel) ⟨Nat.le_of_ble_eq_true rfl, Nat.le_of_ble_eq_true rfl⟩) (z_pV hI hK hN (z_recv hK hI (zo77 hG) rfl)) rfl rfl hl.1 rfl (lv_room (Nat.le_of_ble_eq_true rfl)) dX12_takesNumber_37 ⟨Nat.zero_le _, Nat.zero_le _⟩) hI (fun r_37 u H locs hw hI => ?_)
      obtain ⟨rfl, rfl⟩ := hw
      refine lv_iadd hx hb dX12_takesNumber_40 ?_
      refine lv_bipush (v := (nI 48)) hx hb dX12_takesNumber_41 rfl ?_
      refine lv_isub hx hb dX12_takesNumber_43 ?_
      refine z_putI (C := RX12) (T := TX12) (N := 51) (ci := 12) (ty := .int) hx hb hts hin12 tyX12 tyX12_ok nmX12 hown hK hI (zo77 hG) rfl 16 (by decide) wF60 (fun _ h9 => h9) rfl (fun _ _ => rfl) (by decide +kernel) rfl rfl (fun _ _ => Nat.le_of_ble_eq_true rfl) dX12_takesNumber_44 (fun H locs hI => ?_)
      rw [zrr_16] at hI
      refine lv_aload_n hx hb dX12_takesNumber_47 rfl (lv_at hl 1 rfl) ?_
      refine lv_dup hx hb dX12_takesNumber_48 rfl ?_
      refine z_get (C := RX12) (T := TX12) (N := 51) (ci := 12) (v := .int (nI p1)) hx hb hts hin12 hown hK hI (zo77 hG) rfl 15 (by decide) wF57 (fun _ h9 => h9) rfl dX12_takesNumber_49 ?_
      refine lv_iconst (v := (nI 1)) hx hb dX12_takesNumber_52 rfl ?_
      refine z_iadd (v := (nI (p1 + 1))) hx hb (nI_add _ _) dX12_takesNumber_53 ?_
      refine z_putI (C := RX12) (T := TX12) (N := 51) (ci := 12) (ty := .int) hx hb hts hin12 tyX12 tyX12_ok nmX12 hown hK hI (zo77 hG) rfl 15 (by decide) wF57 (fun _ h9 => h9) rfl (fun _ _ => rfl) (by decide +kernel) rfl rfl (fun _ _ => Nat.le_of_ble_eq_true rfl) dX12_takesNumber_54 (fun H locs hI => ?_)
      rw [zrr_15] at hI
      refine lv_iinc (v := (nI 1)) (lv' := [(1, .int (nI 1)), (0, .ref (za G 77))]) hx hb dX12_takesNumber_57 hl (k := 0) rfl (zinc 0) (by decide) rfl (fun ls hl => ?_)
      refine lv_goto (tgt := 16) hx hb dX12_takesNumber_60 (by decide) ?_
      refine lv_iload_n hx hb dX12_takesNumber_16 rfl (lv_at hl 0 rfl) ?_
      refine lv_iconst (v := (nI 2)) hx hb dX12_takesNumber_17 rfl ?_
      refine lv_icmp_ge (tgt := 63) hx hb dX12_takesNumber_18 (by decide) (fun c_18 => absurd c_18 (by decide)) (fun c_18 => ?_)
      refine lv_aload_n hx hb dX12_takesNumber_21 rfl (lv_at hl 1 rfl) ?_
      refine z_calli (va_runV (As := []) (rest := []) ⟨hx, hb, hml, hown, hts⟩ ((c_X12_isDigitR l hG x (p1 + 1) s1 n1 o1 (((nI 10 * (nI 0)) + ((zrt x F) p1)) - (nI 48)) w4 w5 F hfd hF (by omega)) A) (cwV 0 hts gX12_takesNumber_X12_isDigit rfl rfl rfl (by decide +kernel) ⟨Nat.le_of_ble_eq_true rfl, Nat.le_of_ble_eq_true rfl⟩) (z_pV hI hK hN (z_recv hK hI (zo77 hG) rfl)) rfl rfl hl.1 rfl (lv_room (Nat.le_of_ble_eq_true rfl)) dX12_takesNumber_22 ⟨Nat.zero_le _, Nat.zero_le _⟩) hI (fun r_22 u H locs hw hI => ?_)
      obtain ⟨rfl, rfl⟩ := hw
      refine lv_if_eq (tgt := 63) hx hb dX12_takesNumber_25 (by decide) (fun c_25 => ?_) (fun c_25 => ?_)
      · skip
        rw [zb_0] at c_25
        refine lv_iconst (v := (nI 1)) hx hb dX12_takesNumber_63 rfl ?_
        exact z_zret hx hb hr hlocks hI (Or.inr rfl) ((by rw [show (znuR (zrt x F) p1 d1) = _ from (if_pos c_4).trans (if_neg c_25)]; exact ⟨rfl, rfl⟩)) dX12_takesNumber_64
      · skip
        rw [zb_0, Classical.not_not] at c_25
        have hq1 : (p1 + 1) + 1 ≤ F := zdr_lt zrt_e c_25
        have hd2 := c_25
        refine lv_aload_n hx hb dX12_takesNumber_28 rfl (lv_at hl 1 rfl) ?_
        refine lv_bipush (v := (nI 10)) hx hb dX12_takesNumber_29 rfl ?_
        refine lv_aload_n hx hb dX12_takesNumber_31 rfl (lv_at hl 1 rfl) ?_
        refine z_get (C := RX12) (T := TX12) (N := 51) (ci := 12) (v := .int (((nI 10 * (nI 0)) + ((zrt x F) p1)) - (nI 48))) hx hb hts hin12 hown hK hI (zo77 hG) rfl 16 (by decide) wF60 (fun _ h9 => h9) rfl dX12_takesNumber_32 ?_
        refine z_imul (v := (nI 10 * (((nI 10 * (nI 0)) + ((zrt x F) p1)) - (nI 48)))) hx hb rfl dX12_takesNumber_35 ?_
        refine lv_aload_n hx hb dX12_takesNumber_36 rfl (lv_at hl 1 rfl) ?_
        refine z_calli (va_runV (As := []) (rest := [.int (nI 10 * (((nI 10 * (nI 0)) + ((zrt x F) p1)) - (nI 48))), .ref (za G 77)]) ⟨hx, hb, hml, hown, hts⟩ ((c_X12_nextR l hG x (p1 + 1) s1 n1 o1 (((nI 10 * (nI 0)) + ((zrt x F) p1)) - (nI 48)) w4 w5 F hfd hF (by omega)) A) (cwV 0 hts gX12_takesNumber_X12_next rfl rfl rfl (by decide +kernel) ⟨Nat.le_of_ble_eq_true rfl, Nat.le_of_ble_eq_true rfl⟩) (z_pV hI hK hN (z_recv hK hI (zo77 hG) rfl)) rfl rfl hl.1 rfl (lv_room (Nat.le_of_ble_eq_true rfl)) dX12_takesNumber_37 ⟨Nat.zero_le _, Nat.zero_le _⟩) hI (fun r_37 u H locs hw hI => ?_)
        obtain ⟨rfl, rfl⟩ := hw
        refine lv_iadd hx hb dX12_takesNumber_40 ?_
        refine lv_bipush (v := (nI 48)) hx hb dX12_takesNumber_41 rfl ?_
        refine lv_isub hx hb dX12_takesNumber_43 ?_
        refine z_putI (C := RX12) (T := TX12) (N := 51) (ci := 12) (ty := .int) hx hb hts hin12 tyX12 tyX12_ok nmX12 hown hK hI (zo77 hG) rfl 16 (by decide) wF60 (fun _ h9 => h9) rfl (fun _ _ => rfl) (by decide +kernel) rfl rfl (fun _ _ => Nat.le_of_ble_eq_true rfl) dX12_takesNumber_44 (fun H locs hI => ?_)
        rw [zrr_16] at hI
        refine lv_aload_n hx hb dX12_takesNumber_47 rfl (lv_at hl 1 rfl) ?_
        refine lv_dup hx hb dX12_takesNumber_48 rfl ?_
        refine z_get (C := RX12) (T := TX12) (N := 51) (ci := 12) (v := .int (nI (p1 + 1))) hx hb hts hin12 hown hK hI (zo77 hG) rfl 15 (by decide) wF57 (fun _ h9 => h9) rfl dX12_takesNumber_49 ?_
        refine lv_iconst (v := (nI 1)) hx hb dX12_takesNumber_52 rfl ?_
        refine z_iadd (v := (nI ((p1 + 1) + 1))) hx hb (nI_add _ _) dX12_takesNumber_53 ?_
        refine z_putI (C := RX12) (T := TX12) (N := 51) (ci := 12) (ty := .int) hx hb hts hin12 tyX12 tyX12_ok nmX12 hown hK hI (zo77 hG) rfl 15 (by decide) wF57 (fun _ h9 => h9) rfl (fun _ _ => rfl) (by decide +kernel) rfl rfl (fun _ _ => Nat.le_of_ble_eq_true rfl) dX12_takesNumber_54 (fun H locs hI => ?_)
        rw [zrr_15] at hI
        refine lv_iinc (v := (nI 2)) (lv' := [(1, .int (nI 2)), (0, .ref (za G 77))]) hx hb dX12_takesNumber_57 hl (k := 0) rfl (zinc 1) (by decide) rfl (fun ls hl => ?_)
        refine lv_goto (tgt := 16) hx hb dX12_takesNumber_60 (by decide) ?_
        refine lv_iload_n hx hb dX12_takesNumber_16 rfl (lv_at hl 0 rfl) ?_
        refine lv_iconst (v := (nI 2)) hx hb dX12_takesNumber_17 rfl ?_
        refine lv_icmp_ge (tgt := 63) hx hb dX12_takesNumber_18 (by decide) (fun c_18 => ?_) (fun c_18 => absurd c_18 (by decide))
        refine lv_iconst (v := (nI 1)) hx hb dX12_takesNumber_63 rfl ?_
        exact z_zret hx hb hr hlocks hI (Or.inr rfl) ((by rw [show (znuR (zrt x F) p1 d1) = _ from (if_pos c_4).trans (if_pos hd2)]; exact ⟨rfl, rfl⟩)) dX12_takesNumber_64
  · skip
    rw [zb_0] at c_4
    refine lv_iconst (v := (nI 0)) hx hb dX12_takesNumber_7 rfl ?_
    exact z_zret hx hb hr hlocks hI (Or.inl rfl) ((by rw [show (znuR (zrt x F) p1 d1) = _ from if_neg c_4]; exact ⟨rfl, rfl⟩)) dX12_takesNumber_8
set_option maxHeartbeats 1000000 in
set_option maxRecDepth 100000 in
theorem c_X12_takesTest (l : Launch) {G : zG} (hG : zOK G) (x : zX) (p1 s1 n1 F : Nat) (o1 d1 : Int32) (w4 w5 : Nat → Int32) (hfd : x.1 77 14 = nI F) (hF : F ≤ 100) (hp1 : p1 ≤ F) (hn9 : n1 ≤ p1) (hs9 : s1 + n1 + (F - p1) ≤ 600) : zMi l yX12_takesTest wsX12_takesTest { frames := 3, cells := 0, slots := 0, locals := 64 } G [.ref (za G 77)] (zrr x p1 s1 n1 o1 d1 w4 w5) (fun (r : Int32) (u : zX) => zru x (zrT (zrt x F) p1 s1 n1 o1 d1 w4 w5).2 = u ∧ (if (zrT (zrt x F) p1 s1 n1 o1 d1 w4 w5).1 = true then nI 1 else nI 0) = r) := by
  intro A
  refine zBody (cc := cX12_takesTest) (maxL := 3) (ret := (some .boolean)) (by decide) rfl (Nat.le_of_ble_eq_true rfl) ?_
  intro p e s m below meth c hx hb hml hown hts hr hlocks hK hN hI ls hl
  have hown : s.vm.findClass RX12 = some m.cls := hown
  have hl : lv_has ls 3 [(0, .ref (za G 77))] := hl
  have hin12 : ∀ w ∈ wsX120, w ∈ wsX12_takesTest := (fun _ h => List.mem_cons_of_mem _ (List.mem_append_right _ (h)))
  have wF57 := hts (.fieldLink RX12 57 "WhoSitsByModel" "at" "I") (z_mem 1 rfl)
  have wF60 := hts (.fieldLink RX12 60 "WhoSitsByModel" "digits" "I") (z_mem 2 rfl)
  refine lv_aload_n hx hb dX12_takesTest_0 rfl (lv_at hl 0 rfl) ?_
  refine lv_aload_n hx hb dX12_takesTest_1 rfl (lv_at hl 0 rfl) ?_
  refine z_calli (va_runV (As := []) (rest := [.ref (za G 77)]) ⟨hx, hb, hml, hown, hts⟩ ((c_X12_nextR l hG x p1 s1 n1 o1 d1 w4 w5 F hfd hF (by omega)) A) (cwV 0 hts gX12_takesTest_X12_next rfl rfl rfl (by decide +kernel) ⟨Nat.le_of_ble_eq_true rfl, Nat.le_of_ble_eq_true rfl⟩) (z_pV hI hK hN (z_recv hK hI (zo77 hG) rfl)) rfl rfl hl.1 rfl (lv_room (Nat.le_of_ble_eq_true rfl)) dX12_takesTest_2 ⟨Nat.zero_le _, Nat.zero_le _⟩) hI (fun r_2 u H locs hw hI => ?_)
  obtain ⟨rfl, rfl⟩ := hw
  refine z_calli (va_runV (As := [.int ((zrt x F) p1)]) (rest := []) ⟨hx, hb, hml, hown, hts⟩ ((c_X12_place l hG (zrr x p1 s1 n1 o1 d1 w4 w5) ((zrt x F) p1)) A) (cwV 1 hts gX12_takesTest_X12_place rfl rfl rfl (by decide +kernel) ⟨Nat.le_of_ble_eq_true rfl, Nat.le_of_ble_eq_true rfl⟩) (z_pV hI hK hN (z_recv hK hI (zo77 hG) rfl)) rfl rfl hl.1 rfl (lv_room (Nat.le_of_ble_eq_true rfl)) dX12_takesTest_5 ⟨Nat.zero_le _, Nat.zero_le _⟩) hI (fun r_5 u H locs hw hI => ?_)
  obtain ⟨rfl, rfl⟩ := hw
  refine lv_istore_n (lv' := [(1, .int (zpl ((zrt x F) p1))), (0, .ref (za G 77))]) hx hb dX12_takesTest_8 rfl hl (by decide) rfl (fun ls hl => ?_)
  refine lv_iload_n hx hb dX12_takesTest_9 rfl (lv_at hl 0 rfl) ?_
  refine lv_if_ge (tgt := 15) hx hb dX12_takesTest_10 (by decide) (fun c_10 => ?_) (fun c_10 => ?_)
  · skip
    have hz : ¬ zpl ((zrt x F) p1) < 0 := Int32.not_lt.mpr c_10
    have hp2 : p1 + 1 ≤ F := zpl_lt zrt_e hz
    refine lv_aload_n hx hb dX12_takesTest_15 rfl (lv_at hl 1 rfl) ?_
    refine lv_dup hx hb dX12_takesTest_16 rfl ?_
    refine z_get (C := RX12) (T := TX12) (N := 51) (ci := 12) (v := .int (nI p1)) hx hb hts hin12 hown hK hI (zo77 hG) rfl 15 (by decide) wF57 (fun _ h9 => h9) rfl dX12_takesTest_17 ?_
    refine lv_iconst (v := (nI 1)) hx hb dX12_takesTest_20 rfl ?_
    refine z_iadd (v := (nI (p1 + 1))) hx hb (nI_add _ _) dX12_takesTest_21 ?_
    refine z_putI (C := RX12) (T := TX12) (N := 51) (ci := 12) (ty := .int) hx hb hts hin12 tyX12 tyX12_ok nmX12 hown hK hI (zo77 hG) rfl 15 (by decide) wF57 (fun _ h9 => h9) rfl (fun _ _ => rfl) (by decide +kernel) rfl rfl (fun _ _ => Nat.le_of_ble_eq_true rfl) dX12_takesTest_22 (fun H locs hI => ?_)
    rw [zrr_15] at hI
    refine lv_aload_n hx hb dX12_takesTest_25 rfl (lv_at hl 1 rfl) ?_
    refine z_calli (va_runV (As := []) (rest := []) ⟨hx, hb, hml, hown, hts⟩ ((c_X12_nextR l hG x (p1 + 1) s1 n1 o1 d1 w4 w5 F hfd hF (by omega)) A) (cwV 0 hts gX12_takesTest_X12_next rfl rfl rfl (by decide +kernel) ⟨Nat.le_of_ble_eq_true rfl, Nat.le_of_ble_eq_true rfl⟩) (z_pV hI hK hN (z_recv hK hI (zo77 hG) rfl)) rfl rfl hl.1 rfl (lv_room (Nat.le_of_ble_eq_true rfl)) dX12_takesTest_26 ⟨Nat.zero_le _, Nat.zero_le _⟩) hI (fun r_26 u H locs hw hI => ?_)
    obtain ⟨rfl, rfl⟩ := hw
    refine lv_istore_n (lv' := [(2, .int ((zrt x F) (p1 + 1))), (1, .int (zpl ((zrt x F) p1))), (0, .ref (za G 77))]) hx hb dX12_takesTest_29 rfl hl (by decide) rfl (fun ls hl => ?_)
    refine lv_aload_n hx hb dX12_takesTest_30 rfl (lv_at hl 2 rfl) ?_
    refine lv_iload_n hx hb dX12_takesTest_31 rfl (lv_at hl 0 rfl) ?_
    refine lv_bipush (v := (nI 60)) hx hb dX12_takesTest_32 rfl ?_
    refine lv_bipush (v := (nI 62)) hx hb dX12_takesTest_34 rfl ?_
    refine z_calli (va_runV (As := [.int ((zrt x F) (p1 + 1)), .int (nI 60), .int (nI 62)]) (rest := []) ⟨hx, hb, hml, hown, hts⟩ ((c_X12_in l hG (zrr x (p1 + 1) s1 n1 o1 d1 w4 w5) ((zrt x F) (p1 + 1)) (nI 60) (nI 62)) A) (cwV 3 hts gX12_takesTest_X12_in rfl rfl rfl (by decide +kernel) ⟨Nat.le_of_ble_eq_true rfl, Nat.le_of_ble_eq_true rfl⟩) (z_pV hI hK hN (z_recv hK hI (zo77 hG) rfl)) rfl rfl hl.1 rfl (lv_room (Nat.le_of_ble_eq_true rfl)) dX12_takesTest_36 ⟨Nat.zero_le _, Nat.zero_le _⟩) hI (fun r_36 u H locs hw hI => ?_)
    obtain ⟨rfl, rfl⟩ := hw
    refine lv_if_ne (tgt := 44) hx hb dX12_takesTest_39 (by decide) (fun c_39 => ?_) (fun c_39 => ?_)
    · skip
      rw [zb_0, Classical.not_not] at c_39
      have hp3 : p1 + 1 + 1 ≤ F := zdrs_lt zrt_e c_39
      refine lv_aload_n hx hb dX12_takesTest_44 rfl (lv_at hl 2 rfl) ?_
      refine lv_dup hx hb dX12_takesTest_45 rfl ?_
      refine z_get (C := RX12) (T := TX12) (N := 51) (ci := 12) (v := .int (nI (p1 + 1))) hx hb hts hin12 hown hK hI (zo77 hG) rfl 15 (by decide) wF57 (fun _ h9 => h9) rfl dX12_takesTest_46 ?_
      refine lv_iconst (v := (nI 1)) hx hb dX12_takesTest_49 rfl ?_
      refine z_iadd (v := (nI ((p1 + 1) + 1))) hx hb (nI_add _ _) dX12_takesTest_50 ?_
      refine z_putI (C := RX12) (T := TX12) (N := 51) (ci := 12) (ty := .int) hx hb hts hin12 tyX12 tyX12_ok nmX12 hown hK hI (zo77 hG) rfl 15 (by decide) wF57 (fun _ h9 => h9) rfl (fun _ _ => rfl) (by decide +kernel) rfl rfl (fun _ _ => Nat.le_of_ble_eq_true rfl) dX12_takesTest_51 (fun H locs hI => ?_)
      rw [zrr_15] at hI
      refine lv_aload_n hx hb dX12_takesTest_54 rfl (lv_at hl 2 rfl) ?_
      refine z_calli (va_runV (As := []) (rest := []) ⟨hx, hb, hml, hown, hts⟩ ((c_X12_takesNumber l hG x ((p1 + 1) + 1) s1 n1 F o1 d1 w4 w5 hfd hF (by omega)) A) (cwV 0 hts gX12_takesTest_X12_takesNumber rfl rfl rfl (by decide +kernel) ⟨Nat.le_of_ble_eq_true rfl, Nat.le_of_ble_eq_true rfl⟩) (z_pV hI hK hN (z_recv hK hI (zo77 hG) rfl)) rfl rfl hl.1 rfl (lv_room (Nat.le_of_ble_eq_true rfl)) dX12_takesTest_55 ⟨Nat.zero_le _, Nat.zero_le _⟩) hI (fun r_55 u H locs hw hI => ?_)
      obtain ⟨rfl, rfl⟩ := hw
      have hnu_55 := znuR_in (d := d1) (zrt_e (x := x) (F := F)) (by omega)
      refine lv_if_ne (tgt := 63) hx hb dX12_takesTest_58 (by decide) (fun c_58 => ?_) (fun c_58 => ?_)
      · skip
        rw [zb_0, Classical.not_not] at c_58
        refine lv_aload_n hx hb dX12_takesTest_63 rfl (lv_at hl 2 rfl) ?_
        refine lv_sipush (v := (nI 1000)) hx hb dX12_takesTest_64 rfl ?_
        refine lv_iload_n hx hb dX12_takesTest_67 rfl (lv_at hl 1 rfl) ?_
        refine z_imul (v := (nI 1000 * (zpl ((zrt x F) p1)))) hx hb rfl dX12_takesTest_68 ?_
        refine lv_bipush (v := (nI 100)) hx hb dX12_takesTest_69 rfl ?_
        refine lv_iload_n hx hb dX12_takesTest_71 rfl (lv_at hl 0 rfl) ?_
        refine lv_bipush (v := (nI 60)) hx hb dX12_takesTest_72 rfl ?_
        refine lv_isub hx hb dX12_takesTest_74 ?_
        refine z_imul (v := (nI 100 * (((zrt x F) (p1 + 1)) - (nI 60)))) hx hb rfl dX12_takesTest_75 ?_
        refine lv_iadd hx hb dX12_takesTest_76 ?_
        refine lv_aload_n hx hb dX12_takesTest_77 rfl (lv_at hl 2 rfl) ?_
        refine z_get (C := RX12) (T := TX12) (N := 51) (ci := 12) (v := .int ((znuR (zrt x F) ((p1 + 1) + 1) d1).2.2)) hx hb hts hin12 hown hK hI (zo77 hG) rfl 16 (by decide) wF60 (fun _ h9 => h9) rfl dX12_takesTest_78 ?_
        refine lv_iadd hx hb dX12_takesTest_81 ?_
        refine z_callv (va_runV (As := [.int (((nI 1000 * (zpl ((zrt x F) p1))) + (nI 100 * (((zrt x F) (p1 + 1)) - (nI 60)))) + ((znuR (zrt x F) ((p1 + 1) + 1) d1).2.2))]) (rest := []) ⟨hx, hb, hml, hown, hts⟩ ((c_X12_putR l hG x ((znuR (zrt x F) ((p1 + 1) + 1) d1).2.1) s1 n1 o1 ((znuR (zrt x F) ((p1 + 1) + 1) d1).2.2) w4 w5 (((nI 1000 * (zpl ((zrt x F) p1))) + (nI 100 * (((zrt x F) (p1 + 1)) - (nI 60)))) + ((znuR (zrt x F) ((p1 + 1) + 1) d1).2.2)) (by omega)) A) (cwV 1 hts gX12_takesTest_X12_put rfl rfl rfl (by decide +kernel) ⟨Nat.le_of_ble_eq_true rfl, Nat.le_of_ble_eq_true rfl⟩) (z_pV hI hK hN (z_recv hK hI (zo77 hG) rfl)) rfl rfl hl.1 rfl (lv_room (Nat.le_of_ble_eq_true rfl)) dX12_takesTest_82 ⟨Nat.zero_le _, Nat.zero_le _⟩) hI (fun u H locs hw hI => ?_)
        obtain rfl := hw
        refine lv_aload_n hx hb dX12_takesTest_85 rfl (lv_at hl 2 rfl) ?_
        refine z_callv (va_runV (As := []) (rest := []) ⟨hx, hb, hml, hown, hts⟩ ((c_X12_whole l hG x ((znuR (zrt x F) ((p1 + 1) + 1) d1).2.1) (s1 + 1) n1 o1 ((znuR (zrt x F) ((p1 + 1) + 1) d1).2.2) (upd w4 s1 (((nI 1000 * (zpl ((zrt x F) p1))) + (nI 100 * (((zrt x F) (p1 + 1)) - (nI 60)))) + ((znuR (zrt x F) ((p1 + 1) + 1) d1).2.2))) w5 (by omega) (by omega)) A) (cwV 0 hts gX12_takesTest_X12_whole rfl rfl rfl (by decide +kernel) ⟨Nat.le_of_ble_eq_true rfl, Nat.le_of_ble_eq_true rfl⟩) (z_pV hI hK hN (z_recv hK hI (zo77 hG) rfl)) rfl rfl hl.1 rfl (lv_room (Nat.le_of_ble_eq_true rfl)) dX12_takesTest_86 ⟨Nat.zero_le _, Nat.zero_le _⟩) hI (fun u H locs hw hI => ?_)
        obtain rfl := hw
        refine lv_iconst (v := (nI 1)) hx hb dX12_takesTest_89 rfl ?_
        exact z_zret hx hb hr hlocks hI (Or.inr rfl) ((by rw [show (zrT (zrt x F) p1 s1 n1 o1 d1 w4 w5) = _ from (if_neg hz).trans ((if_pos c_39).trans ((if_pos c_58)))]; exact ⟨rfl, rfl⟩)) dX12_takesTest_90
      · skip
        rw [zb_0] at c_58
        have hI : zI G (zrr x (p1 + 2) s1 n1 o1 d1 w4 w5) A s.heap H locs := by rw [show (znuR (zrt x F) (p1 + 2) d1) = _ from znuR_f c_58] at hI; exact hI
        refine lv_iconst (v := (nI 0)) hx hb dX12_takesTest_61 rfl ?_
        exact z_zret hx hb hr hlocks hI (Or.inl rfl) ((by rw [show (zrT (zrt x F) p1 s1 n1 o1 d1 w4 w5) = _ from (if_neg hz).trans ((if_pos c_39).trans ((if_neg c_58)))]; exact ⟨rfl, rfl⟩)) dX12_takesTest_62
    · skip
      rw [zb_0] at c_39
      refine lv_iconst (v := (nI 0)) hx hb dX12_takesTest_42 rfl ?_
      exact z_zret hx hb hr hlocks hI (Or.inl rfl) ((by rw [show (zrT (zrt x F) p1 s1 n1 o1 d1 w4 w5) = _ from (if_neg hz).trans ((if_neg c_39))]; exact ⟨rfl, rfl⟩)) dX12_takesTest_43
  · skip
    refine lv_iconst (v := (nI 0)) hx hb dX12_takesTest_13 rfl ?_
    exact z_zret hx hb hr hlocks hI (Or.inl rfl) ((by rw [show (zrT (zrt x F) p1 s1 n1 o1 d1 w4 w5) = _ from (if_pos (Int32.not_le.mp c_10))]; exact ⟨rfl, rfl⟩)) dX12_takesTest_14
