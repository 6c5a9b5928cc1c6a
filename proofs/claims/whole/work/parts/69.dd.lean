set_option maxHeartbeats 1000000 in
set_option maxRecDepth 100000 in
theorem c_X5_takeNumber (l : Launch) {G : zG} (hG : zOK G) (x : zX) (b L p1 : Nat) (hb0 : zRm b) (hL : x.1 b 8 = nI L) (hL9 : L ≤ 100) (hat : x.1 b 9 = nI p1) (hp1 : p1 ≤ 100) : zMi l yX5_takeNumber wsX5_takeNumber { frames := 1, cells := 0, slots := 0, locals := 21 } G [.ref (za G b)] x (fun (r : Int32) (u : zX) => (¬ (¬ (zby x b L p1 - nI 48) < 0 ∧ ¬ nI 9 < (zby x b L p1 - nI 48)) ∧ x = u ∧ -1 = r) ∨ ((¬ (zby x b L p1 - nI 48) < 0 ∧ ¬ nI 9 < (zby x b L p1 - nI 48)) ∧ ¬ (¬ (zby x b L (p1 + 1) - nI 48) < 0 ∧ ¬ nI 9 < (zby x b L (p1 + 1) - nI 48)) ∧ (zsI x b 9 (nI (p1 + 1))) = u ∧ (zby x b L p1 - nI 48) = r) ∨ ((¬ (zby x b L p1 - nI 48) < 0 ∧ ¬ nI 9 < (zby x b L p1 - nI 48)) ∧ (¬ (zby x b L (p1 + 1) - nI 48) < 0 ∧ ¬ nI 9 < (zby x b L (p1 + 1) - nI 48)) ∧ zsI (zsI x b 9 (nI (p1 + 1))) b 9 (nI (p1 + 2)) = u ∧ nI 10 * (zby x b L p1 - nI 48) + (zby x b L (p1 + 1) - nI 48) = r)) := by
  intro A
  refine zBody (cc := cX5_takeNumber) (maxL := 3) (ret := (some .int)) (by decide) rfl (Nat.le_of_ble_eq_true rfl) ?_
  intro p e s m below meth c hx hb hml hown hts hr hlocks hK hN hI ls hl
  have hown : s.vm.findClass RX5 = some m.cls := hown
  have hl : lv_has ls 3 [(0, .ref (za G b))] := hl
  have hin5 : ∀ w ∈ wsX50, w ∈ wsX5_takeNumber := (fun _ h => List.mem_cons_of_mem _ (List.mem_append_right _ (h)))
  have wF53 := hts (.fieldLink RX5 53 "WhoSitsBy$Room" "at" "I") (z_mem 1 rfl)
  refine lv_aload_n hx hb dX5_takeNumber_0 rfl (lv_at hl 0 rfl) ?_
  refine lv_aload_n hx hb dX5_takeNumber_1 rfl (lv_at hl 0 rfl) ?_
  refine z_get (C := RX5) (T := TX5) (N := 11) (ci := 5) (v := .int (nI p1)) hx hb hts hin5 hown hK hI (zor hG hb0) rfl 9 (by decide) wF53 (fun _ h9 => h9) (congrArg (fun q => some (Value.int q)) hat) dX5_takeNumber_2 ?_
  refine z_calli (va_runV (As := [.int (nI p1)]) (rest := []) ⟨hx, hb, hml, hown, hts⟩ ((c_X5_byteAt l hG x b L p1 hb0 hL hL9 (by omega)) A) (cwV 1 hts gX5_takeNumber_X5_byteAt rfl rfl rfl (by decide +kernel) ⟨Nat.le_of_ble_eq_true rfl, Nat.le_of_ble_eq_true rfl⟩) (z_pV hI hK hN (z_recv hK hI (zor hG hb0) rfl)) rfl rfl hl.1 rfl (lv_room (Nat.le_of_ble_eq_true rfl)) dX5_takeNumber_5 ⟨Nat.zero_le _, Nat.zero_le _⟩) hI (fun r_5 u H locs hw hI => ?_)
  obtain ⟨rfl, rfl⟩ := hw
  refine lv_bipush (v := (nI 48)) hx hb dX5_takeNumber_8 rfl ?_
  refine z_isub (v := (zby x b L p1 - nI 48)) hx hb rfl dX5_takeNumber_10 ?_
  refine lv_istore_n (lv' := [(1, .int (zby x b L p1 - nI 48)), (0, .ref (za G b))]) hx hb dX5_takeNumber_11 rfl hl (by decide) rfl (fun ls hl => ?_)
  refine lv_iload_n hx hb dX5_takeNumber_12 rfl (lv_at hl 0 rfl) ?_
  refine z_calli (va_runSN (As := [.int (zby x b L p1 - nI 48)]) (rest := []) ⟨hx, hb, hml, hown, hts⟩ ((c_X11_isDigit l hG x (zby x b L p1 - nI 48)) A) ⟨va_cnB 1 hts gX5_takeNumber_X11_isDigit_n113 rfl rfl rfl (hN.1 _ (z_mem 2 rfl)) (hts (.initialized RX11) (z_mem 10 rfl)) (by decide +kernel) ⟨Nat.le_of_ble_eq_true rfl, Nat.le_of_ble_eq_true rfl⟩, hts (.static yX11_isDigit) (z_mem 9 rfl), trivial⟩ (z_pS hI hK hN) rfl rfl hl.1 rfl (lv_room (Nat.le_of_ble_eq_true rfl)) dX5_takeNumber_13 ⟨Nat.zero_le _, Nat.zero_le _⟩) hI (fun r_13 u H locs hw hI => ?_)
  obtain ⟨rfl, rfl⟩ := hw
  refine lv_if_ne (tgt := 21) hx hb dX5_takeNumber_16 (by decide) (fun c_16 => ?_) (fun c_16 => ?_)
  · skip
    rw [zb_0, Classical.not_not] at c_16
    refine lv_aload_n hx hb dX5_takeNumber_21 rfl (lv_at hl 1 rfl) ?_
    refine lv_dup hx hb dX5_takeNumber_22 rfl ?_
    refine z_get (C := RX5) (T := TX5) (N := 11) (ci := 5) (v := .int (nI p1)) hx hb hts hin5 hown hK hI (zor hG hb0) rfl 9 (by decide) wF53 (fun _ h9 => h9) (congrArg (fun q => some (Value.int q)) hat) dX5_takeNumber_23 ?_
    refine lv_iconst (v := (nI 1)) hx hb dX5_takeNumber_26 rfl ?_
    refine z_iadd (v := (nI (p1 + 1))) hx hb (nI_add _ _) dX5_takeNumber_27 ?_
    refine z_putI (C := RX5) (T := TX5) (N := 11) (ci := 5) (ty := .int) hx hb hts hin5 tyX5 tyX5_ok nmX5 hown hK hI (zor hG hb0) rfl 9 (by decide) wF53 (fun _ h9 => h9) rfl (fun _ _ => rfl) (by decide +kernel) rfl rfl (fun _ _ => Nat.le_of_ble_eq_true rfl) dX5_takeNumber_28 (fun H locs hI => ?_)
    have hL2 : (zsI x b 9 (nI (p1 + 1))).1 b 8 = nI L := by rw [zsI_u]; exact hL
    refine lv_aload_n hx hb dX5_takeNumber_31 rfl (lv_at hl 1 rfl) ?_
    refine lv_aload_n hx hb dX5_takeNumber_32 rfl (lv_at hl 1 rfl) ?_
    refine z_get (C := RX5) (T := TX5) (N := 11) (ci := 5) (v := .int (nI (p1 + 1))) hx hb hts hin5 hown hK hI (zor hG hb0) rfl 9 (by decide) wF53 (fun _ h9 => h9) (congrArg (fun q => some (Value.int q)) (by rw [zsI_u]; rfl)) dX5_takeNumber_33 ?_
    refine z_calli (va_runV (As := [.int (nI (p1 + 1))]) (rest := []) ⟨hx, hb, hml, hown, hts⟩ ((c_X5_byteAt l hG (zsI x b 9 (nI (p1 + 1))) b L (p1 + 1) hb0 hL2 hL9 (by omega)) A) (cwV 1 hts gX5_takeNumber_X5_byteAt rfl rfl rfl (by decide +kernel) ⟨Nat.le_of_ble_eq_true rfl, Nat.le_of_ble_eq_true rfl⟩) (z_pV hI hK hN (z_recv hK hI (zor hG hb0) rfl)) rfl rfl hl.1 rfl (lv_room (Nat.le_of_ble_eq_true rfl)) dX5_takeNumber_36 ⟨Nat.zero_le _, Nat.zero_le _⟩) hI (fun r_36 u H locs hw hI => ?_)
    obtain ⟨rfl, rfl⟩ := hw
    rw [show zby (zsI x b 9 (nI (p1 + 1))) b L (p1 + 1) = zby x b L (p1 + 1) from by unfold zby; rw [zsI_n (show b + 5 ≠ b by omega)]]
    refine lv_bipush (v := (nI 48)) hx hb dX5_takeNumber_39 rfl ?_
    refine z_isub (v := (zby x b L (p1 + 1) - nI 48)) hx hb rfl dX5_takeNumber_41 ?_
    refine lv_istore_n (lv' := [(2, .int (zby x b L (p1 + 1) - nI 48)), (1, .int (zby x b L p1 - nI 48)), (0, .ref (za G b))]) hx hb dX5_takeNumber_42 rfl hl (by decide) rfl (fun ls hl => ?_)
    refine lv_iload_n hx hb dX5_takeNumber_43 rfl (lv_at hl 0 rfl) ?_
    refine z_calli (va_runSN (As := [.int (zby x b L (p1 + 1) - nI 48)]) (rest := []) ⟨hx, hb, hml, hown, hts⟩ ((c_X11_isDigit l hG (zsI x b 9 (nI (p1 + 1))) (zby x b L (p1 + 1) - nI 48)) A) ⟨va_cnB 1 hts gX5_takeNumber_X11_isDigit_n113 rfl rfl rfl (hN.1 _ (z_mem 2 rfl)) (hts (.initialized RX11) (z_mem 10 rfl)) (by decide +kernel) ⟨Nat.le_of_ble_eq_true rfl, Nat.le_of_ble_eq_true rfl⟩, hts (.static yX11_isDigit) (z_mem 9 rfl), trivial⟩ (z_pS hI hK hN) rfl rfl hl.1 rfl (lv_room (Nat.le_of_ble_eq_true rfl)) dX5_takeNumber_44 ⟨Nat.zero_le _, Nat.zero_le _⟩) hI (fun r_44 u H locs hw hI => ?_)
    obtain ⟨rfl, rfl⟩ := hw
    refine lv_if_ne (tgt := 52) hx hb dX5_takeNumber_47 (by decide) (fun c_47 => ?_) (fun c_47 => ?_)
    · skip
      rw [zb_0, Classical.not_not] at c_47
      refine lv_aload_n hx hb dX5_takeNumber_52 rfl (lv_at hl 2 rfl) ?_
      refine lv_dup hx hb dX5_takeNumber_53 rfl ?_
      refine z_get (C := RX5) (T := TX5) (N := 11) (ci := 5) (v := .int (nI (p1 + 1))) hx hb hts hin5 hown hK hI (zor hG hb0) rfl 9 (by decide) wF53 (fun _ h9 => h9) (congrArg (fun q => some (Value.int q)) (by rw [zsI_u]; rfl)) dX5_takeNumber_54 ?_
      refine lv_iconst (v := (nI 1)) hx hb dX5_takeNumber_57 rfl ?_
      refine z_iadd (v := (nI ((p1 + 1) + 1))) hx hb (nI_add _ _) dX5_takeNumber_58 ?_
      refine z_putI (C := RX5) (T := TX5) (N := 11) (ci := 5) (ty := .int) hx hb hts hin5 tyX5 tyX5_ok nmX5 hown hK hI (zor hG hb0) rfl 9 (by decide) wF53 (fun _ h9 => h9) rfl (fun _ _ => rfl) (by decide +kernel) rfl rfl (fun _ _ => Nat.le_of_ble_eq_true rfl) dX5_takeNumber_59 (fun H locs hI => ?_)
      refine lv_bipush (v := (nI 10)) hx hb dX5_takeNumber_62 rfl ?_
      refine lv_iload_n hx hb dX5_takeNumber_64 rfl (lv_at hl 1 rfl) ?_
      refine lv_imul hx hb dX5_takeNumber_65 ?_
      refine lv_iload_n hx hb dX5_takeNumber_66 rfl (lv_at hl 0 rfl) ?_
      refine lv_iadd hx hb dX5_takeNumber_67 ?_
      exact z_iret hx hb hr hlocks hI (Or.inr (Or.inr ⟨c_16, c_47, rfl, rfl⟩)) dX5_takeNumber_68
    · skip
      rw [zb_0] at c_47
      refine lv_iload_n hx hb dX5_takeNumber_50 rfl (lv_at hl 1 rfl) ?_
      exact z_iret hx hb hr hlocks hI (Or.inr (Or.inl ⟨c_16, c_47, rfl, rfl⟩)) dX5_takeNumber_51
  · skip
    rw [zb_0] at c_16
    refine lv_iconst (v := (-1)) hx hb dX5_takeNumber_19 rfl ?_
    exact z_iret hx hb hr hlocks hI (Or.inl ⟨c_16, rfl, rfl⟩) dX5_takeNumber_20
