/-! CONSTRUCTORS of rooms, sittings, standings, traces -/
set_option maxHeartbeats 8000000 in
set_option maxRecDepth 100000 in
theorem c_X5_init (l : Launch) (D : va_G) (T : Nat → ClassId) (o : Nat) (X : va_W) : zMc l yX5_init wsX5_init { frames := 1, cells := 6, slots := 237, locals := 12 } D T [.ref o] ((o, .inr (5, [.null, .null, .null, .null, .int 0, .int 0, .int 0, .null, .int 0, .int 0, .null])) :: X) (fun f => (((f 6), .inl (T 0, 7, .inl (fun _ => 0))) :: ((f 5), .inl (T 2, 100, .inl (fun _ => 0))) :: ((f 4), .inl (T 0, 100, .inl (fun _ => 0))) :: ((f 3), .inl (T 0, 10, .inl (fun _ => 0))) :: ((f 2), .inl (T 0, 10, .inl (fun _ => 0))) :: ((f 1), .inl (T 0, 10, .inl (fun _ => 0))) :: (o, .inr (5, [.ref (f 1), .ref (f 2), .ref (f 3), .ref (f 4), .int 0, .int 0, .int (nI 5), .ref (f 5), .int 0, .int 0, .ref (f 6)])) :: X)) 6 237 := by
  intro A
  refine zBodyC (cc := cX5_init) (maxL := 1) (ret := none) (by decide) rfl (Nat.le_of_ble_eq_true rfl) ?_
  intro p e s m below meth c hx hb hml hown hts hr hlocks hnm9 hP hD hS hK hN hAs hA ls hl
  have hown : s.vm.findClass RX5 = some m.cls := hown
  have hnm9 : meth.name = "<init>" := hnm9
  have hl : lv_has ls 1 [(0, .ref o)] := hl
  have hin5 : ∀ w ∈ wsX50, w ∈ wsX5_init := (fun _ h => List.mem_cons_of_mem _ (List.mem_append_right _ (h)))
  have wO1 := hts (.methodLink RX5 3 objectInit) (z_mem 1 rfl)
  have wO2 := hts (.instanceMethod objectInit) (z_mem 2 rfl)
  have wO3 := hts (.code objectInit ⟨#[0xb1]⟩ 1 none) (z_mem 3 rfl)
  have wA0 := hts (.arrayClass .int) (z_mem 4 rfl)
  have wF11 := hts (.fieldLink RX5 11 "WhoSitsBy$Room" "words" "[I") (z_mem 5 rfl)
  have wF15 := hts (.fieldLink RX5 15 "WhoSitsBy$Room" "amounts" "[I") (z_mem 6 rfl)
  have wF18 := hts (.fieldLink RX5 18 "WhoSitsBy$Room" "ends" "[I") (z_mem 7 rfl)
  have wF21 := hts (.fieldLink RX5 21 "WhoSitsBy$Room" "codes" "[I") (z_mem 8 rfl)
  have wF24 := hts (.fieldLink RX5 24 "WhoSitsBy$Room" "hushing" "I") (z_mem 9 rfl)
  have wA2 := hts (.arrayClass .byte) (z_mem 10 rfl)
  have wF28 := hts (.fieldLink RX5 28 "WhoSitsBy$Room" "source" "[B") (z_mem 11 rfl)
  have wF32 := hts (.fieldLink RX5 32 "WhoSitsBy$Room" "facts" "[I") (z_mem 12 rfl)
  refine lv_aload_n hx hb dX5_init_0 rfl (lv_at hl 0 rfl) ?_
  refine W.objInit hx hb hown wO1 wO2 wO3 rfl (by rw [hml]; exact hl.1) rfl dX5_init_1 (Nat.le_of_ble_eq_true rfl) (Nat.le_of_ble_eq_true rfl) ?_
  refine W.eq (g2 := F0 m 4 ls []) rfl ?_
  refine lv_aload_n hx hb dX5_init_4 rfl (lv_at hl 0 rfl) ?_
  refine lv_bipush (v := (nI 10)) hx hb dX5_init_5 rfl ?_
  refine zc_newa (atype := .int) (ty := .int) (N' := 10) (a0 := (10, .inl (fun _ => 0))) hx hb wA0 rfl hK 0 rfl (fun _ h => h) hP hD hS hA (fun _ => rfl) (by decide) (by decide) (by decide) (Nat.le_of_ble_eq_true rfl) (Nat.le_of_ble_eq_true rfl) dX5_init_7 (fun q7 H hP hD hS => ?_)
  refine zc_put (C := RX5) (TT := TX5) (N := 11) (ci := 5) (ty := .array .int) hx hb hts hin5 tyX5 tyX5_ok nmX5 hown hK hP hD hS 1 rfl rfl 0 (by decide) wF11 (fun _ h9 => h9) (Or.inr ⟨rfl, hnm9, rfl⟩) (by decide +kernel) rfl rfl (Nat.le_of_ble_eq_true rfl) (ws2 := ((q7, .inl (T 0, 10, .inl (fun _ => 0))) :: (o, .inr (5, [.ref q7, .null, .null, .null, .int 0, .int 0, .int 0, .null, .int 0, .int 0, .null])) :: X)) rfl dX5_init_9 (fun H locs hP hD hS => ?_)
  refine lv_aload_n hx hb dX5_init_12 rfl (lv_at hl 0 rfl) ?_
  refine lv_bipush (v := (nI 10)) hx hb dX5_init_13 rfl ?_
  refine zc_newa (atype := .int) (ty := .int) (N' := 10) (a0 := (10, .inl (fun _ => 0))) hx hb wA0 rfl hK 0 rfl (fun _ h => h) hP hD hS hA (fun _ => rfl) (by decide) (by decide) (by decide) (Nat.le_of_ble_eq_true rfl) (Nat.le_of_ble_eq_true rfl) dX5_init_15 (fun q15 H hP hD hS => ?_)
  refine zc_put (C := RX5) (TT := TX5) (N := 11) (ci := 5) (ty := .array .int) hx hb hts hin5 tyX5 tyX5_ok nmX5 hown hK hP hD hS 2 rfl rfl 1 (by decide) wF15 (fun _ h9 => h9) (Or.inr ⟨rfl, hnm9, rfl⟩) (by decide +kernel) rfl rfl (Nat.le_of_ble_eq_true rfl) (ws2 := ((q15, .inl (T 0, 10, .inl (fun _ => 0))) :: (q7, .inl (T 0, 10, .inl (fun _ => 0))) :: (o, .inr (5, [.ref q7, .ref q15, .null, .null, .int 0, .int 0, .int 0, .null, .int 0, .int 0, .null])) :: X)) rfl dX5_init_17 (fun H locs hP hD hS => ?_)
  refine lv_aload_n hx hb dX5_init_20 rfl (lv_at hl 0 rfl) ?_
  refine lv_bipush (v := (nI 10)) hx hb dX5_init_21 rfl ?_
  refine zc_newa (atype := .int) (ty := .int) (N' := 10) (a0 := (10, .inl (fun _ => 0))) hx hb wA0 rfl hK 0 rfl (fun _ h => h) hP hD hS hA (fun _ => rfl) (by decide) (by decide) (by decide) (Nat.le_of_ble_eq_true rfl) (Nat.le_of_ble_eq_true rfl) dX5_init_23 (fun q23 H hP hD hS => ?_)
  refine zc_put (C := RX5) (TT := TX5) (N := 11) (ci := 5) (ty := .array .int) hx hb hts hin5 tyX5 tyX5_ok nmX5 hown hK hP hD hS 3 rfl rfl 2 (by decide) wF18 (fun _ h9 => h9) (Or.inr ⟨rfl, hnm9, rfl⟩) (by decide +kernel) rfl rfl (Nat.le_of_ble_eq_true rfl) (ws2 := ((q23, .inl (T 0, 10, .inl (fun _ => 0))) :: (q15, .inl (T 0, 10, .inl (fun _ => 0))) :: (q7, .inl (T 0, 10, .inl (fun _ => 0))) :: (o, .inr (5, [.ref q7, .ref q15, .ref q23, .null, .int 0, .int 0, .int 0, .null, .int 0, .int 0, .null])) :: X)) rfl dX5_init_25 (fun H locs hP hD hS => ?_)
  refine lv_aload_n hx hb dX5_init_28 rfl (lv_at hl 0 rfl) ?_
  refine lv_bipush (v := (nI 100)) hx hb dX5_init_29 rfl ?_
  refine zc_newa (atype := .int) (ty := .int) (N' := 100) (a0 := (100, .inl (fun _ => 0))) hx hb wA0 rfl hK 0 rfl (fun _ h => h) hP hD hS hA (fun _ => rfl) (by decide) (by decide) (by decide) (Nat.le_of_ble_eq_true rfl) (Nat.le_of_ble_eq_true rfl) dX5_init_31 (fun q31 H hP hD hS => ?_)
  refine zc_put (C := RX5) (TT := TX5) (N := 11) (ci := 5) (ty := .array .int) hx hb hts hin5 tyX5 tyX5_ok nmX5 hown hK hP hD hS 4 rfl rfl 3 (by decide) wF21 (fun _ h9 => h9) (Or.inr ⟨rfl, hnm9, rfl⟩) (by decide +kernel) rfl rfl (Nat.le_of_ble_eq_true rfl) (ws2 := ((q31, .inl (T 0, 100, .inl (fun _ => 0))) :: (q23, .inl (T 0, 10, .inl (fun _ => 0))) :: (q15, .inl (T 0, 10, .inl (fun _ => 0))) :: (q7, .inl (T 0, 10, .inl (fun _ => 0))) :: (o, .inr (5, [.ref q7, .ref q15, .ref q23, .ref q31, .int 0, .int 0, .int 0, .null, .int 0, .int 0, .null])) :: X)) rfl dX5_init_33 (fun H locs hP hD hS => ?_)
  refine lv_aload_n hx hb dX5_init_36 rfl (lv_at hl 0 rfl) ?_
  refine lv_iconst (v := (nI 5)) hx hb dX5_init_37 rfl ?_
  refine zc_put (C := RX5) (TT := TX5) (N := 11) (ci := 5) (ty := .int) hx hb hts hin5 tyX5 tyX5_ok nmX5 hown hK hP hD hS 4 rfl rfl 6 (by decide) wF24 (fun _ h9 => h9) (Or.inl rfl) (by decide +kernel) rfl rfl (Nat.le_of_ble_eq_true rfl) (ws2 := ((q31, .inl (T 0, 100, .inl (fun _ => 0))) :: (q23, .inl (T 0, 10, .inl (fun _ => 0))) :: (q15, .inl (T 0, 10, .inl (fun _ => 0))) :: (q7, .inl (T 0, 10, .inl (fun _ => 0))) :: (o, .inr (5, [.ref q7, .ref q15, .ref q23, .ref q31, .int 0, .int 0, .int (nI 5), .null, .int 0, .int 0, .null])) :: X)) rfl dX5_init_38 (fun H locs hP hD hS => ?_)
  refine lv_aload_n hx hb dX5_init_41 rfl (lv_at hl 0 rfl) ?_
  refine lv_bipush (v := (nI 100)) hx hb dX5_init_42 rfl ?_
  refine zc_newa (atype := .byte) (ty := .byte) (N' := 100) (a0 := (100, .inl (fun _ => 0))) hx hb wA2 rfl hK 2 rfl (fun _ h => h) hP hD hS hA (fun _ => rfl) (by decide) (by decide) (by decide) (Nat.le_of_ble_eq_true rfl) (Nat.le_of_ble_eq_true rfl) dX5_init_44 (fun q44 H hP hD hS => ?_)
  refine zc_put (C := RX5) (TT := TX5) (N := 11) (ci := 5) (ty := .array .byte) hx hb hts hin5 tyX5 tyX5_ok nmX5 hown hK hP hD hS 5 rfl rfl 7 (by decide) wF28 (fun _ h9 => h9) (Or.inr ⟨rfl, hnm9, rfl⟩) (by decide +kernel) rfl rfl (Nat.le_of_ble_eq_true rfl) (ws2 := ((q44, .inl (T 2, 100, .inl (fun _ => 0))) :: (q31, .inl (T 0, 100, .inl (fun _ => 0))) :: (q23, .inl (T 0, 10, .inl (fun _ => 0))) :: (q15, .inl (T 0, 10, .inl (fun _ => 0))) :: (q7, .inl (T 0, 10, .inl (fun _ => 0))) :: (o, .inr (5, [.ref q7, .ref q15, .ref q23, .ref q31, .int 0, .int 0, .int (nI 5), .ref q44, .int 0, .int 0, .null])) :: X)) rfl dX5_init_46 (fun H locs hP hD hS => ?_)
  refine lv_aload_n hx hb dX5_init_49 rfl (lv_at hl 0 rfl) ?_
  refine lv_bipush (v := (nI 7)) hx hb dX5_init_50 rfl ?_
  refine zc_newa (atype := .int) (ty := .int) (N' := 7) (a0 := (7, .inl (fun _ => 0))) hx hb wA0 rfl hK 0 rfl (fun _ h => h) hP hD hS hA (fun _ => rfl) (by decide) (by decide) (by decide) (Nat.le_of_ble_eq_true rfl) (Nat.le_of_ble_eq_true rfl) dX5_init_52 (fun q52 H hP hD hS => ?_)
  refine zc_put (C := RX5) (TT := TX5) (N := 11) (ci := 5) (ty := .array .int) hx hb hts hin5 tyX5 tyX5_ok nmX5 hown hK hP hD hS 6 rfl rfl 10 (by decide) wF32 (fun _ h9 => h9) (Or.inr ⟨rfl, hnm9, rfl⟩) (by decide +kernel) rfl rfl (Nat.le_of_ble_eq_true rfl) (ws2 := ((q52, .inl (T 0, 7, .inl (fun _ => 0))) :: (q44, .inl (T 2, 100, .inl (fun _ => 0))) :: (q31, .inl (T 0, 100, .inl (fun _ => 0))) :: (q23, .inl (T 0, 10, .inl (fun _ => 0))) :: (q15, .inl (T 0, 10, .inl (fun _ => 0))) :: (q7, .inl (T 0, 10, .inl (fun _ => 0))) :: (o, .inr (5, [.ref q7, .ref q15, .ref q23, .ref q31, .int 0, .int 0, .int (nI 5), .ref q44, .int 0, .int 0, .ref q52])) :: X)) rfl dX5_init_54 (fun H locs hP hD hS => ?_)
  exact zc_ret (B := fun f => (((f 6), .inl (T 0, 7, .inl (fun _ => 0))) :: ((f 5), .inl (T 2, 100, .inl (fun _ => 0))) :: ((f 4), .inl (T 0, 100, .inl (fun _ => 0))) :: ((f 3), .inl (T 0, 10, .inl (fun _ => 0))) :: ((f 2), .inl (T 0, 10, .inl (fun _ => 0))) :: ((f 1), .inl (T 0, 10, .inl (fun _ => 0))) :: (o, .inr (5, [.ref (f 1), .ref (f 2), .ref (f 3), .ref (f 4), .int 0, .int 0, .int (nI 5), .ref (f 5), .int 0, .int 0, .ref (f 6)])) :: X)) (fun i => match i with | 1 => q7 | 2 => q15 | 3 => q23 | 4 => q31 | 5 => q44 | _ => q52) hx hb hr hlocks hP hD hS trivial dX5_init_57
set_option maxHeartbeats 8000000 in
set_option maxRecDepth 100000 in
theorem c_X6_init (l : Launch) (D : va_G) (T : Nat → ClassId) (o : Nat) (X : va_W) : zMc l yX6_init wsX6_init { frames := 1, cells := 5, slots := 280, locals := 12 } D T [.ref o] ((o, .inr (6, [.null, .null, .null, .null, .null, .int 0, .int 0, .int 0])) :: X) (fun f => (((f 5), .inl (T 0, 8, .inl (fun _ => 0))) :: ((f 4), .inl (T 0, 8, .inl (fun _ => 0))) :: ((f 3), .inl (T 0, 8, .inl (fun _ => 0))) :: ((f 2), .inl (T 1, 128, .inl (fun _ => 0))) :: ((f 1), .inl (T 0, 128, .inl (fun _ => 0))) :: (o, .inr (6, [.ref (f 1), .ref (f 2), .ref (f 3), .ref (f 4), .ref (f 5), .int 0, .int 0, .int 0])) :: X)) 5 280 := by
  intro A
  refine zBodyC (cc := cX6_init) (maxL := 1) (ret := none) (by decide) rfl (Nat.le_of_ble_eq_true rfl) ?_
  intro p e s m below meth c hx hb hml hown hts hr hlocks hnm9 hP hD hS hK hN hAs hA ls hl
  have hown : s.vm.findClass RX6 = some m.cls := hown
  have hnm9 : meth.name = "<init>" := hnm9
  have hl : lv_has ls 1 [(0, .ref o)] := hl
  have hin6 : ∀ w ∈ wsX60, w ∈ wsX6_init := (fun _ h => List.mem_cons_of_mem _ (List.mem_append_right _ (h)))
  have wO1 := hts (.methodLink RX6 3 objectInit) (z_mem 1 rfl)
  have wO2 := hts (.instanceMethod objectInit) (z_mem 2 rfl)
  have wO3 := hts (.code objectInit ⟨#[0xb1]⟩ 1 none) (z_mem 3 rfl)
  have wA0 := hts (.arrayClass .int) (z_mem 4 rfl)
  have wF9 := hts (.fieldLink RX6 9 "WhoSitsBy$Sittings" "worths" "[I") (z_mem 5 rfl)
  have wA1 := hts (.arrayClass .boolean) (z_mem 6 rfl)
  have wF15 := hts (.fieldLink RX6 15 "WhoSitsBy$Sittings" "bars" "[Z") (z_mem 7 rfl)
  have wF19 := hts (.fieldLink RX6 19 "WhoSitsBy$Sittings" "burdens" "[I") (z_mem 8 rfl)
  have wF22 := hts (.fieldLink RX6 22 "WhoSitsBy$Sittings" "trial" "[I") (z_mem 9 rfl)
  have wF25 := hts (.fieldLink RX6 25 "WhoSitsBy$Sittings" "found" "[I") (z_mem 10 rfl)
  refine lv_aload_n hx hb dX6_init_0 rfl (lv_at hl 0 rfl) ?_
  refine W.objInit hx hb hown wO1 wO2 wO3 rfl (by rw [hml]; exact hl.1) rfl dX6_init_1 (Nat.le_of_ble_eq_true rfl) (Nat.le_of_ble_eq_true rfl) ?_
  refine W.eq (g2 := F0 m 4 ls []) rfl ?_
  refine lv_aload_n hx hb dX6_init_4 rfl (lv_at hl 0 rfl) ?_
  refine lv_sipush (v := (nI 128)) hx hb dX6_init_5 rfl ?_
  refine zc_newa (atype := .int) (ty := .int) (N' := 128) (a0 := (128, .inl (fun _ => 0))) hx hb wA0 rfl hK 0 rfl (fun _ h => h) hP hD hS hA (fun _ => rfl) (by decide) (by decide) (by decide) (Nat.le_of_ble_eq_true rfl) (Nat.le_of_ble_eq_true rfl) dX6_init_8 (fun q8 H hP hD hS => ?_)
  refine zc_put (C := RX6) (TT := TX6) (N := 8) (ci := 6) (ty := .array .int) hx hb hts hin6 tyX6 tyX6_ok nmX6 hown hK hP hD hS 1 rfl rfl 0 (by decide) wF9 (fun _ h9 => h9) (Or.inr ⟨rfl, hnm9, rfl⟩) (by decide +kernel) rfl rfl (Nat.le_of_ble_eq_true rfl) (ws2 := ((q8, .inl (T 0, 128, .inl (fun _ => 0))) :: (o, .inr (6, [.ref q8, .null, .null, .null, .null, .int 0, .int 0, .int 0])) :: X)) rfl dX6_init_10 (fun H locs hP hD hS => ?_)
  refine lv_aload_n hx hb dX6_init_13 rfl (lv_at hl 0 rfl) ?_
  refine lv_sipush (v := (nI 128)) hx hb dX6_init_14 rfl ?_
  refine zc_newa (atype := .boolean) (ty := .boolean) (N' := 128) (a0 := (128, .inl (fun _ => 0))) hx hb wA1 rfl hK 1 rfl (fun _ h => h) hP hD hS hA (fun _ => rfl) (by decide) (by decide) (by decide) (Nat.le_of_ble_eq_true rfl) (Nat.le_of_ble_eq_true rfl) dX6_init_17 (fun q17 H hP hD hS => ?_)
  refine zc_put (C := RX6) (TT := TX6) (N := 8) (ci := 6) (ty := .array .boolean) hx hb hts hin6 tyX6 tyX6_ok nmX6 hown hK hP hD hS 2 rfl rfl 1 (by decide) wF15 (fun _ h9 => h9) (Or.inr ⟨rfl, hnm9, rfl⟩) (by decide +kernel) rfl rfl (Nat.le_of_ble_eq_true rfl) (ws2 := ((q17, .inl (T 1, 128, .inl (fun _ => 0))) :: (q8, .inl (T 0, 128, .inl (fun _ => 0))) :: (o, .inr (6, [.ref q8, .ref q17, .null, .null, .null, .int 0, .int 0, .int 0])) :: X)) rfl dX6_init_19 (fun H locs hP hD hS => ?_)
  refine lv_aload_n hx hb dX6_init_22 rfl (lv_at hl 0 rfl) ?_
  refine lv_bipush (v := (nI 8)) hx hb dX6_init_23 rfl ?_
  refine zc_newa (atype := .int) (ty := .int) (N' := 8) (a0 := (8, .inl (fun _ => 0))) hx hb wA0 rfl hK 0 rfl (fun _ h => h) hP hD hS hA (fun _ => rfl) (by decide) (by decide) (by decide) (Nat.le_of_ble_eq_true rfl) (Nat.le_of_ble_eq_true rfl) dX6_init_25 (fun q25 H hP hD hS => ?_)
  refine zc_put (C := RX6) (TT := TX6) (N := 8) (ci := 6) (ty := .array .int) hx hb hts hin6 tyX6 tyX6_ok nmX6 hown hK hP hD hS 3 rfl rfl 2 (by decide) wF19 (fun _ h9 => h9) (Or.inr ⟨rfl, hnm9, rfl⟩) (by decide +kernel) rfl rfl (Nat.le_of_ble_eq_true rfl) (ws2 := ((q25, .inl (T 0, 8, .inl (fun _ => 0))) :: (q17, .inl (T 1, 128, .inl (fun _ => 0))) :: (q8, .inl (T 0, 128, .inl (fun _ => 0))) :: (o, .inr (6, [.ref q8, .ref q17, .ref q25, .null, .null, .int 0, .int 0, .int 0])) :: X)) rfl dX6_init_27 (fun H locs hP hD hS => ?_)
  refine lv_aload_n hx hb dX6_init_30 rfl (lv_at hl 0 rfl) ?_
  refine lv_bipush (v := (nI 8)) hx hb dX6_init_31 rfl ?_
  refine zc_newa (atype := .int) (ty := .int) (N' := 8) (a0 := (8, .inl (fun _ => 0))) hx hb wA0 rfl hK 0 rfl (fun _ h => h) hP hD hS hA (fun _ => rfl) (by decide) (by decide) (by decide) (Nat.le_of_ble_eq_true rfl) (Nat.le_of_ble_eq_true rfl) dX6_init_33 (fun q33 H hP hD hS => ?_)
  refine zc_put (C := RX6) (TT := TX6) (N := 8) (ci := 6) (ty := .array .int) hx hb hts hin6 tyX6 tyX6_ok nmX6 hown hK hP hD hS 4 rfl rfl 3 (by decide) wF22 (fun _ h9 => h9) (Or.inr ⟨rfl, hnm9, rfl⟩) (by decide +kernel) rfl rfl (Nat.le_of_ble_eq_true rfl) (ws2 := ((q33, .inl (T 0, 8, .inl (fun _ => 0))) :: (q25, .inl (T 0, 8, .inl (fun _ => 0))) :: (q17, .inl (T 1, 128, .inl (fun _ => 0))) :: (q8, .inl (T 0, 128, .inl (fun _ => 0))) :: (o, .inr (6, [.ref q8, .ref q17, .ref q25, .ref q33, .null, .int 0, .int 0, .int 0])) :: X)) rfl dX6_init_35 (fun H locs hP hD hS => ?_)
  refine lv_aload_n hx hb dX6_init_38 rfl (lv_at hl 0 rfl) ?_
  refine lv_bipush (v := (nI 8)) hx hb dX6_init_39 rfl ?_
  refine zc_newa (atype := .int) (ty := .int) (N' := 8) (a0 := (8, .inl (fun _ => 0))) hx hb wA0 rfl hK 0 rfl (fun _ h => h) hP hD hS hA (fun _ => rfl) (by decide) (by decide) (by decide) (Nat.le_of_ble_eq_true rfl) (Nat.le_of_ble_eq_true rfl) dX6_init_41 (fun q41 H hP hD hS => ?_)
  refine zc_put (C := RX6) (TT := TX6) (N := 8) (ci := 6) (ty := .array .int) hx hb hts hin6 tyX6 tyX6_ok nmX6 hown hK hP hD hS 5 rfl rfl 4 (by decide) wF25 (fun _ h9 => h9) (Or.inr ⟨rfl, hnm9, rfl⟩) (by decide +kernel) rfl rfl (Nat.le_of_ble_eq_true rfl) (ws2 := ((q41, .inl (T 0, 8, .inl (fun _ => 0))) :: (q33, .inl (T 0, 8, .inl (fun _ => 0))) :: (q25, .inl (T 0, 8, .inl (fun _ => 0))) :: (q17, .inl (T 1, 128, .inl (fun _ => 0))) :: (q8, .inl (T 0, 128, .inl (fun _ => 0))) :: (o, .inr (6, [.ref q8, .ref q17, .ref q25, .ref q33, .ref q41, .int 0, .int 0, .int 0])) :: X)) rfl dX6_init_43 (fun H locs hP hD hS => ?_)
  exact zc_ret (B := fun f => (((f 5), .inl (T 0, 8, .inl (fun _ => 0))) :: ((f 4), .inl (T 0, 8, .inl (fun _ => 0))) :: ((f 3), .inl (T 0, 8, .inl (fun _ => 0))) :: ((f 2), .inl (T 1, 128, .inl (fun _ => 0))) :: ((f 1), .inl (T 0, 128, .inl (fun _ => 0))) :: (o, .inr (6, [.ref (f 1), .ref (f 2), .ref (f 3), .ref (f 4), .ref (f 5), .int 0, .int 0, .int 0])) :: X)) (fun i => match i with | 1 => q8 | 2 => q17 | 3 => q25 | 4 => q33 | _ => q41) hx hb hr hlocks hP hD hS trivial dX6_init_46
set_option maxHeartbeats 8000000 in
set_option maxRecDepth 100000 in
theorem c_X7_init (l : Launch) (D : va_G) (T : Nat → ClassId) (o : Nat) (X : va_W) : zMc l yX7_init wsX7_init { frames := 1, cells := 3, slots := 24, locals := 12 } D T [.ref o] ((o, .inr (7, [.null, .null, .null, .int 0, .int 0, .long 0, .int 0])) :: X) (fun f => (((f 3), .inl (T 0, 8, .inl (upd (upd (upd (upd (upd (upd (upd (upd (fun _ => 0) 0 (-1)) 1 (-1)) 2 (-1)) 3 (-1)) 4 (-1)) 5 (-1)) 6 (-1)) 7 (-1)))) :: ((f 2), .inl (T 0, 8, .inl (upd (upd (upd (upd (upd (upd (upd (upd (fun _ => 0) 0 (-1)) 1 (-1)) 2 (-1)) 3 (-1)) 4 (-1)) 5 (-1)) 6 (-1)) 7 (-1)))) :: ((f 1), .inl (T 4, 8, .inr (.inr (.inr (.inr (fun _ => none)))))) :: (o, .inr (7, [.ref (f 1), .ref (f 2), .ref (f 3), .int 0, .int 0, .long 0, .int (-1)])) :: X)) 3 24 := by
  intro A
  refine zBodyC (cc := cX7_init) (maxL := 2) (ret := none) (by decide) rfl (Nat.le_of_ble_eq_true rfl) ?_
  intro p e s m below meth c hx hb hml hown hts hr hlocks hnm9 hP hD hS hK hN hAs hA ls hl
  have hown : s.vm.findClass RX7 = some m.cls := hown
  have hnm9 : meth.name = "<init>" := hnm9
  have hl : lv_has ls 2 [(0, .ref o)] := hl
  have hin7 : ∀ w ∈ wsX70, w ∈ wsX7_init := (fun _ h => List.mem_cons_of_mem _ (List.mem_append_right _ (h)))
  have wO1 := hts (.methodLink RX7 3 objectInit) (z_mem 1 rfl)
  have wO2 := hts (.instanceMethod objectInit) (z_mem 2 rfl)
  have wO3 := hts (.code objectInit ⟨#[0xb1]⟩ 1 none) (z_mem 3 rfl)
  have wC9 := hts (.classLink RX7 9 RX4) (z_mem 4 rfl)
  have wF11 := hts (.fieldLink RX7 11 "WhoSitsBy$Standing" "pupils" "[LWhoSitsBy$Pupil;") (z_mem 5 rfl)
  have wA0 := hts (.arrayClass .int) (z_mem 6 rfl)
  have wF17 := hts (.fieldLink RX7 17 "WhoSitsBy$Standing" "sitters" "[I") (z_mem 7 rfl)
  have wF21 := hts (.fieldLink RX7 21 "WhoSitsBy$Standing" "slipOf" "[I") (z_mem 8 rfl)
  have wF24 := hts (.fieldLink RX7 24 "WhoSitsBy$Standing" "held" "I") (z_mem 9 rfl)
  refine lv_aload_n hx hb dX7_init_0 rfl (lv_at hl 0 rfl) ?_
  refine W.objInit hx hb hown wO1 wO2 wO3 rfl (by rw [hml]; exact hl.1) rfl dX7_init_1 (Nat.le_of_ble_eq_true rfl) (Nat.le_of_ble_eq_true rfl) ?_
  refine W.eq (g2 := F0 m 4 ls []) rfl ?_
  refine lv_aload_n hx hb dX7_init_4 rfl (lv_at hl 0 rfl) ?_
  refine lv_bipush (v := (nI 8)) hx hb dX7_init_5 rfl ?_
  refine zc_newq (N' := 8) hx hb hown wC9 hAs.1 hK 4 rfl hP hD hS hA (by decide) (by decide) (by decide) (Nat.le_of_ble_eq_true rfl) (Nat.le_of_ble_eq_true rfl) dX7_init_7 (fun q7 H hP hD hS => ?_)
  refine zc_put (C := RX7) (TT := TX7) (N := 7) (ci := 7) (ty := .array (.object "WhoSitsBy$Pupil")) hx hb hts hin7 tyX7 tyX7_ok nmX7 hown hK hP hD hS 1 rfl rfl 0 (by decide) wF11 (fun _ h9 => h9) (Or.inr ⟨rfl, hnm9, rfl⟩) (by decide +kernel) rfl rfl (Nat.le_of_ble_eq_true rfl) (ws2 := ((q7, .inl (T 4, 8, .inr (.inr (.inr (.inr (fun _ => none)))))) :: (o, .inr (7, [.ref q7, .null, .null, .int 0, .int 0, .long 0, .int 0])) :: X)) rfl dX7_init_10 (fun H locs hP hD hS => ?_)
  refine lv_aload_n hx hb dX7_init_13 rfl (lv_at hl 0 rfl) ?_
  refine lv_bipush (v := (nI 8)) hx hb dX7_init_14 rfl ?_
  refine zc_newa (atype := .int) (ty := .int) (N' := 8) (a0 := (8, .inl (fun _ => 0))) hx hb wA0 rfl hK 0 rfl (fun _ h => h) hP hD hS hA (fun _ => rfl) (by decide) (by decide) (by decide) (Nat.le_of_ble_eq_true rfl) (Nat.le_of_ble_eq_true rfl) dX7_init_16 (fun q16 H hP hD hS => ?_)
  refine zc_put (C := RX7) (TT := TX7) (N := 7) (ci := 7) (ty := .array .int) hx hb hts hin7 tyX7 tyX7_ok nmX7 hown hK hP hD hS 2 rfl rfl 1 (by decide) wF17 (fun _ h9 => h9) (Or.inr ⟨rfl, hnm9, rfl⟩) (by decide +kernel) rfl rfl (Nat.le_of_ble_eq_true rfl) (ws2 := ((q16, .inl (T 0, 8, .inl (fun _ => 0))) :: (q7, .inl (T 4, 8, .inr (.inr (.inr (.inr (fun _ => none)))))) :: (o, .inr (7, [.ref q7, .ref q16, .null, .int 0, .int 0, .long 0, .int 0])) :: X)) rfl dX7_init_18 (fun H locs hP hD hS => ?_)
  refine lv_aload_n hx hb dX7_init_21 rfl (lv_at hl 0 rfl) ?_
  refine lv_bipush (v := (nI 8)) hx hb dX7_init_22 rfl ?_
  refine zc_newa (atype := .int) (ty := .int) (N' := 8) (a0 := (8, .inl (fun _ => 0))) hx hb wA0 rfl hK 0 rfl (fun _ h => h) hP hD hS hA (fun _ => rfl) (by decide) (by decide) (by decide) (Nat.le_of_ble_eq_true rfl) (Nat.le_of_ble_eq_true rfl) dX7_init_24 (fun q24 H hP hD hS => ?_)
  refine zc_put (C := RX7) (TT := TX7) (N := 7) (ci := 7) (ty := .array .int) hx hb hts hin7 tyX7 tyX7_ok nmX7 hown hK hP hD hS 3 rfl rfl 2 (by decide) wF21 (fun _ h9 => h9) (Or.inr ⟨rfl, hnm9, rfl⟩) (by decide +kernel) rfl rfl (Nat.le_of_ble_eq_true rfl) (ws2 := ((q24, .inl (T 0, 8, .inl (fun _ => 0))) :: (q16, .inl (T 0, 8, .inl (fun _ => 0))) :: (q7, .inl (T 4, 8, .inr (.inr (.inr (.inr (fun _ => none)))))) :: (o, .inr (7, [.ref q7, .ref q16, .ref q24, .int 0, .int 0, .long 0, .int 0])) :: X)) rfl dX7_init_26 (fun H locs hP hD hS => ?_)
  refine lv_aload_n hx hb dX7_init_29 rfl (lv_at hl 0 rfl) ?_
  refine lv_iconst (v := (-1)) hx hb dX7_init_30 rfl ?_
  refine zc_put (C := RX7) (TT := TX7) (N := 7) (ci := 7) (ty := .int) hx hb hts hin7 tyX7 tyX7_ok nmX7 hown hK hP hD hS 3 rfl rfl 6 (by decide) wF24 (fun _ h9 => h9) (Or.inl rfl) (by decide +kernel) rfl rfl (Nat.le_of_ble_eq_true rfl) (ws2 := ((q24, .inl (T 0, 8, .inl (fun _ => 0))) :: (q16, .inl (T 0, 8, .inl (fun _ => 0))) :: (q7, .inl (T 4, 8, .inr (.inr (.inr (.inr (fun _ => none)))))) :: (o, .inr (7, [.ref q7, .ref q16, .ref q24, .int 0, .int 0, .long 0, .int (-1)])) :: X)) rfl dX7_init_31 (fun H locs hP hD hS => ?_)
  refine lv_iconst (v := (nI 0)) hx hb dX7_init_34 rfl ?_
  refine lv_istore_n (lv' := [(1, .int (nI 0)), (0, .ref o)]) hx hb dX7_init_35 rfl hl (by decide) rfl (fun ls hl => ?_)
  refine lv_iload_n hx hb dX7_init_36 rfl (lv_at hl 0 rfl) ?_
  refine lv_bipush (v := (nI 8)) hx hb dX7_init_37 rfl ?_
  refine lv_icmp_ge (tgt := 62) hx hb dX7_init_39 (by decide) (fun c9 => absurd c9 (by decide)) (fun c9 => ?_)
  refine lv_aload_n hx hb dX7_init_42 rfl (lv_at hl 1 rfl) ?_
  refine va_get (C := RX7) (T := TX7) (N := 7) (ci := 7) (v := .ref q16) hx hb hts hin7 hown hK hP 3 rfl rfl 1 (by decide) wF17 (fun _ h9 => h9) rfl dX7_init_43 ?_
  refine lv_iload_n hx hb dX7_init_46 rfl (lv_at hl 0 rfl) ?_
  refine lv_iconst (v := (-1)) hx hb dX7_init_47 rfl ?_
  refine zc_iast (f := (fun _ => 0)) (y := (-1)) hx hb hK hP hD hS 1 rfl 0 rfl (by decide) (by decide) (ws2 := ((q24, .inl (T 0, 8, .inl (fun _ => 0))) :: (q16, .inl (T 0, 8, .inl (upd (fun _ => 0) 0 (-1)))) :: (q7, .inl (T 4, 8, .inr (.inr (.inr (.inr (fun _ => none)))))) :: (o, .inr (7, [.ref q7, .ref q16, .ref q24, .int 0, .int 0, .long 0, .int (-1)])) :: X)) rfl dX7_init_48 (fun H locs hP hD hS => ?_)
  refine lv_aload_n hx hb dX7_init_49 rfl (lv_at hl 1 rfl) ?_
  refine va_get (C := RX7) (T := TX7) (N := 7) (ci := 7) (v := .ref q24) hx hb hts hin7 hown hK hP 3 rfl rfl 2 (by decide) wF21 (fun _ h9 => h9) rfl dX7_init_50 ?_
  refine lv_iload_n hx hb dX7_init_53 rfl (lv_at hl 0 rfl) ?_
  refine lv_iconst (v := (-1)) hx hb dX7_init_54 rfl ?_
  refine zc_iast (f := (fun _ => 0)) (y := (-1)) hx hb hK hP hD hS 0 rfl 0 rfl (by decide) (by decide) (ws2 := ((q24, .inl (T 0, 8, .inl (upd (fun _ => 0) 0 (-1)))) :: (q16, .inl (T 0, 8, .inl (upd (fun _ => 0) 0 (-1)))) :: (q7, .inl (T 4, 8, .inr (.inr (.inr (.inr (fun _ => none)))))) :: (o, .inr (7, [.ref q7, .ref q16, .ref q24, .int 0, .int 0, .long 0, .int (-1)])) :: X)) rfl dX7_init_55 (fun H locs hP hD hS => ?_)
  refine lv_iinc (v := (nI 1)) (lv' := [(1, .int (nI 1)), (0, .ref o)]) hx hb dX7_init_56 hl (k := 0) rfl (zinc 0) (by decide) rfl (fun ls hl => ?_)
  refine lv_goto (tgt := 36) hx hb dX7_init_59 (by decide) ?_
  refine lv_iload_n hx hb dX7_init_36 rfl (lv_at hl 0 rfl) ?_
  refine lv_bipush (v := (nI 8)) hx hb dX7_init_37 rfl ?_
  refine lv_icmp_ge (tgt := 62) hx hb dX7_init_39 (by decide) (fun c9 => absurd c9 (by decide)) (fun c9 => ?_)
  refine lv_aload_n hx hb dX7_init_42 rfl (lv_at hl 1 rfl) ?_
  refine va_get (C := RX7) (T := TX7) (N := 7) (ci := 7) (v := .ref q16) hx hb hts hin7 hown hK hP 3 rfl rfl 1 (by decide) wF17 (fun _ h9 => h9) rfl dX7_init_43 ?_
  refine lv_iload_n hx hb dX7_init_46 rfl (lv_at hl 0 rfl) ?_
  refine lv_iconst (v := (-1)) hx hb dX7_init_47 rfl ?_
  refine zc_iast (f := (upd (fun _ => 0) 0 (-1))) (y := (-1)) hx hb hK hP hD hS 1 rfl 1 rfl (by decide) (by decide) (ws2 := ((q24, .inl (T 0, 8, .inl (upd (fun _ => 0) 0 (-1)))) :: (q16, .inl (T 0, 8, .inl (upd (upd (fun _ => 0) 0 (-1)) 1 (-1)))) :: (q7, .inl (T 4, 8, .inr (.inr (.inr (.inr (fun _ => none)))))) :: (o, .inr (7, [.ref q7, .ref q16, .ref q24, .int 0, .int 0, .long 0, .int (-1)])) :: X)) rfl dX7_init_48 (fun H locs hP hD hS => ?_)
  refine lv_aload_n hx hb dX7_init_49 rfl (lv_at hl 1 rfl) ?_
  refine va_get (C := RX7) (T := TX7) (N := 7) (ci := 7) (v := .ref q24) hx hb hts hin7 hown hK hP 3 rfl rfl 2 (by decide) wF21 (fun _ h9 => h9) rfl dX7_init_50 ?_
  refine lv_iload_n hx hb dX7_init_53 rfl (lv_at hl 0 rfl) ?_
  refine lv_iconst (v := (-1)) hx hb dX7_init_54 rfl ?_
  refine zc_iast (f := (upd (fun _ => 0) 0 (-1))) (y := (-1)) hx hb hK hP hD hS 0 rfl 1 rfl (by decide) (by decide) (ws2 := ((q24, .inl (T 0, 8, .inl (upd (upd (fun _ => 0) 0 (-1)) 1 (-1)))) :: (q16, .inl (T 0, 8, .inl (upd (upd (fun _ => 0) 0 (-1)) 1 (-1)))) :: (q7, .inl (T 4, 8, .inr (.inr (.inr (.inr (fun _ => none)))))) :: (o, .inr (7, [.ref q7, .ref q16, .ref q24, .int 0, .int 0, .long 0, .int (-1)])) :: X)) rfl dX7_init_55 (fun H locs hP hD hS => ?_)
  refine lv_iinc (v := (nI 2)) (lv' := [(1, .int (nI 2)), (0, .ref o)]) hx hb dX7_init_56 hl (k := 0) rfl (zinc 1) (by decide) rfl (fun ls hl => ?_)
  refine lv_goto (tgt := 36) hx hb dX7_init_59 (by decide) ?_
  refine lv_iload_n hx hb dX7_init_36 rfl (lv_at hl 0 rfl) ?_
  refine lv_bipush (v := (nI 8)) hx hb dX7_init_37 rfl ?_
  refine lv_icmp_ge (tgt := 62) hx hb dX7_init_39 (by decide) (fun c9 => absurd c9 (by decide)) (fun c9 => ?_)
  refine lv_aload_n hx hb dX7_init_42 rfl (lv_at hl 1 rfl) ?_
  refine va_get (C := RX7) (T := TX7) (N := 7) (ci := 7) (v := .ref q16) hx hb hts hin7 hown hK hP 3 rfl rfl 1 (by decide) wF17 (fun _ h9 => h9) rfl dX7_init_43 ?_
  refine lv_iload_n hx hb dX7_init_46 rfl (lv_at hl 0 rfl) ?_
  refine lv_iconst (v := (-1)) hx hb dX7_init_47 rfl ?_
  refine zc_iast (f := (upd (upd (fun _ => 0) 0 (-1)) 1 (-1))) (y := (-1)) hx hb hK hP hD hS 1 rfl 2 rfl (by decide) (by decide) (ws2 := ((q24, .inl (T 0, 8, .inl (upd (upd (fun _ => 0) 0 (-1)) 1 (-1)))) :: (q16, .inl (T 0, 8, .inl (upd (upd (upd (fun _ => 0) 0 (-1)) 1 (-1)) 2 (-1)))) :: (q7, .inl (T 4, 8, .inr (.inr (.inr (.inr (fun _ => none)))))) :: (o, .inr (7, [.ref q7, .ref q16, .ref q24, .int 0, .int 0, .long 0, .int (-1)])) :: X)) rfl dX7_init_48 (fun H locs hP hD hS => ?_)
  refine lv_aload_n hx hb dX7_init_49 rfl (lv_at hl 1 rfl) ?_
  refine va_get (C := RX7) (T := TX7) (N := 7) (ci := 7) (v := .ref q24) hx hb hts hin7 hown hK hP 3 rfl rfl 2 (by decide) wF21 (fun _ h9 => h9) rfl dX7_init_50 ?_
  refine lv_iload_n hx hb dX7_init_53 rfl (lv_at hl 0 rfl) ?_
  refine lv_iconst (v := (-1)) hx hb dX7_init_54 rfl ?_
  refine zc_iast (f := (upd (upd (fun _ => 0) 0 (-1)) 1 (-1))) (y := (-1)) hx hb hK hP hD hS 0 rfl 2 rfl (by decide) (by decide) (ws2 := ((q24, .inl (T 0, 8, .inl (upd (upd (upd (fun _ => 0) 0 (-1)) 1 (-1)) 2 (-1)))) :: (q16, .inl (T 0, 8, .inl (upd (upd (upd (fun _ => 0) 0 (-1)) 1 (-1)) 2 (-1)))) :: (q7, .inl (T 4, 8, .inr (.inr (.inr (.inr (fun _ => none)))))) :: (o, .inr (7, [.ref q7, .ref q16, .ref q24, .int 0, .int 0, .long 0, .int (-1)])) :: X)) rfl dX7_init_55 (fun H locs hP hD hS => ?_)
  refine lv_iinc (v := (nI 3)) (lv' := [(1, .int (nI 3)), (0, .ref o)]) hx hb dX7_init_56 hl (k := 0) rfl (zinc 2) (by decide) rfl (fun ls hl => ?_)
  refine lv_goto (tgt := 36) hx hb dX7_init_59 (by decide) ?_
  refine lv_iload_n hx hb dX7_init_36 rfl (lv_at hl 0 rfl) ?_
  refine lv_bipush (v := (nI 8)) hx hb dX7_init_37 rfl ?_
  refine lv_icmp_ge (tgt := 62) hx hb dX7_init_39 (by decide) (fun c9 => absurd c9 (by decide)) (fun c9 => ?_)
  refine lv_aload_n hx hb dX7_init_42 rfl (lv_at hl 1 rfl) ?_
  refine va_get (C := RX7) (T := TX7) (N := 7) (ci := 7) (v := .ref q16) hx hb hts hin7 hown hK hP 3 rfl rfl 1 (by decide) wF17 (fun _ h9 => h9) rfl dX7_init_43 ?_
  refine lv_iload_n hx hb dX7_init_46 rfl (lv_at hl 0 rfl) ?_
  refine lv_iconst (v := (-1)) hx hb dX7_init_47 rfl ?_
  refine zc_iast (f := (upd (upd (upd (fun _ => 0) 0 (-1)) 1 (-1)) 2 (-1))) (y := (-1)) hx hb hK hP hD hS 1 rfl 3 rfl (by decide) (by decide) (ws2 := ((q24, .inl (T 0, 8, .inl (upd (upd (upd (fun _ => 0) 0 (-1)) 1 (-1)) 2 (-1)))) :: (q16, .inl (T 0, 8, .inl (upd (upd (upd (upd (fun _ => 0) 0 (-1)) 1 (-1)) 2 (-1)) 3 (-1)))) :: (q7, .inl (T 4, 8, .inr (.inr (.inr (.inr (fun _ => none)))))) :: (o, .inr (7, [.ref q7, .ref q16, .ref q24, .int 0, .int 0, .long 0, .int (-1)])) :: X)) rfl dX7_init_48 (fun H locs hP hD hS => ?_)
  refine lv_aload_n hx hb dX7_init_49 rfl (lv_at hl 1 rfl) ?_
  refine va_get (C := RX7) (T := TX7) (N := 7) (ci := 7) (v := .ref q24) hx hb hts hin7 hown hK hP 3 rfl rfl 2 (by decide) wF21 (fun _ h9 => h9) rfl dX7_init_50 ?_
  refine lv_iload_n hx hb dX7_init_53 rfl (lv_at hl 0 rfl) ?_
  refine lv_iconst (v := (-1)) hx hb dX7_init_54 rfl ?_
  refine zc_iast (f := (upd (upd (upd (fun _ => 0) 0 (-1)) 1 (-1)) 2 (-1))) (y := (-1)) hx hb hK hP hD hS 0 rfl 3 rfl (by decide) (by decide) (ws2 := ((q24, .inl (T 0, 8, .inl (upd (upd (upd (upd (fun _ => 0) 0 (-1)) 1 (-1)) 2 (-1)) 3 (-1)))) :: (q16, .inl (T 0, 8, .inl (upd (upd (upd (upd (fun _ => 0) 0 (-1)) 1 (-1)) 2 (-1)) 3 (-1)))) :: (q7, .inl (T 4, 8, .inr (.inr (.inr (.inr (fun _ => none)))))) :: (o, .inr (7, [.ref q7, .ref q16, .ref q24, .int 0, .int 0, .long 0, .int (-1)])) :: X)) rfl dX7_init_55 (fun H locs hP hD hS => ?_)
  refine lv_iinc (v := (nI 4)) (lv' := [(1, .int (nI 4)), (0, .ref o)]) hx hb dX7_init_56 hl (k := 0) rfl (zinc 3) (by decide) rfl (fun ls hl => ?_)
  refine lv_goto (tgt := 36) hx hb dX7_init_59 (by decide) ?_
  refine lv_iload_n hx hb dX7_init_36 rfl (lv_at hl 0 rfl) ?_
  refine lv_bipush (v := (nI 8)) hx hb dX7_init_37 rfl ?_
  refine lv_icmp_ge (tgt := 62) hx hb dX7_init_39 (by decide) (fun c9 => absurd c9 (by decide)) (fun c9 => ?_)
  refine lv_aload_n hx hb dX7_init_42 rfl (lv_at hl 1 rfl) ?_
  refine va_get (C := RX7) (T := TX7) (N := 7) (ci := 7) (v := .ref q16) hx hb hts hin7 hown hK hP 3 rfl rfl 1 (by decide) wF17 (fun _ h9 => h9) rfl dX7_init_43 ?_
  refine lv_iload_n hx hb dX7_init_46 rfl (lv_at hl 0 rfl) ?_
  refine lv_iconst (v := (-1)) hx hb dX7_init_47 rfl ?_
  refine zc_iast (f := (upd (upd (upd (upd (fun _ => 0) 0 (-1)) 1 (-1)) 2 (-1)) 3 (-1))) (y := (-1)) hx hb hK hP hD hS 1 rfl 4 rfl (by decide) (by decide) (ws2 := ((q24, .inl (T 0, 8, .inl (upd (upd (upd (upd (fun _ => 0) 0 (-1)) 1 (-1)) 2 (-1)) 3 (-1)))) :: (q16, .inl (T 0, 8, .inl (upd (upd (upd (upd (upd (fun _ => 0) 0 (-1)) 1 (-1)) 2 (-1)) 3 (-1)) 4 (-1)))) :: (q7, .inl (T 4, 8, .inr (.inr (.inr (.inr (fun _ => none)))))) :: (o, .inr (7, [.ref q7, .ref q16, .ref q24, .int 0, .int 0, .long 0, .int (-1)])) :: X)) rfl dX7_init_48 (fun H locs hP hD hS => ?_)
  refine lv_aload_n hx hb dX7_init_49 rfl (lv_at hl 1 rfl) ?_
  refine va_get (C := RX7) (T := TX7) (N := 7) (ci := 7) (v := .ref q24) hx hb hts hin7 hown hK hP 3 rfl rfl 2 (by decide) wF21 (fun _ h9 => h9) rfl dX7_init_50 ?_
  refine lv_iload_n hx hb dX7_init_53 rfl (lv_at hl 0 rfl) ?_
  refine lv_iconst (v := (-1)) hx hb dX7_init_54 rfl ?_
  refine zc_iast (f := (upd (upd (upd (upd (fun _ => 0) 0 (-1)) 1 (-1)) 2 (-1)) 3 (-1))) (y := (-1)) hx hb hK hP hD hS 0 rfl 4 rfl (by decide) (by decide) (ws2 := ((q24, .inl (T 0, 8, .inl (upd (upd (upd (upd (upd (fun _ => 0) 0 (-1)) 1 (-1)) 2 (-1)) 3 (-1)) 4 (-1)))) :: (q16, .inl (T 0, 8, .inl (upd (upd (upd (upd (upd (fun _ => 0) 0 (-1)) 1 (-1)) 2 (-1)) 3 (-1)) 4 (-1)))) :: (q7, .inl (T 4, 8, .inr (.inr (.inr (.inr (fun _ => none)))))) :: (o, .inr (7, [.ref q7, .ref q16, .ref q24, .int 0, .int 0, .long 0, .int (-1)])) :: X)) rfl dX7_init_55 (fun H locs hP hD hS => ?_)
  refine lv_iinc (v := (nI 5)) (lv' := [(1, .int (nI 5)), (0, .ref o)]) hx hb dX7_init_56 hl (k := 0) rfl (zinc 4) (by decide) rfl (fun ls hl => ?_)
  refine lv_goto (tgt := 36) hx hb dX7_init_59 (by decide) ?_
  refine lv_iload_n hx hb dX7_init_36 rfl (lv_at hl 0 rfl) ?_
  refine lv_bipush (v := (nI 8)) hx hb dX7_init_37 rfl ?_
  refine lv_icmp_ge (tgt := 62) hx hb dX7_init_39 (by decide) (fun c9 => absurd c9 (by decide)) (fun c9 => ?_)
  refine lv_aload_n hx hb dX7_init_42 rfl (lv_at hl 1 rfl) ?_
  refine va_get (C := RX7) (T := TX7) (N := 7) (ci := 7) (v := .ref q16) hx hb hts hin7 hown hK hP 3 rfl rfl 1 (by decide) wF17 (fun _ h9 => h9) rfl dX7_init_43 ?_
  refine lv_iload_n hx hb dX7_init_46 rfl (lv_at hl 0 rfl) ?_
  refine lv_iconst (v := (-1)) hx hb dX7_init_47 rfl ?_
  refine zc_iast (f := (upd (upd (upd (upd (upd (fun _ => 0) 0 (-1)) 1 (-1)) 2 (-1)) 3 (-1)) 4 (-1))) (y := (-1)) hx hb hK hP hD hS 1 rfl 5 rfl (by decide) (by decide) (ws2 := ((q24, .inl (T 0, 8, .inl (upd (upd (upd (upd (upd (fun _ => 0) 0 (-1)) 1 (-1)) 2 (-1)) 3 (-1)) 4 (-1)))) :: (q16, .inl (T 0, 8, .inl (upd (upd (upd (upd (upd (upd (fun _ => 0) 0 (-1)) 1 (-1)) 2 (-1)) 3 (-1)) 4 (-1)) 5 (-1)))) :: (q7, .inl (T 4, 8, .inr (.inr (.inr (.inr (fun _ => none)))))) :: (o, .inr (7, [.ref q7, .ref q16, .ref q24, .int 0, .int 0, .long 0, .int (-1)])) :: X)) rfl dX7_init_48 (fun H locs hP hD hS => ?_)
  refine lv_aload_n hx hb dX7_init_49 rfl (lv_at hl 1 rfl) ?_
  refine va_get (C := RX7) (T := TX7) (N := 7) (ci := 7) (v := .ref q24) hx hb hts hin7 hown hK hP 3 rfl rfl 2 (by decide) wF21 (fun _ h9 => h9) rfl dX7_init_50 ?_
  refine lv_iload_n hx hb dX7_init_53 rfl (lv_at hl 0 rfl) ?_
  refine lv_iconst (v := (-1)) hx hb dX7_init_54 rfl ?_
  refine zc_iast (f := (upd (upd (upd (upd (upd (fun _ => 0) 0 (-1)) 1 (-1)) 2 (-1)) 3 (-1)) 4 (-1))) (y := (-1)) hx hb hK hP hD hS 0 rfl 5 rfl (by decide) (by decide) (ws2 := ((q24, .inl (T 0, 8, .inl (upd (upd (upd (upd (upd (upd (fun _ => 0) 0 (-1)) 1 (-1)) 2 (-1)) 3 (-1)) 4 (-1)) 5 (-1)))) :: (q16, .inl (T 0, 8, .inl (upd (upd (upd (upd (upd (upd (fun _ => 0) 0 (-1)) 1 (-1)) 2 (-1)) 3 (-1)) 4 (-1)) 5 (-1)))) :: (q7, .inl (T 4, 8, .inr (.inr (.inr (.inr (fun _ => none)))))) :: (o, .inr (7, [.ref q7, .ref q16, .ref q24, .int 0, .int 0, .long 0, .int (-1)])) :: X)) rfl dX7_init_55 (fun H locs hP hD hS => ?_)
  refine lv_iinc (v := (nI 6)) (lv' := [(1, .int (nI 6)), (0, .ref o)]) hx hb dX7_init_56 hl (k := 0) rfl (zinc 5) (by decide) rfl (fun ls hl => ?_)
  refine lv_goto (tgt := 36) hx hb dX7_init_59 (by decide) ?_
  refine lv_iload_n hx hb dX7_init_36 rfl (lv_at hl 0 rfl) ?_
  refine lv_bipush (v := (nI 8)) hx hb dX7_init_37 rfl ?_
  refine lv_icmp_ge (tgt := 62) hx hb dX7_init_39 (by decide) (fun c9 => absurd c9 (by decide)) (fun c9 => ?_)
  refine lv_aload_n hx hb dX7_init_42 rfl (lv_at hl 1 rfl) ?_
  refine va_get (C := RX7) (T := TX7) (N := 7) (ci := 7) (v := .ref q16) hx hb hts hin7 hown hK hP 3 rfl rfl 1 (by decide) wF17 (fun _ h9 => h9) rfl dX7_init_43 ?_
  refine lv_iload_n hx hb dX7_init_46 rfl (lv_at hl 0 rfl) ?_
  refine lv_iconst (v := (-1)) hx hb dX7_init_47 rfl ?_
  refine zc_iast (f := (upd (upd (upd (upd (upd (upd (fun _ => 0) 0 (-1)) 1 (-1)) 2 (-1)) 3 (-1)) 4 (-1)) 5 (-1))) (y := (-1)) hx hb hK hP hD hS 1 rfl 6 rfl (by decide) (by decide) (ws2 := ((q24, .inl (T 0, 8, .inl (upd (upd (upd (upd (upd (upd (fun _ => 0) 0 (-1)) 1 (-1)) 2 (-1)) 3 (-1)) 4 (-1)) 5 (-1)))) :: (q16, .inl (T 0, 8, .inl (upd (upd (upd (upd (upd (upd (upd (fun _ => 0) 0 (-1)) 1 (-1)) 2 (-1)) 3 (-1)) 4 (-1)) 5 (-1)) 6 (-1)))) :: (q7, .inl (T 4, 8, .inr (.inr (.inr (.inr (fun _ => none)))))) :: (o, .inr (7, [.ref q7, .ref q16, .ref q24, .int 0, .int 0, .long 0, .int (-1)])) :: X)) rfl dX7_init_48 (fun H locs hP hD hS => ?_)
  refine lv_aload_n hx hb dX7_init_49 rfl (lv_at hl 1 rfl) ?_
  refine va_get (C := RX7) (T := TX7) (N := 7) (ci := 7) (v := .ref q24) hx hb hts hin7 hown hK hP 3 rfl rfl 2 (by decide) wF21 (fun _ h9 => h9) rfl dX7_init_50 ?_
  refine lv_iload_n hx hb dX7_init_53 rfl (lv_at hl 0 rfl) ?_
  refine lv_iconst (v := (-1)) hx hb dX7_init_54 rfl ?_
  refine zc_iast (f := (upd (upd (upd (upd (upd (upd (fun _ => 0) 0 (-1)) 1 (-1)) 2 (-1)) 3 (-1)) 4 (-1)) 5 (-1))) (y := (-1)) hx hb hK hP hD hS 0 rfl 6 rfl (by decide) (by decide) (ws2 := ((q24, .inl (T 0, 8, .inl (upd (upd (upd (upd (upd (upd (upd (fun _ => 0) 0 (-1)) 1 (-1)) 2 (-1)) 3 (-1)) 4 (-1)) 5 (-1)) 6 (-1)))) :: (q16, .inl (T 0, 8, .inl (upd (upd (upd (upd (upd (upd (upd (fun _ => 0) 0 (-1)) 1 (-1)) 2 (-1)) 3 (-1)) 4 (-1)) 5 (-1)) 6 (-1)))) :: (q7, .inl (T 4, 8, .inr (.inr (.inr (.inr (fun _ => none)))))) :: (o, .inr (7, [.ref q7, .ref q16, .ref q24, .int 0, .int 0, .long 0, .int (-1)])) :: X)) rfl dX7_init_55 (fun H locs hP hD hS => ?_)
  refine lv_iinc (v := (nI 7)) (lv' := [(1, .int (nI 7)), (0, .ref o)]) hx hb dX7_init_56 hl (k := 0) rfl (zinc 6) (by decide) rfl (fun ls hl => ?_)
  refine lv_goto (tgt := 36) hx hb dX7_init_59 (by decide) ?_
  refine lv_iload_n hx hb dX7_init_36 rfl (lv_at hl 0 rfl) ?_
  refine lv_bipush (v := (nI 8)) hx hb dX7_init_37 rfl ?_
  refine lv_icmp_ge (tgt := 62) hx hb dX7_init_39 (by decide) (fun c9 => absurd c9 (by decide)) (fun c9 => ?_)
  refine lv_aload_n hx hb dX7_init_42 rfl (lv_at hl 1 rfl) ?_
  refine va_get (C := RX7) (T := TX7) (N := 7) (ci := 7) (v := .ref q16) hx hb hts hin7 hown hK hP 3 rfl rfl 1 (by decide) wF17 (fun _ h9 => h9) rfl dX7_init_43 ?_
  refine lv_iload_n hx hb dX7_init_46 rfl (lv_at hl 0 rfl) ?_
  refine lv_iconst (v := (-1)) hx hb dX7_init_47 rfl ?_
  refine zc_iast (f := (upd (upd (upd (upd (upd (upd (upd (fun _ => 0) 0 (-1)) 1 (-1)) 2 (-1)) 3 (-1)) 4 (-1)) 5 (-1)) 6 (-1))) (y := (-1)) hx hb hK hP hD hS 1 rfl 7 rfl (by decide) (by decide) (ws2 := ((q24, .inl (T 0, 8, .inl (upd (upd (upd (upd (upd (upd (upd (fun _ => 0) 0 (-1)) 1 (-1)) 2 (-1)) 3 (-1)) 4 (-1)) 5 (-1)) 6 (-1)))) :: (q16, .inl (T 0, 8, .inl (upd (upd (upd (upd (upd (upd (upd (upd (fun _ => 0) 0 (-1)) 1 (-1)) 2 (-1)) 3 (-1)) 4 (-1)) 5 (-1)) 6 (-1)) 7 (-1)))) :: (q7, .inl (T 4, 8, .inr (.inr (.inr (.inr (fun _ => none)))))) :: (o, .inr (7, [.ref q7, .ref q16, .ref q24, .int 0, .int 0, .long 0, .int (-1)])) :: X)) rfl dX7_init_48 (fun H locs hP hD hS => ?_)
  refine lv_aload_n hx hb dX7_init_49 rfl (lv_at hl 1 rfl) ?_
  refine va_get (C := RX7) (T := TX7) (N := 7) (ci := 7) (v := .ref q24) hx hb hts hin7 hown hK hP 3 rfl rfl 2 (by decide) wF21 (fun _ h9 => h9) rfl dX7_init_50 ?_
  refine lv_iload_n hx hb dX7_init_53 rfl (lv_at hl 0 rfl) ?_
  refine lv_iconst (v := (-1)) hx hb dX7_init_54 rfl ?_
  refine zc_iast (f := (upd (upd (upd (upd (upd (upd (upd (fun _ => 0) 0 (-1)) 1 (-1)) 2 (-1)) 3 (-1)) 4 (-1)) 5 (-1)) 6 (-1))) (y := (-1)) hx hb hK hP hD hS 0 rfl 7 rfl (by decide) (by decide) (ws2 := ((q24, .inl (T 0, 8, .inl (upd (upd (upd (upd (upd (upd (upd (upd (fun _ => 0) 0 (-1)) 1 (-1)) 2 (-1)) 3 (-1)) 4 (-1)) 5 (-1)) 6 (-1)) 7 (-1)))) :: (q16, .inl (T 0, 8, .inl (upd (upd (upd (upd (upd (upd (upd (upd (fun _ => 0) 0 (-1)) 1 (-1)) 2 (-1)) 3 (-1)) 4 (-1)) 5 (-1)) 6 (-1)) 7 (-1)))) :: (q7, .inl (T 4, 8, .inr (.inr (.inr (.inr (fun _ => none)))))) :: (o, .inr (7, [.ref q7, .ref q16, .ref q24, .int 0, .int 0, .long 0, .int (-1)])) :: X)) rfl dX7_init_55 (fun H locs hP hD hS => ?_)
  refine lv_iinc (v := (nI 8)) (lv' := [(1, .int (nI 8)), (0, .ref o)]) hx hb dX7_init_56 hl (k := 0) rfl (zinc 7) (by decide) rfl (fun ls hl => ?_)
  refine lv_goto (tgt := 36) hx hb dX7_init_59 (by decide) ?_
  refine lv_iload_n hx hb dX7_init_36 rfl (lv_at hl 0 rfl) ?_
  refine lv_bipush (v := (nI 8)) hx hb dX7_init_37 rfl ?_
  refine lv_icmp_ge (tgt := 62) hx hb dX7_init_39 (by decide) (fun c9 => ?_) (fun c9 => absurd c9 (by decide))
  exact zc_ret (B := fun f => (((f 3), .inl (T 0, 8, .inl (upd (upd (upd (upd (upd (upd (upd (upd (fun _ => 0) 0 (-1)) 1 (-1)) 2 (-1)) 3 (-1)) 4 (-1)) 5 (-1)) 6 (-1)) 7 (-1)))) :: ((f 2), .inl (T 0, 8, .inl (upd (upd (upd (upd (upd (upd (upd (upd (fun _ => 0) 0 (-1)) 1 (-1)) 2 (-1)) 3 (-1)) 4 (-1)) 5 (-1)) 6 (-1)) 7 (-1)))) :: ((f 1), .inl (T 4, 8, .inr (.inr (.inr (.inr (fun _ => none)))))) :: (o, .inr (7, [.ref (f 1), .ref (f 2), .ref (f 3), .int 0, .int 0, .long 0, .int (-1)])) :: X)) (fun i => match i with | 1 => q7 | 2 => q16 | _ => q24) hx hb hr hlocks hP hD hS trivial dX7_init_62
set_option maxHeartbeats 8000000 in
set_option maxRecDepth 100000 in
theorem c_X9_init (l : Launch) (D : va_G) (T : Nat → ClassId) (o : Nat) (X : va_W) : zMc l yX9_init wsX9_init { frames := 1, cells := 1, slots := 20, locals := 12 } D T [.ref o] ((o, .inr (9, [.null, .int 0])) :: X) (fun f => (((f 1), .inl (T 0, 20, .inl (fun _ => 0))) :: (o, .inr (9, [.ref (f 1), .int 0])) :: X)) 1 20 := by
  intro A
  refine zBodyC (cc := cX9_init) (maxL := 1) (ret := none) (by decide) rfl (Nat.le_of_ble_eq_true rfl) ?_
  intro p e s m below meth c hx hb hml hown hts hr hlocks hnm9 hP hD hS hK hN hAs hA ls hl
  have hown : s.vm.findClass RX9 = some m.cls := hown
  have hnm9 : meth.name = "<init>" := hnm9
  have hl : lv_has ls 1 [(0, .ref o)] := hl
  have hin9 : ∀ w ∈ wsX90, w ∈ wsX9_init := (fun _ h => List.mem_cons_of_mem _ (List.mem_append_right _ (h)))
  have wO1 := hts (.methodLink RX9 3 objectInit) (z_mem 1 rfl)
  have wO2 := hts (.instanceMethod objectInit) (z_mem 2 rfl)
  have wO3 := hts (.code objectInit ⟨#[0xb1]⟩ 1 none) (z_mem 3 rfl)
  have wA0 := hts (.arrayClass .int) (z_mem 4 rfl)
  have wF9 := hts (.fieldLink RX9 9 "WhoSitsBy$Trace" "bodies" "[I") (z_mem 5 rfl)
  refine lv_aload_n hx hb dX9_init_0 rfl (lv_at hl 0 rfl) ?_
  refine W.objInit hx hb hown wO1 wO2 wO3 rfl (by rw [hml]; exact hl.1) rfl dX9_init_1 (Nat.le_of_ble_eq_true rfl) (Nat.le_of_ble_eq_true rfl) ?_
  refine W.eq (g2 := F0 m 4 ls []) rfl ?_
  refine lv_aload_n hx hb dX9_init_4 rfl (lv_at hl 0 rfl) ?_
  refine lv_bipush (v := (nI 20)) hx hb dX9_init_5 rfl ?_
  refine zc_newa (atype := .int) (ty := .int) (N' := 20) (a0 := (20, .inl (fun _ => 0))) hx hb wA0 rfl hK 0 rfl (fun _ h => h) hP hD hS hA (fun _ => rfl) (by decide) (by decide) (by decide) (Nat.le_of_ble_eq_true rfl) (Nat.le_of_ble_eq_true rfl) dX9_init_7 (fun q7 H hP hD hS => ?_)
  refine zc_put (C := RX9) (TT := TX9) (N := 2) (ci := 9) (ty := .array .int) hx hb hts hin9 tyX9 tyX9_ok nmX9 hown hK hP hD hS 1 rfl rfl 0 (by decide) wF9 (fun _ h9 => h9) (Or.inr ⟨rfl, hnm9, rfl⟩) (by decide +kernel) rfl rfl (Nat.le_of_ble_eq_true rfl) (ws2 := ((q7, .inl (T 0, 20, .inl (fun _ => 0))) :: (o, .inr (9, [.ref q7, .int 0])) :: X)) rfl dX9_init_9 (fun H locs hP hD hS => ?_)
  exact zc_ret (B := fun f => (((f 1), .inl (T 0, 20, .inl (fun _ => 0))) :: (o, .inr (9, [.ref (f 1), .int 0])) :: X)) (fun i => match i with | _ => q7) hx hb hr hlocks hP hD hS trivial dX9_init_12
