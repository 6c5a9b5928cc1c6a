set_option maxHeartbeats 1000000 in
set_option maxRecDepth 100000 in
theorem c_X5_keep (l : Launch) {G : zG} (hG : zOK G) (x : zX) (b C K : Nat) (w a : Int32) (hb0 : zRm b) (hC : x.1 b 4 = nI C) (hC9 : C ≤ 10) (hcK : x.1 b 5 = nI K) (hcK9 : K ≤ 100) : zMv l yX5_keep wsX5_keep { frames := 0, cells := 0, slots := 0, locals := 0 } G [.ref (za G b), .int w, .int a] x (fun (u : zX) => (if C < 10 then zke1 (zke0 x b w a) b C K w a else zke0 x b w a) = u) := by
  intro A
  refine zBody (cc := cX5_keep) (maxL := 3) (ret := none) (by decide) rfl (Nat.le_of_ble_eq_true rfl) ?_
  intro p e s m below meth c hx hb hml hown hts hr hlocks hK hN hI ls hl
  have hown : s.vm.findClass RX5 = some m.cls := hown
  have hl : lv_has ls 3 [(0, .ref (za G b)), (1, .int w), (2, .int a)] := hl
  have hin5 : ∀ w ∈ wsX50, w ∈ wsX5_keep := (fun _ h => List.mem_cons_of_mem _ (List.mem_append_right _ (h)))
  have wF56 := hts (.fieldLink RX5 56 "WhoSitsBy$Room" "clauseCount" "I") (z_mem 2 rfl)
  have wF11 := hts (.fieldLink RX5 11 "WhoSitsBy$Room" "words" "[I") (z_mem 3 rfl)
  have wF15 := hts (.fieldLink RX5 15 "WhoSitsBy$Room" "amounts" "[I") (z_mem 4 rfl)
  have wF18 := hts (.fieldLink RX5 18 "WhoSitsBy$Room" "ends" "[I") (z_mem 5 rfl)
  have wF59 := hts (.fieldLink RX5 59 "WhoSitsBy$Room" "codeCount" "I") (z_mem 6 rfl)
  have wF24 := hts (.fieldLink RX5 24 "WhoSitsBy$Room" "hushing" "I") (z_mem 1 rfl)
  refine lv_iload_n hx hb dX5_keep_0 rfl (lv_at hl 1 rfl) ?_
  refine lv_iconst (v := (nI 3)) hx hb dX5_keep_1 rfl ?_
  refine lv_icmp_ne (tgt := 10) hx hb dX5_keep_2 (by decide) (fun c_2 => ?_) (fun c_2 => ?_)
  · skip
    refine lv_aload_n hx hb dX5_keep_10 rfl (lv_at hl 0 rfl) ?_
    refine z_get (C := RX5) (T := TX5) (N := 11) (ci := 5) (v := .int (nI C)) hx hb hts hin5 hown hK hI (zor hG hb0) rfl 4 (by decide) wF56 (fun _ h9 => h9) (congrArg (fun q => some (Value.int q)) hC) dX5_keep_11 ?_
    refine lv_if_lt (tgt := 26) hx hb dX5_keep_14 (by decide) (fun c_14 => ?_) (fun c_14 => ?_)
    · skip
      rw [show (0 : Int32) = nI 0 from rfl] at c_14; rw [zqL (by omega) (by omega)] at c_14
      exact absurd c_14 (by omega)
    · skip
      rw [show (0 : Int32) = nI 0 from rfl] at c_14; rw [zqL (by omega) (by omega)] at c_14
      refine lv_aload_n hx hb dX5_keep_17 rfl (lv_at hl 0 rfl) ?_
      refine z_get (C := RX5) (T := TX5) (N := 11) (ci := 5) (v := .int (nI C)) hx hb hts hin5 hown hK hI (zor hG hb0) rfl 4 (by decide) wF56 (fun _ h9 => h9) (congrArg (fun q => some (Value.int q)) hC) dX5_keep_18 ?_
      refine lv_bipush (v := (nI 10)) hx hb dX5_keep_21 rfl ?_
      refine lv_icmp_lt (tgt := 27) hx hb dX5_keep_23 (by decide) (fun c_23 => ?_) (fun c_23 => ?_)
      · skip
        rw [zqL (by omega) (by omega)] at c_23
        refine lv_aload_n hx hb dX5_keep_27 rfl (lv_at hl 0 rfl) ?_
        refine z_get (C := RX5) (T := TX5) (N := 11) (ci := 5) (v := .ref (za G (b + 1))) hx hb hts hin5 hown hK hI (zor hG hb0) rfl 0 (by decide) wF11 (fun _ h9 => h9) rfl dX5_keep_28 ?_
        refine lv_aload_n hx hb dX5_keep_31 rfl (lv_at hl 0 rfl) ?_
        refine z_get (C := RX5) (T := TX5) (N := 11) (ci := 5) (v := .int (nI C)) hx hb hts hin5 hown hK hI (zor hG hb0) rfl 4 (by decide) wF56 (fun _ h9 => h9) (congrArg (fun q => some (Value.int q)) hC) dX5_keep_32 ?_
        refine lv_iload_n hx hb dX5_keep_35 rfl (lv_at hl 1 rfl) ?_
        refine z_iast (y := w) hx hb hK hI (zor1 hG hb0) C rfl (by omega) (by decide) dX5_keep_36 (fun H locs hI => ?_)
        refine lv_aload_n hx hb dX5_keep_37 rfl (lv_at hl 0 rfl) ?_
        refine z_get (C := RX5) (T := TX5) (N := 11) (ci := 5) (v := .ref (za G (b + 2))) hx hb hts hin5 hown hK hI (zor hG hb0) rfl 1 (by decide) wF15 (fun _ h9 => h9) rfl dX5_keep_38 ?_
        refine lv_aload_n hx hb dX5_keep_41 rfl (lv_at hl 0 rfl) ?_
        refine z_get (C := RX5) (T := TX5) (N := 11) (ci := 5) (v := .int (nI C)) hx hb hts hin5 hown hK hI (zor hG hb0) rfl 4 (by decide) wF56 (fun _ h9 => h9) (congrArg (fun q => some (Value.int q)) (by rw [zsI_n (show b ≠ b + 1 by omega)]; exact hC)) dX5_keep_42 ?_
        refine lv_iload_n hx hb dX5_keep_45 rfl (lv_at hl 2 rfl) ?_
        refine z_iast (y := a) hx hb hK hI (zor2 hG hb0) C rfl (by omega) (by decide) dX5_keep_46 (fun H locs hI => ?_)
        refine lv_aload_n hx hb dX5_keep_47 rfl (lv_at hl 0 rfl) ?_
        refine z_get (C := RX5) (T := TX5) (N := 11) (ci := 5) (v := .ref (za G (b + 3))) hx hb hts hin5 hown hK hI (zor hG hb0) rfl 2 (by decide) wF18 (fun _ h9 => h9) rfl dX5_keep_48 ?_
        refine lv_aload_n hx hb dX5_keep_51 rfl (lv_at hl 0 rfl) ?_
        refine z_get (C := RX5) (T := TX5) (N := 11) (ci := 5) (v := .int (nI C)) hx hb hts hin5 hown hK hI (zor hG hb0) rfl 4 (by decide) wF56 (fun _ h9 => h9) (congrArg (fun q => some (Value.int q)) (by rw [zsI_n (show b ≠ b + 2 by omega), zsI_n (show b ≠ b + 1 by omega)]; exact hC)) dX5_keep_52 ?_
        refine lv_aload_n hx hb dX5_keep_55 rfl (lv_at hl 0 rfl) ?_
        refine z_get (C := RX5) (T := TX5) (N := 11) (ci := 5) (v := .int (nI K)) hx hb hts hin5 hown hK hI (zor hG hb0) rfl 5 (by decide) wF59 (fun _ h9 => h9) (congrArg (fun q => some (Value.int q)) (by rw [zsI_n (show b ≠ b + 2 by omega), zsI_n (show b ≠ b + 1 by omega)]; exact hcK)) dX5_keep_56 ?_
        refine z_iast (y := (nI K)) hx hb hK hI (zor3 hG hb0) C rfl (by omega) (by decide) dX5_keep_59 (fun H locs hI => ?_)
        refine lv_aload_n hx hb dX5_keep_60 rfl (lv_at hl 0 rfl) ?_
        refine lv_dup hx hb dX5_keep_61 rfl ?_
        refine z_get (C := RX5) (T := TX5) (N := 11) (ci := 5) (v := .int (nI C)) hx hb hts hin5 hown hK hI (zor hG hb0) rfl 4 (by decide) wF56 (fun _ h9 => h9) (congrArg (fun q => some (Value.int q)) (by rw [zsI_n (show b ≠ b + 3 by omega), zsI_n (show b ≠ b + 2 by omega), zsI_n (show b ≠ b + 1 by omega)]; exact hC)) dX5_keep_62 ?_
        refine lv_iconst (v := (nI 1)) hx hb dX5_keep_65 rfl ?_
        refine z_iadd (v := (nI (C + 1))) hx hb (nI_add _ _) dX5_keep_66 ?_
        refine z_putI (C := RX5) (T := TX5) (N := 11) (ci := 5) (ty := .int) hx hb hts hin5 tyX5 tyX5_ok nmX5 hown hK hI (zor hG hb0) rfl 4 (by decide) wF56 (fun _ h9 => h9) rfl (fun _ _ => rfl) (by decide +kernel) rfl rfl (fun _ _ => Nat.le_of_ble_eq_true rfl) dX5_keep_67 (fun H locs hI => ?_)
        exact z_vret hx hb hr hlocks hI ((if_pos (by omega)).trans (by unfold zke0; rw [if_neg c_2]; rfl)) dX5_keep_70
      · skip
        rw [zqL (by omega) (by omega)] at c_23
        exact z_vret hx hb hr hlocks hI ((if_neg (by omega)).trans (if_neg c_2)) dX5_keep_26
  · skip
    refine lv_aload_n hx hb dX5_keep_5 rfl (lv_at hl 0 rfl) ?_
    refine lv_iload_n hx hb dX5_keep_6 rfl (lv_at hl 2 rfl) ?_
    refine z_putI (C := RX5) (T := TX5) (N := 11) (ci := 5) (ty := .int) hx hb hts hin5 tyX5 tyX5_ok nmX5 hown hK hI (zor hG hb0) rfl 6 (by decide) wF24 (fun _ h9 => h9) rfl (fun _ _ => rfl) (by decide +kernel) rfl rfl (fun _ _ => Nat.le_of_ble_eq_true rfl) dX5_keep_7 (fun H locs hI => ?_)
    refine lv_aload_n hx hb dX5_keep_10 rfl (lv_at hl 0 rfl) ?_
    refine z_get (C := RX5) (T := TX5) (N := 11) (ci := 5) (v := .int (nI C)) hx hb hts hin5 hown hK hI (zor hG hb0) rfl 4 (by decide) wF56 (fun _ h9 => h9) (congrArg (fun q => some (Value.int q)) (by rw [zsI_u]; exact hC)) dX5_keep_11 ?_
    refine lv_if_lt (tgt := 26) hx hb dX5_keep_14 (by decide) (fun c_14 => ?_) (fun c_14 => ?_)
    · skip
      rw [show (0 : Int32) = nI 0 from rfl] at c_14; rw [zqL (by omega) (by omega)] at c_14
      exact absurd c_14 (by omega)
    · skip
      rw [show (0 : Int32) = nI 0 from rfl] at c_14; rw [zqL (by omega) (by omega)] at c_14
      refine lv_aload_n hx hb dX5_keep_17 rfl (lv_at hl 0 rfl) ?_
      refine z_get (C := RX5) (T := TX5) (N := 11) (ci := 5) (v := .int (nI C)) hx hb hts hin5 hown hK hI (zor hG hb0) rfl 4 (by decide) wF56 (fun _ h9 => h9) (congrArg (fun q => some (Value.int q)) (by rw [zsI_u]; exact hC)) dX5_keep_18 ?_
      refine lv_bipush (v := (nI 10)) hx hb dX5_keep_21 rfl ?_
      refine lv_icmp_lt (tgt := 27) hx hb dX5_keep_23 (by decide) (fun c_23 => ?_) (fun c_23 => ?_)
      · skip
        rw [zqL (by omega) (by omega)] at c_23
        refine lv_aload_n hx hb dX5_keep_27 rfl (lv_at hl 0 rfl) ?_
        refine z_get (C := RX5) (T := TX5) (N := 11) (ci := 5) (v := .ref (za G (b + 1))) hx hb hts hin5 hown hK hI (zor hG hb0) rfl 0 (by decide) wF11 (fun _ h9 => h9) rfl dX5_keep_28 ?_
        refine lv_aload_n hx hb dX5_keep_31 rfl (lv_at hl 0 rfl) ?_
        refine z_get (C := RX5) (T := TX5) (N := 11) (ci := 5) (v := .int (nI C)) hx hb hts hin5 hown hK hI (zor hG hb0) rfl 4 (by decide) wF56 (fun _ h9 => h9) (congrArg (fun q => some (Value.int q)) (by rw [zsI_u]; exact hC)) dX5_keep_32 ?_
        refine lv_iload_n hx hb dX5_keep_35 rfl (lv_at hl 1 rfl) ?_
        refine z_iast (y := w) hx hb hK hI (zor1 hG hb0) C rfl (by omega) (by decide) dX5_keep_36 (fun H locs hI => ?_)
        refine lv_aload_n hx hb dX5_keep_37 rfl (lv_at hl 0 rfl) ?_
        refine z_get (C := RX5) (T := TX5) (N := 11) (ci := 5) (v := .ref (za G (b + 2))) hx hb hts hin5 hown hK hI (zor hG hb0) rfl 1 (by decide) wF15 (fun _ h9 => h9) rfl dX5_keep_38 ?_
        refine lv_aload_n hx hb dX5_keep_41 rfl (lv_at hl 0 rfl) ?_
        refine z_get (C := RX5) (T := TX5) (N := 11) (ci := 5) (v := .int (nI C)) hx hb hts hin5 hown hK hI (zor hG hb0) rfl 4 (by decide) wF56 (fun _ h9 => h9) (congrArg (fun q => some (Value.int q)) (by rw [zsI_n (show b ≠ b + 1 by omega), zsI_u]; exact hC)) dX5_keep_42 ?_
        refine lv_iload_n hx hb dX5_keep_45 rfl (lv_at hl 2 rfl) ?_
        refine z_iast (y := a) hx hb hK hI (zor2 hG hb0) C rfl (by omega) (by decide) dX5_keep_46 (fun H locs hI => ?_)
        refine lv_aload_n hx hb dX5_keep_47 rfl (lv_at hl 0 rfl) ?_
        refine z_get (C := RX5) (T := TX5) (N := 11) (ci := 5) (v := .ref (za G (b + 3))) hx hb hts hin5 hown hK hI (zor hG hb0) rfl 2 (by decide) wF18 (fun _ h9 => h9) rfl dX5_keep_48 ?_
        refine lv_aload_n hx hb dX5_keep_51 rfl (lv_at hl 0 rfl) ?_
        refine z_get (C := RX5) (T := TX5) (N := 11) (ci := 5) (v := .int (nI C)) hx hb hts hin5 hown hK hI (zor hG hb0) rfl 4 (by decide) wF56 (fun _ h9 => h9) (congrArg (fun q => some (Value.int q)) (by rw [zsI_n (show b ≠ b + 2 by omega), zsI_n (show b ≠ b + 1 by omega), zsI_u]; exact hC)) dX5_keep_52 ?_
        refine lv_aload_n hx hb dX5_keep_55 rfl (lv_at hl 0 rfl) ?_
        refine z_get (C := RX5) (T := TX5) (N := 11) (ci := 5) (v := .int (nI K)) hx hb hts hin5 hown hK hI (zor hG hb0) rfl 5 (by decide) wF59 (fun _ h9 => h9) (congrArg (fun q => some (Value.int q)) (by rw [zsI_n (show b ≠ b + 2 by omega), zsI_n (show b ≠ b + 1 by omega), zsI_u]; exact hcK)) dX5_keep_56 ?_
        refine z_iast (y := (nI K)) hx hb hK hI (zor3 hG hb0) C rfl (by omega) (by decide) dX5_keep_59 (fun H locs hI => ?_)
        refine lv_aload_n hx hb dX5_keep_60 rfl (lv_at hl 0 rfl) ?_
        refine lv_dup hx hb dX5_keep_61 rfl ?_
        refine z_get (C := RX5) (T := TX5) (N := 11) (ci := 5) (v := .int (nI C)) hx hb hts hin5 hown hK hI (zor hG hb0) rfl 4 (by decide) wF56 (fun _ h9 => h9) (congrArg (fun q => some (Value.int q)) (by rw [zsI_n (show b ≠ b + 3 by omega), zsI_n (show b ≠ b + 2 by omega), zsI_n (show b ≠ b + 1 by omega), zsI_u]; exact hC)) dX5_keep_62 ?_
        refine lv_iconst (v := (nI 1)) hx hb dX5_keep_65 rfl ?_
        refine z_iadd (v := (nI (C + 1))) hx hb (nI_add _ _) dX5_keep_66 ?_
        refine z_putI (C := RX5) (T := TX5) (N := 11) (ci := 5) (ty := .int) hx hb hts hin5 tyX5 tyX5_ok nmX5 hown hK hI (zor hG hb0) rfl 4 (by decide) wF56 (fun _ h9 => h9) rfl (fun _ _ => rfl) (by decide +kernel) rfl rfl (fun _ _ => Nat.le_of_ble_eq_true rfl) dX5_keep_67 (fun H locs hI => ?_)
        exact z_vret hx hb hr hlocks hI ((if_pos (by omega)).trans (by unfold zke0; rw [if_pos c_2]; rfl)) dX5_keep_70
      · skip
        rw [zqL (by omega) (by omega)] at c_23
        exact z_vret hx hb hr hlocks hI ((if_neg (by omega)).trans (if_pos c_2)) dX5_keep_26
