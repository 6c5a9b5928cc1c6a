set_option maxHeartbeats 1000000 in
set_option maxRecDepth 100000 in
theorem c_X12_body (l : Launch) {G : zG} (hG : zOK G) (x : zX) (b : Int32) (hrn : zRn x 100) : zMv l yX12_body wsX12_body { frames := 0, cells := 0, slots := 0, locals := 0 } G [.ref (za G 77), .int b] x (fun (u : zX) => zbeR b x = u) := by
  intro A
  refine zBody (cc := cX12_body) (maxL := 2) (ret := none) (by decide) rfl (Nat.le_of_ble_eq_true rfl) ?_
  intro p e s m below meth c hx hb hml hown hts hr hlocks hK hN hI ls hl
  have hown : s.vm.findClass RX12 = some m.cls := hown
  have hl : lv_has ls 2 [(0, .ref (za G 77)), (1, .int b)] := hl
  have hin12 : ∀ w ∈ wsX120, w ∈ wsX12_body := (fun _ h => List.mem_cons_of_mem _ (List.mem_append_right _ (h)))
  have wF148 := hts (.fieldLink RX12 148 "WhoSitsByModel" "ran" "I") (z_mem 1 rfl)
  have wF151 := hts (.fieldLink RX12 151 "WhoSitsByModel" "bodies" "[I") (z_mem 2 rfl)
  obtain ⟨n, hn9, hrn⟩ := hrn
  refine lv_aload_n hx hb dX12_body_0 rfl (lv_at hl 0 rfl) ?_
  refine z_get (C := RX12) (T := TX12) (N := 51) (ci := 12) (v := .int (nI n)) hx hb hts hin12 hown hK hI (zo77 hG) rfl 45 (by decide) wF148 (fun _ h9 => h9) (congrArg (fun q => some (Value.int q)) hrn) dX12_body_1 ?_
  refine lv_bipush (v := (nI 20)) hx hb dX12_body_4 rfl ?_
  refine lv_icmp_ge (tgt := 19) hx hb dX12_body_6 (by decide) (fun c_6 => ?_) (fun c_6 => ?_)
  · skip
    rw [zqG (by omega) (by omega)] at c_6
    refine lv_aload_n hx hb dX12_body_19 rfl (lv_at hl 0 rfl) ?_
    refine lv_dup hx hb dX12_body_20 rfl ?_
    refine z_get (C := RX12) (T := TX12) (N := 51) (ci := 12) (v := .int (nI n)) hx hb hts hin12 hown hK hI (zo77 hG) rfl 45 (by decide) wF148 (fun _ h9 => h9) (congrArg (fun q => some (Value.int q)) hrn) dX12_body_21 ?_
    refine lv_iconst (v := (nI 1)) hx hb dX12_body_24 rfl ?_
    refine z_iadd (v := (nI (n + 1))) hx hb (nI_add _ _) dX12_body_25 ?_
    refine z_putI (C := RX12) (T := TX12) (N := 51) (ci := 12) (ty := .int) hx hb hts hin12 tyX12 tyX12_ok nmX12 hown hK hI (zo77 hG) rfl 45 (by decide) wF148 (fun _ h9 => h9) rfl (fun _ _ => rfl) (by decide +kernel) rfl rfl (fun _ _ => Nat.le_of_ble_eq_true rfl) dX12_body_26 (fun H locs hI => ?_)
    exact z_vret hx hb hr hlocks hI ((by unfold zbeR; rw [hrn, if_neg (fun h => absurd ((zqL (by omega) (by omega)).mp h) (by omega)), nI_add])) dX12_body_29
  · skip
    rw [zqG (by omega) (by omega)] at c_6
    refine lv_aload_n hx hb dX12_body_9 rfl (lv_at hl 0 rfl) ?_
    refine z_get (C := RX12) (T := TX12) (N := 51) (ci := 12) (v := .ref (za G 107)) hx hb hts hin12 hown hK hI (zo77 hG) rfl 46 (by decide) wF151 (fun _ h9 => h9) rfl dX12_body_10 ?_
    refine lv_aload_n hx hb dX12_body_13 rfl (lv_at hl 0 rfl) ?_
    refine z_get (C := RX12) (T := TX12) (N := 51) (ci := 12) (v := .int (nI n)) hx hb hts hin12 hown hK hI (zo77 hG) rfl 45 (by decide) wF148 (fun _ h9 => h9) (congrArg (fun q => some (Value.int q)) hrn) dX12_body_14 ?_
    refine lv_iload_n hx hb dX12_body_17 rfl (lv_at hl 1 rfl) ?_
    refine z_iast (y := b) hx hb hK hI (zo107 hG) n rfl (by omega) (by decide) dX12_body_18 (fun H locs hI => ?_)
    refine lv_aload_n hx hb dX12_body_19 rfl (lv_at hl 0 rfl) ?_
    refine lv_dup hx hb dX12_body_20 rfl ?_
    refine z_get (C := RX12) (T := TX12) (N := 51) (ci := 12) (v := .int (nI n)) hx hb hts hin12 hown hK hI (zo77 hG) rfl 45 (by decide) wF148 (fun _ h9 => h9) (congrArg (fun q => some (Value.int q)) hrn) dX12_body_21 ?_
    refine lv_iconst (v := (nI 1)) hx hb dX12_body_24 rfl ?_
    refine z_iadd (v := (nI (n + 1))) hx hb (nI_add _ _) dX12_body_25 ?_
    refine z_putI (C := RX12) (T := TX12) (N := 51) (ci := 12) (ty := .int) hx hb hts hin12 tyX12 tyX12_ok nmX12 hown hK hI (zo77 hG) rfl 45 (by decide) wF148 (fun _ h9 => h9) rfl (fun _ _ => rfl) (by decide +kernel) rfl rfl (fun _ _ => Nat.le_of_ble_eq_true rfl) dX12_body_26 (fun H locs hI => ?_)
    exact z_vret hx hb hr hlocks hI ((by unfold zbeR; rw [hrn, if_pos ((zqL (by omega) (by omega)).mpr (by omega)), nI_clamp (by omega), nI_add])) dX12_body_29
set_option maxHeartbeats 1000000 in
set_option maxRecDepth 100000 in
theorem c_X12_pupilSits (l : Launch) {G : zG} (hG : zOK G) (x : zX) (k : Nat) (w : Int32) (hk8 : k < 8) (hrn : zRn x 90) : zMi l yX12_pupilSits wsX12_pupilSits { frames := 1, cells := 0, slots := 0, locals := 21 } G [.ref (za G 77), .int (nI k), .int w] x (fun (r : Int32) (u : zX) => zbgR [nI 10] x = u ∧ w + nI k = r) := by
  intro A
  refine zBody (cc := cX12_pupilSits) (maxL := 3) (ret := (some .int)) (by decide) rfl (Nat.le_of_ble_eq_true rfl) ?_
  intro p e s m below meth c hx hb hml hown hts hr hlocks hK hN hI ls hl
  have hown : s.vm.findClass RX12 = some m.cls := hown
  have hl : lv_has ls 3 [(0, .ref (za G 77)), (1, .int (nI k)), (2, .int w)] := hl
  refine lv_aload_n hx hb dX12_pupilSits_0 rfl (lv_at hl 0 rfl) ?_
  refine lv_bipush (v := (nI 10)) hx hb dX12_pupilSits_1 rfl ?_
  refine z_callv (va_runV (As := [.int (nI 10)]) (rest := []) ⟨hx, hb, hml, hown, hts⟩ ((c_X12_body l hG x (nI 10) (zRn_m hrn (by have h91 := zsR_L (x.1 78 k); have h92 := ztR_L (x.1 78 k); (try simp only [List.length_cons, List.length_nil, List.length_append]); omega))) A) (cwV 1 hts gX12_pupilSits_X12_body rfl rfl rfl (by decide +kernel) ⟨Nat.le_of_ble_eq_true rfl, Nat.le_of_ble_eq_true rfl⟩) (z_pV hI hK hN (z_recv hK hI (zo77 hG) rfl)) rfl rfl hl.1 rfl (lv_room (Nat.le_of_ble_eq_true rfl)) dX12_pupilSits_3 ⟨Nat.zero_le _, Nat.zero_le _⟩) hI (fun u H locs hw hI => ?_)
  obtain rfl := hw
  refine lv_iload_n hx hb dX12_pupilSits_6 rfl (lv_at hl 2 rfl) ?_
  refine lv_iload_n hx hb dX12_pupilSits_7 rfl (lv_at hl 1 rfl) ?_
  refine lv_iadd hx hb dX12_pupilSits_8 ?_
  exact z_iret hx hb hr hlocks hI (⟨rfl, rfl⟩) dX12_pupilSits_9
set_option maxHeartbeats 1000000 in
set_option maxRecDepth 100000 in
theorem c_X12_sitsAct (l : Launch) {G : zG} (hG : zOK G) (x : zX) (k : Nat) (w : Int32) (hk8 : k < 8) (hrn : zRn x 80) : zMi l yX12_sitsAct wsX12_sitsAct { frames := 2, cells := 0, slots := 0, locals := 43 } G [.ref (za G 77), .int (nI k), .int w] x (fun (r : Int32) (u : zX) => zbgR (zsR (x.1 78 k)) x = u ∧ zvR (x.1 78 k) (nI k) (x.1 79 k) w = r) := by
  intro A
  refine zBody (cc := cX12_sitsAct) (maxL := 3) (ret := (some .int)) (by decide) rfl (Nat.le_of_ble_eq_true rfl) ?_
  intro p e s m below meth c hx hb hml hown hts hr hlocks hK hN hI ls hl
  have hown : s.vm.findClass RX12 = some m.cls := hown
  have hl : lv_has ls 3 [(0, .ref (za G 77)), (1, .int (nI k)), (2, .int w)] := hl
  have hin12 : ∀ w ∈ wsX120, w ∈ wsX12_sitsAct := (fun _ h => List.mem_cons_of_mem _ (List.mem_append_right _ (h)))
  have wF16 := hts (.fieldLink RX12 16 "WhoSitsByModel" "kind" "[I") (z_mem 1 rfl)
  have wF20 := hts (.fieldLink RX12 20 "WhoSitsByModel" "v" "[I") (z_mem 2 rfl)
  refine lv_aload_n hx hb dX12_sitsAct_0 rfl (lv_at hl 0 rfl) ?_
  refine z_get (C := RX12) (T := TX12) (N := 51) (ci := 12) (v := .ref (za G 78)) hx hb hts hin12 hown hK hI (zo77 hG) rfl 2 (by decide) wF16 (fun _ h9 => h9) rfl dX12_sitsAct_1 ?_
  refine lv_iload_n hx hb dX12_sitsAct_4 rfl (lv_at hl 1 rfl) ?_
  refine z_iald (v := (x.1 78 k)) hx hb hK hI (zo78 hG) k rfl (by omega) (by decide) rfl dX12_sitsAct_5 ?_
  by_cases q6_2 : (x.1 78 k) = (nI 2)
  · skip
    refine lv_tableIn (off := 34) (tgt := 40) hx hb dX12_sitsAct_6 (by rw [q6_2]; decide) (by rw [q6_2]; decide) (by rw [q6_2]; rfl) (by decide) ?_
    refine lv_aload_n hx hb dX12_sitsAct_40 rfl (lv_at hl 0 rfl) ?_
    refine lv_bipush (v := (nI 30)) hx hb dX12_sitsAct_41 rfl ?_
    refine z_callv (va_runV (As := [.int (nI 30)]) (rest := []) ⟨hx, hb, hml, hown, hts⟩ ((c_X12_body l hG x (nI 30) (zRn_m hrn (by have h91 := zsR_L (x.1 78 k); have h92 := ztR_L (x.1 78 k); (try simp only [List.length_cons, List.length_nil, List.length_append]); omega))) A) (cwV 1 hts gX12_sitsAct_X12_body rfl rfl rfl (by decide +kernel) ⟨Nat.le_of_ble_eq_true rfl, Nat.le_of_ble_eq_true rfl⟩) (z_pV hI hK hN (z_recv hK hI (zo77 hG) rfl)) rfl rfl hl.1 rfl (lv_room (Nat.le_of_ble_eq_true rfl)) dX12_sitsAct_43 ⟨Nat.zero_le _, Nat.zero_le _⟩) hI (fun u H locs hw hI => ?_)
    obtain rfl := hw
    refine lv_aload_n hx hb dX12_sitsAct_46 rfl (lv_at hl 0 rfl) ?_
    refine lv_iload_n hx hb dX12_sitsAct_47 rfl (lv_at hl 1 rfl) ?_
    refine lv_iload_n hx hb dX12_sitsAct_48 rfl (lv_at hl 2 rfl) ?_
    refine lv_iconst (v := (nI 3)) hx hb dX12_sitsAct_49 rfl ?_
    refine lv_imul hx hb dX12_sitsAct_50 ?_
    refine z_calli (va_runV (As := [.int (nI k), .int (w * (nI 3))]) (rest := []) ⟨hx, hb, hml, hown, hts⟩ ((c_X12_pupilSits l hG (zbeR (nI 30) x) k (w * (nI 3)) hk8 (zRn_m (zRn_e _ hrn) (by have h91 := zsR_L (x.1 78 k); have h92 := ztR_L (x.1 78 k); (try simp only [List.length_cons, List.length_nil, List.length_append]); omega))) A) (cwV 2 hts gX12_sitsAct_X12_pupilSits rfl rfl rfl (by decide +kernel) ⟨Nat.le_of_ble_eq_true rfl, Nat.le_of_ble_eq_true rfl⟩) (z_pV hI hK hN (z_recv hK hI (zo77 hG) rfl)) rfl rfl hl.1 rfl (lv_room (Nat.le_of_ble_eq_true rfl)) dX12_sitsAct_51 ⟨Nat.zero_le _, Nat.zero_le _⟩) hI (fun r_51 u H locs hw hI => ?_)
    obtain ⟨rfl, hv_r_51⟩ := hw
    have hv2_r_51 : r_51 = (w * (nI 3)) + nI k := hv_r_51.symm.trans (by first | rfl | simp only [zbgR_n (show (78 : Nat) ≠ 77 by decide) (show (78 : Nat) ≠ 107 by decide), zbeR_n (show (78 : Nat) ≠ 77 by decide) (show (78 : Nat) ≠ 107 by decide), zbgR_n (show (79 : Nat) ≠ 77 by decide) (show (79 : Nat) ≠ 107 by decide), zbeR_n (show (79 : Nat) ≠ 77 by decide) (show (79 : Nat) ≠ 107 by decide)])
    subst hv2_r_51
    exact z_iret hx hb hr hlocks hI (⟨by unfold zsR; rw [if_pos q6_2]; try rfl, by unfold zvR; rw [if_pos q6_2]⟩) dX12_sitsAct_54
  by_cases q6_3 : (x.1 78 k) = (nI 3)
  · skip
    refine lv_tableIn (off := 83) (tgt := 89) hx hb dX12_sitsAct_6 (by rw [q6_3]; decide) (by rw [q6_3]; decide) (by rw [q6_3]; rfl) (by decide) ?_
    refine lv_aload_n hx hb dX12_sitsAct_89 rfl (lv_at hl 0 rfl) ?_
    refine lv_iload_n hx hb dX12_sitsAct_90 rfl (lv_at hl 1 rfl) ?_
    refine lv_iload_n hx hb dX12_sitsAct_91 rfl (lv_at hl 2 rfl) ?_
    refine z_calli (va_runV (As := [.int (nI k), .int w]) (rest := []) ⟨hx, hb, hml, hown, hts⟩ ((c_X12_pupilSits l hG x k w hk8 (zRn_m hrn (by have h91 := zsR_L (x.1 78 k); have h92 := ztR_L (x.1 78 k); (try simp only [List.length_cons, List.length_nil, List.length_append]); omega))) A) (cwV 2 hts gX12_sitsAct_X12_pupilSits rfl rfl rfl (by decide +kernel) ⟨Nat.le_of_ble_eq_true rfl, Nat.le_of_ble_eq_true rfl⟩) (z_pV hI hK hN (z_recv hK hI (zo77 hG) rfl)) rfl rfl hl.1 rfl (lv_room (Nat.le_of_ble_eq_true rfl)) dX12_sitsAct_92 ⟨Nat.zero_le _, Nat.zero_le _⟩) hI (fun r_92 u H locs hw hI => ?_)
    obtain ⟨rfl, hv_r_92⟩ := hw
    subst hv_r_92
    exact z_iret hx hb hr hlocks hI (⟨by unfold zsR; rw [if_neg (by rw [q6_3]; decide), if_neg (by rw [q6_3]; decide), if_neg (by rw [q6_3]; decide), if_neg (by rw [q6_3]; decide)]; try rfl, by unfold zvR; rw [if_neg (by rw [q6_3]; decide), if_neg (by rw [q6_3]; decide), if_neg (by rw [q6_3]; decide), if_neg (by rw [q6_3]; decide)]⟩) dX12_sitsAct_95
  by_cases q6_4 : (x.1 78 k) = (nI 4)
  · skip
    refine lv_tableIn (off := 49) (tgt := 55) hx hb dX12_sitsAct_6 (by rw [q6_4]; decide) (by rw [q6_4]; decide) (by rw [q6_4]; rfl) (by decide) ?_
    refine lv_aload_n hx hb dX12_sitsAct_55 rfl (lv_at hl 0 rfl) ?_
    refine lv_bipush (v := (nI 50)) hx hb dX12_sitsAct_56 rfl ?_
    refine z_callv (va_runV (As := [.int (nI 50)]) (rest := []) ⟨hx, hb, hml, hown, hts⟩ ((c_X12_body l hG x (nI 50) (zRn_m hrn (by have h91 := zsR_L (x.1 78 k); have h92 := ztR_L (x.1 78 k); (try simp only [List.length_cons, List.length_nil, List.length_append]); omega))) A) (cwV 1 hts gX12_sitsAct_X12_body rfl rfl rfl (by decide +kernel) ⟨Nat.le_of_ble_eq_true rfl, Nat.le_of_ble_eq_true rfl⟩) (z_pV hI hK hN (z_recv hK hI (zo77 hG) rfl)) rfl rfl hl.1 rfl (lv_room (Nat.le_of_ble_eq_true rfl)) dX12_sitsAct_58 ⟨Nat.zero_le _, Nat.zero_le _⟩) hI (fun u H locs hw hI => ?_)
    obtain rfl := hw
    refine lv_aload_n hx hb dX12_sitsAct_61 rfl (lv_at hl 0 rfl) ?_
    refine lv_iload_n hx hb dX12_sitsAct_62 rfl (lv_at hl 1 rfl) ?_
    refine lv_iload_n hx hb dX12_sitsAct_63 rfl (lv_at hl 2 rfl) ?_
    refine z_calli (va_runV (As := [.int (nI k), .int w]) (rest := []) ⟨hx, hb, hml, hown, hts⟩ ((c_X12_pupilSits l hG (zbeR (nI 50) x) k w hk8 (zRn_m (zRn_e _ hrn) (by have h91 := zsR_L (x.1 78 k); have h92 := ztR_L (x.1 78 k); (try simp only [List.length_cons, List.length_nil, List.length_append]); omega))) A) (cwV 2 hts gX12_sitsAct_X12_pupilSits rfl rfl rfl (by decide +kernel) ⟨Nat.le_of_ble_eq_true rfl, Nat.le_of_ble_eq_true rfl⟩) (z_pV hI hK hN (z_recv hK hI (zo77 hG) rfl)) rfl rfl hl.1 rfl (lv_room (Nat.le_of_ble_eq_true rfl)) dX12_sitsAct_64 ⟨Nat.zero_le _, Nat.zero_le _⟩) hI (fun r_64 u H locs hw hI => ?_)
    obtain ⟨rfl, hv_r_64⟩ := hw
    have hv2_r_64 : r_64 = w + nI k := hv_r_64.symm.trans (by first | rfl | simp only [zbgR_n (show (78 : Nat) ≠ 77 by decide) (show (78 : Nat) ≠ 107 by decide), zbeR_n (show (78 : Nat) ≠ 77 by decide) (show (78 : Nat) ≠ 107 by decide), zbgR_n (show (79 : Nat) ≠ 77 by decide) (show (79 : Nat) ≠ 107 by decide), zbeR_n (show (79 : Nat) ≠ 77 by decide) (show (79 : Nat) ≠ 107 by decide)])
    subst hv2_r_64
    refine lv_ineg hx hb dX12_sitsAct_67 ?_
    exact z_iret hx hb hr hlocks hI (⟨by unfold zsR; rw [if_neg (by rw [q6_4]; decide), if_neg (by rw [q6_4]; decide), if_pos q6_4]; try rfl, by unfold zvR; rw [if_neg (by rw [q6_4]; decide), if_neg (by rw [q6_4]; decide), if_pos q6_4]⟩) dX12_sitsAct_68
  by_cases q6_5 : (x.1 78 k) = (nI 5)
  · skip
    refine lv_tableIn (off := 34) (tgt := 40) hx hb dX12_sitsAct_6 (by rw [q6_5]; decide) (by rw [q6_5]; decide) (by rw [q6_5]; rfl) (by decide) ?_
    refine lv_aload_n hx hb dX12_sitsAct_40 rfl (lv_at hl 0 rfl) ?_
    refine lv_bipush (v := (nI 30)) hx hb dX12_sitsAct_41 rfl ?_
    refine z_callv (va_runV (As := [.int (nI 30)]) (rest := []) ⟨hx, hb, hml, hown, hts⟩ ((c_X12_body l hG x (nI 30) (zRn_m hrn (by have h91 := zsR_L (x.1 78 k); have h92 := ztR_L (x.1 78 k); (try simp only [List.length_cons, List.length_nil, List.length_append]); omega))) A) (cwV 1 hts gX12_sitsAct_X12_body rfl rfl rfl (by decide +kernel) ⟨Nat.le_of_ble_eq_true rfl, Nat.le_of_ble_eq_true rfl⟩) (z_pV hI hK hN (z_recv hK hI (zo77 hG) rfl)) rfl rfl hl.1 rfl (lv_room (Nat.le_of_ble_eq_true rfl)) dX12_sitsAct_43 ⟨Nat.zero_le _, Nat.zero_le _⟩) hI (fun u H locs hw hI => ?_)
    obtain rfl := hw
    refine lv_aload_n hx hb dX12_sitsAct_46 rfl (lv_at hl 0 rfl) ?_
    refine lv_iload_n hx hb dX12_sitsAct_47 rfl (lv_at hl 1 rfl) ?_
    refine lv_iload_n hx hb dX12_sitsAct_48 rfl (lv_at hl 2 rfl) ?_
    refine lv_iconst (v := (nI 3)) hx hb dX12_sitsAct_49 rfl ?_
    refine lv_imul hx hb dX12_sitsAct_50 ?_
    refine z_calli (va_runV (As := [.int (nI k), .int (w * (nI 3))]) (rest := []) ⟨hx, hb, hml, hown, hts⟩ ((c_X12_pupilSits l hG (zbeR (nI 30) x) k (w * (nI 3)) hk8 (zRn_m (zRn_e _ hrn) (by have h91 := zsR_L (x.1 78 k); have h92 := ztR_L (x.1 78 k); (try simp only [List.length_cons, List.length_nil, List.length_append]); omega))) A) (cwV 2 hts gX12_sitsAct_X12_pupilSits rfl rfl rfl (by decide +kernel) ⟨Nat.le_of_ble_eq_true rfl, Nat.le_of_ble_eq_true rfl⟩) (z_pV hI hK hN (z_recv hK hI (zo77 hG) rfl)) rfl rfl hl.1 rfl (lv_room (Nat.le_of_ble_eq_true rfl)) dX12_sitsAct_51 ⟨Nat.zero_le _, Nat.zero_le _⟩) hI (fun r_51 u H locs hw hI => ?_)
    obtain ⟨rfl, hv_r_51⟩ := hw
    have hv2_r_51 : r_51 = (w * (nI 3)) + nI k := hv_r_51.symm.trans (by first | rfl | simp only [zbgR_n (show (78 : Nat) ≠ 77 by decide) (show (78 : Nat) ≠ 107 by decide), zbeR_n (show (78 : Nat) ≠ 77 by decide) (show (78 : Nat) ≠ 107 by decide), zbgR_n (show (79 : Nat) ≠ 77 by decide) (show (79 : Nat) ≠ 107 by decide), zbeR_n (show (79 : Nat) ≠ 77 by decide) (show (79 : Nat) ≠ 107 by decide)])
    subst hv2_r_51
    exact z_iret hx hb hr hlocks hI (⟨by unfold zsR; rw [if_neg (by rw [q6_5]; decide), if_pos q6_5]; try rfl, by unfold zvR; rw [if_neg (by rw [q6_5]; decide), if_pos q6_5]⟩) dX12_sitsAct_54
  by_cases q6_6 : (x.1 78 k) = (nI 6)
  · skip
    refine lv_tableIn (off := 63) (tgt := 69) hx hb dX12_sitsAct_6 (by rw [q6_6]; decide) (by rw [q6_6]; decide) (by rw [q6_6]; rfl) (by decide) ?_
    refine lv_aload_n hx hb dX12_sitsAct_69 rfl (lv_at hl 0 rfl) ?_
    refine lv_bipush (v := (nI 71)) hx hb dX12_sitsAct_70 rfl ?_
    refine z_callv (va_runV (As := [.int (nI 71)]) (rest := []) ⟨hx, hb, hml, hown, hts⟩ ((c_X12_body l hG x (nI 71) (zRn_m hrn (by have h91 := zsR_L (x.1 78 k); have h92 := ztR_L (x.1 78 k); (try simp only [List.length_cons, List.length_nil, List.length_append]); omega))) A) (cwV 1 hts gX12_sitsAct_X12_body rfl rfl rfl (by decide +kernel) ⟨Nat.le_of_ble_eq_true rfl, Nat.le_of_ble_eq_true rfl⟩) (z_pV hI hK hN (z_recv hK hI (zo77 hG) rfl)) rfl rfl hl.1 rfl (lv_room (Nat.le_of_ble_eq_true rfl)) dX12_sitsAct_72 ⟨Nat.zero_le _, Nat.zero_le _⟩) hI (fun u H locs hw hI => ?_)
    obtain rfl := hw
    refine lv_aload_n hx hb dX12_sitsAct_75 rfl (lv_at hl 0 rfl) ?_
    refine lv_iload_n hx hb dX12_sitsAct_76 rfl (lv_at hl 1 rfl) ?_
    refine lv_iload_n hx hb dX12_sitsAct_77 rfl (lv_at hl 2 rfl) ?_
    refine z_calli (va_runV (As := [.int (nI k), .int w]) (rest := []) ⟨hx, hb, hml, hown, hts⟩ ((c_X12_pupilSits l hG (zbeR (nI 71) x) k w hk8 (zRn_m (zRn_e _ hrn) (by have h91 := zsR_L (x.1 78 k); have h92 := ztR_L (x.1 78 k); (try simp only [List.length_cons, List.length_nil, List.length_append]); omega))) A) (cwV 2 hts gX12_sitsAct_X12_pupilSits rfl rfl rfl (by decide +kernel) ⟨Nat.le_of_ble_eq_true rfl, Nat.le_of_ble_eq_true rfl⟩) (z_pV hI hK hN (z_recv hK hI (zo77 hG) rfl)) rfl rfl hl.1 rfl (lv_room (Nat.le_of_ble_eq_true rfl)) dX12_sitsAct_78 ⟨Nat.zero_le _, Nat.zero_le _⟩) hI (fun r_78 u H locs hw hI => ?_)
    obtain ⟨rfl, hv_r_78⟩ := hw
    have hv2_r_78 : r_78 = w + nI k := hv_r_78.symm.trans (by first | rfl | simp only [zbgR_n (show (78 : Nat) ≠ 77 by decide) (show (78 : Nat) ≠ 107 by decide), zbeR_n (show (78 : Nat) ≠ 77 by decide) (show (78 : Nat) ≠ 107 by decide), zbgR_n (show (79 : Nat) ≠ 77 by decide) (show (79 : Nat) ≠ 107 by decide), zbeR_n (show (79 : Nat) ≠ 77 by decide) (show (79 : Nat) ≠ 107 by decide)])
    subst hv2_r_78
    refine lv_aload_n hx hb dX12_sitsAct_81 rfl (lv_at hl 0 rfl) ?_
    refine z_get (C := RX12) (T := TX12) (N := 51) (ci := 12) (v := .ref (za G 79)) hx hb hts hin12 hown hK hI (zo77 hG) rfl 3 (by decide) wF20 (fun _ h9 => h9) rfl dX12_sitsAct_82 ?_
    refine lv_iload_n hx hb dX12_sitsAct_85 rfl (lv_at hl 1 rfl) ?_
    refine z_iald (v := (x.1 79 k)) hx hb hK hI (zo79 hG) k rfl (by omega) (by decide) (by simp only [zbgR_n (show (78 : Nat) ≠ 77 by decide) (show (78 : Nat) ≠ 107 by decide), zbeR_n (show (78 : Nat) ≠ 77 by decide) (show (78 : Nat) ≠ 107 by decide), zbgR_n (show (79 : Nat) ≠ 77 by decide) (show (79 : Nat) ≠ 107 by decide), zbeR_n (show (79 : Nat) ≠ 77 by decide) (show (79 : Nat) ≠ 107 by decide)]) dX12_sitsAct_86 ?_
    refine lv_ixor hx hb dX12_sitsAct_87 ?_
    exact z_iret hx hb hr hlocks hI (⟨by unfold zsR; rw [if_neg (by rw [q6_6]; decide), if_neg (by rw [q6_6]; decide), if_neg (by rw [q6_6]; decide), if_pos q6_6]; try rfl, by unfold zvR; rw [if_neg (by rw [q6_6]; decide), if_neg (by rw [q6_6]; decide), if_neg (by rw [q6_6]; decide), if_pos q6_6]⟩) dX12_sitsAct_88
  refine lv_tableOut (tgt := 89) hx hb dX12_sitsAct_6 (by have := lv_neT (a := 2) q6_2 rfl; have := lv_neT (a := 3) q6_3 rfl; have := lv_neT (a := 4) q6_4 rfl; have := lv_neT (a := 5) q6_5 rfl; have := lv_neT (a := 6) q6_6 rfl; omega) (by decide) ?_
  refine lv_aload_n hx hb dX12_sitsAct_89 rfl (lv_at hl 0 rfl) ?_
  refine lv_iload_n hx hb dX12_sitsAct_90 rfl (lv_at hl 1 rfl) ?_
  refine lv_iload_n hx hb dX12_sitsAct_91 rfl (lv_at hl 2 rfl) ?_
  refine z_calli (va_runV (As := [.int (nI k), .int w]) (rest := []) ⟨hx, hb, hml, hown, hts⟩ ((c_X12_pupilSits l hG x k w hk8 (zRn_m hrn (by have h91 := zsR_L (x.1 78 k); have h92 := ztR_L (x.1 78 k); (try simp only [List.length_cons, List.length_nil, List.length_append]); omega))) A) (cwV 2 hts gX12_sitsAct_X12_pupilSits rfl rfl rfl (by decide +kernel) ⟨Nat.le_of_ble_eq_true rfl, Nat.le_of_ble_eq_true rfl⟩) (z_pV hI hK hN (z_recv hK hI (zo77 hG) rfl)) rfl rfl hl.1 rfl (lv_room (Nat.le_of_ble_eq_true rfl)) dX12_sitsAct_92 ⟨Nat.zero_le _, Nat.zero_le _⟩) hI (fun r_92 u H locs hw hI => ?_)
  obtain ⟨rfl, hv_r_92⟩ := hw
  subst hv_r_92
  exact z_iret hx hb hr hlocks hI (⟨by unfold zsR; rw [if_neg q6_2, if_neg q6_5, if_neg q6_4, if_neg q6_6]; try rfl, by unfold zvR; rw [if_neg q6_2, if_neg q6_5, if_neg q6_4, if_neg q6_6]⟩) dX12_sitsAct_95
set_option maxHeartbeats 1000000 in
set_option maxRecDepth 100000 in
theorem c_X12_pupilTalks (l : Launch) {G : zG} (hG : zOK G) (x : zX) (k : Nat) (w : Int32) (hk8 : k < 8) (hrn : zRn x 70) : zMi l yX12_pupilTalks wsX12_pupilTalks { frames := 3, cells := 0, slots := 0, locals := 65 } G [.ref (za G 77), .int (nI k), .int w] x (fun (r : Int32) (u : zX) => zbgR (nI 11 :: zsR (x.1 78 k)) x = u ∧ zvR (x.1 78 k) (nI k) (x.1 79 k) w - x.1 79 k = r) := by
  intro A
  refine zBody (cc := cX12_pupilTalks) (maxL := 3) (ret := (some .int)) (by decide) rfl (Nat.le_of_ble_eq_true rfl) ?_
  intro p e s m below meth c hx hb hml hown hts hr hlocks hK hN hI ls hl
  have hown : s.vm.findClass RX12 = some m.cls := hown
  have hl : lv_has ls 3 [(0, .ref (za G 77)), (1, .int (nI k)), (2, .int w)] := hl
  have hin12 : ∀ w ∈ wsX120, w ∈ wsX12_pupilTalks := (fun _ h => List.mem_cons_of_mem _ (List.mem_append_right _ (h)))
  have wF20 := hts (.fieldLink RX12 20 "WhoSitsByModel" "v" "[I") (z_mem 1 rfl)
  refine lv_aload_n hx hb dX12_pupilTalks_0 rfl (lv_at hl 0 rfl) ?_
  refine lv_bipush (v := (nI 11)) hx hb dX12_pupilTalks_1 rfl ?_
  refine z_callv (va_runV (As := [.int (nI 11)]) (rest := []) ⟨hx, hb, hml, hown, hts⟩ ((c_X12_body l hG x (nI 11) (zRn_m hrn (by have h91 := zsR_L (x.1 78 k); have h92 := ztR_L (x.1 78 k); (try simp only [List.length_cons, List.length_nil, List.length_append]); omega))) A) (cwV 1 hts gX12_pupilTalks_X12_body rfl rfl rfl (by decide +kernel) ⟨Nat.le_of_ble_eq_true rfl, Nat.le_of_ble_eq_true rfl⟩) (z_pV hI hK hN (z_recv hK hI (zo77 hG) rfl)) rfl rfl hl.1 rfl (lv_room (Nat.le_of_ble_eq_true rfl)) dX12_pupilTalks_3 ⟨Nat.zero_le _, Nat.zero_le _⟩) hI (fun u H locs hw hI => ?_)
  obtain rfl := hw
  refine lv_aload_n hx hb dX12_pupilTalks_6 rfl (lv_at hl 0 rfl) ?_
  refine lv_iload_n hx hb dX12_pupilTalks_7 rfl (lv_at hl 1 rfl) ?_
  refine lv_iload_n hx hb dX12_pupilTalks_8 rfl (lv_at hl 2 rfl) ?_
  refine z_calli (va_runV (As := [.int (nI k), .int w]) (rest := []) ⟨hx, hb, hml, hown, hts⟩ ((c_X12_sitsAct l hG (zbeR (nI 11) x) k w hk8 (zRn_m (zRn_e _ hrn) (by have h91 := zsR_L (x.1 78 k); have h92 := ztR_L (x.1 78 k); (try simp only [List.length_cons, List.length_nil, List.length_append]); omega))) A) (cwV 2 hts gX12_pupilTalks_X12_sitsAct rfl rfl rfl (by decide +kernel) ⟨Nat.le_of_ble_eq_true rfl, Nat.le_of_ble_eq_true rfl⟩) (z_pV hI hK hN (z_recv hK hI (zo77 hG) rfl)) rfl rfl hl.1 rfl (lv_room (Nat.le_of_ble_eq_true rfl)) dX12_pupilTalks_9 ⟨Nat.zero_le _, Nat.zero_le _⟩) hI (fun r_9 u H locs hw hI => ?_)
  obtain ⟨rfl, hv_r_9⟩ := hw
  have hv2_r_9 : r_9 = zvR (x.1 78 k) (nI k) (x.1 79 k) w := hv_r_9.symm.trans (by first | rfl | simp only [zbgR_n (show (78 : Nat) ≠ 77 by decide) (show (78 : Nat) ≠ 107 by decide), zbeR_n (show (78 : Nat) ≠ 77 by decide) (show (78 : Nat) ≠ 107 by decide), zbgR_n (show (79 : Nat) ≠ 77 by decide) (show (79 : Nat) ≠ 107 by decide), zbeR_n (show (79 : Nat) ≠ 77 by decide) (show (79 : Nat) ≠ 107 by decide)])
  subst hv2_r_9
  rw [show (zsR ((zbeR (nI 11) x).1 78 k)) = (zsR (x.1 78 k)) from by simp only [zbgR_n (show (78 : Nat) ≠ 77 by decide) (show (78 : Nat) ≠ 107 by decide), zbeR_n (show (78 : Nat) ≠ 77 by decide) (show (78 : Nat) ≠ 107 by decide), zbgR_n (show (79 : Nat) ≠ 77 by decide) (show (79 : Nat) ≠ 107 by decide), zbeR_n (show (79 : Nat) ≠ 77 by decide) (show (79 : Nat) ≠ 107 by decide)]] at hI
  refine lv_aload_n hx hb dX12_pupilTalks_12 rfl (lv_at hl 0 rfl) ?_
  refine z_get (C := RX12) (T := TX12) (N := 51) (ci := 12) (v := .ref (za G 79)) hx hb hts hin12 hown hK hI (zo77 hG) rfl 3 (by decide) wF20 (fun _ h9 => h9) rfl dX12_pupilTalks_13 ?_
  refine lv_iload_n hx hb dX12_pupilTalks_16 rfl (lv_at hl 1 rfl) ?_
  refine z_iald (v := (x.1 79 k)) hx hb hK hI (zo79 hG) k rfl (by omega) (by decide) (by simp only [zbgR_n (show (78 : Nat) ≠ 77 by decide) (show (78 : Nat) ≠ 107 by decide), zbeR_n (show (78 : Nat) ≠ 77 by decide) (show (78 : Nat) ≠ 107 by decide), zbgR_n (show (79 : Nat) ≠ 77 by decide) (show (79 : Nat) ≠ 107 by decide), zbeR_n (show (79 : Nat) ≠ 77 by decide) (show (79 : Nat) ≠ 107 by decide)]) dX12_pupilTalks_17 ?_
  refine lv_isub hx hb dX12_pupilTalks_18 ?_
  exact z_iret hx hb hr hlocks hI (⟨rfl, rfl⟩) dX12_pupilTalks_19
set_option maxHeartbeats 1000000 in
set_option maxRecDepth 100000 in
theorem c_X12_helpingTalks (l : Launch) {G : zG} (hG : zOK G) (x : zX) (k : Nat) (w : Int32) (hk8 : k < 8) (hrn : zRn x 60) : zMi l yX12_helpingTalks wsX12_helpingTalks { frames := 4, cells := 0, slots := 0, locals := 87 } G [.ref (za G 77), .int (nI k), .int w] x (fun (r : Int32) (u : zX) => zbgR (nI 20 :: nI 11 :: zsR (x.1 78 k)) x = u ∧ (zvR (x.1 78 k) (nI k) (x.1 79 k) w - x.1 79 k) ^^^ nI 6 = r) := by
  intro A
  refine zBody (cc := cX12_helpingTalks) (maxL := 3) (ret := (some .int)) (by decide) rfl (Nat.le_of_ble_eq_true rfl) ?_
  intro p e s m below meth c hx hb hml hown hts hr hlocks hK hN hI ls hl
  have hown : s.vm.findClass RX12 = some m.cls := hown
  have hl : lv_has ls 3 [(0, .ref (za G 77)), (1, .int (nI k)), (2, .int w)] := hl
  refine lv_aload_n hx hb dX12_helpingTalks_0 rfl (lv_at hl 0 rfl) ?_
  refine lv_bipush (v := (nI 20)) hx hb dX12_helpingTalks_1 rfl ?_
  refine z_callv (va_runV (As := [.int (nI 20)]) (rest := []) ⟨hx, hb, hml, hown, hts⟩ ((c_X12_body l hG x (nI 20) (zRn_m hrn (by have h91 := zsR_L (x.1 78 k); have h92 := ztR_L (x.1 78 k); (try simp only [List.length_cons, List.length_nil, List.length_append]); omega))) A) (cwV 1 hts gX12_helpingTalks_X12_body rfl rfl rfl (by decide +kernel) ⟨Nat.le_of_ble_eq_true rfl, Nat.le_of_ble_eq_true rfl⟩) (z_pV hI hK hN (z_recv hK hI (zo77 hG) rfl)) rfl rfl hl.1 rfl (lv_room (Nat.le_of_ble_eq_true rfl)) dX12_helpingTalks_3 ⟨Nat.zero_le _, Nat.zero_le _⟩) hI (fun u H locs hw hI => ?_)
  obtain rfl := hw
  refine lv_aload_n hx hb dX12_helpingTalks_6 rfl (lv_at hl 0 rfl) ?_
  refine lv_iload_n hx hb dX12_helpingTalks_7 rfl (lv_at hl 1 rfl) ?_
  refine lv_iload_n hx hb dX12_helpingTalks_8 rfl (lv_at hl 2 rfl) ?_
  refine z_calli (va_runV (As := [.int (nI k), .int w]) (rest := []) ⟨hx, hb, hml, hown, hts⟩ ((c_X12_pupilTalks l hG (zbeR (nI 20) x) k w hk8 (zRn_m (zRn_e _ hrn) (by have h91 := zsR_L (x.1 78 k); have h92 := ztR_L (x.1 78 k); (try simp only [List.length_cons, List.length_nil, List.length_append]); omega))) A) (cwV 2 hts gX12_helpingTalks_X12_pupilTalks rfl rfl rfl (by decide +kernel) ⟨Nat.le_of_ble_eq_true rfl, Nat.le_of_ble_eq_true rfl⟩) (z_pV hI hK hN (z_recv hK hI (zo77 hG) rfl)) rfl rfl hl.1 rfl (lv_room (Nat.le_of_ble_eq_true rfl)) dX12_helpingTalks_9 ⟨Nat.zero_le _, Nat.zero_le _⟩) hI (fun r_9 u H locs hw hI => ?_)
  obtain ⟨rfl, hv_r_9⟩ := hw
  have hv2_r_9 : r_9 = zvR (x.1 78 k) (nI k) (x.1 79 k) w - x.1 79 k := hv_r_9.symm.trans (by first | rfl | simp only [zbgR_n (show (78 : Nat) ≠ 77 by decide) (show (78 : Nat) ≠ 107 by decide), zbeR_n (show (78 : Nat) ≠ 77 by decide) (show (78 : Nat) ≠ 107 by decide), zbgR_n (show (79 : Nat) ≠ 77 by decide) (show (79 : Nat) ≠ 107 by decide), zbeR_n (show (79 : Nat) ≠ 77 by decide) (show (79 : Nat) ≠ 107 by decide)])
  subst hv2_r_9
  rw [show (nI 11 :: zsR ((zbeR (nI 20) x).1 78 k)) = (nI 11 :: zsR (x.1 78 k)) from by simp only [zbgR_n (show (78 : Nat) ≠ 77 by decide) (show (78 : Nat) ≠ 107 by decide), zbeR_n (show (78 : Nat) ≠ 77 by decide) (show (78 : Nat) ≠ 107 by decide), zbgR_n (show (79 : Nat) ≠ 77 by decide) (show (79 : Nat) ≠ 107 by decide), zbeR_n (show (79 : Nat) ≠ 77 by decide) (show (79 : Nat) ≠ 107 by decide)]] at hI
  refine lv_bipush (v := (nI 6)) hx hb dX12_helpingTalks_12 rfl ?_
  refine lv_ixor hx hb dX12_helpingTalks_14 ?_
  exact z_iret hx hb hr hlocks hI (⟨rfl, rfl⟩) dX12_helpingTalks_15
set_option maxHeartbeats 1000000 in
set_option maxRecDepth 100000 in
theorem c_X12_talksAct (l : Launch) {G : zG} (hG : zOK G) (x : zX) (k : Nat) (w : Int32) (hk8 : k < 8) (hrn : zRn x 50) : zMi l yX12_talksAct wsX12_talksAct { frames := 5, cells := 0, slots := 0, locals := 109 } G [.ref (za G 77), .int (nI k), .int w] x (fun (r : Int32) (u : zX) => zbgR (ztR (x.1 78 k)) x = u ∧ zuR (x.1 78 k) (nI k) (x.1 79 k) w = r) := by
  intro A
  refine zBody (cc := cX12_talksAct) (maxL := 4) (ret := (some .int)) (by decide) rfl (Nat.le_of_ble_eq_true rfl) ?_
  intro p e s m below meth c hx hb hml hown hts hr hlocks hK hN hI ls hl
  have hown : s.vm.findClass RX12 = some m.cls := hown
  have hl : lv_has ls 4 [(0, .ref (za G 77)), (1, .int (nI k)), (2, .int w)] := hl
  have hin12 : ∀ w ∈ wsX120, w ∈ wsX12_talksAct := (fun _ h => List.mem_cons_of_mem _ (List.mem_append_right _ (h)))
  have wF16 := hts (.fieldLink RX12 16 "WhoSitsByModel" "kind" "[I") (z_mem 1 rfl)
  refine lv_aload_n hx hb dX12_talksAct_0 rfl (lv_at hl 0 rfl) ?_
  refine z_get (C := RX12) (T := TX12) (N := 51) (ci := 12) (v := .ref (za G 78)) hx hb hts hin12 hown hK hI (zo77 hG) rfl 2 (by decide) wF16 (fun _ h9 => h9) rfl dX12_talksAct_1 ?_
  refine lv_iload_n hx hb dX12_talksAct_4 rfl (lv_at hl 1 rfl) ?_
  refine z_iald (v := (x.1 78 k)) hx hb hK hI (zo78 hG) k rfl (by omega) (by decide) rfl dX12_talksAct_5 ?_
  by_cases q6_1 : (x.1 78 k) = (nI 1)
  · skip
    refine lv_lookup (off := 34) (tgt := 40) hx hb dX12_talksAct_6 (by decide) (by rw [q6_1]; decide) (by decide) ?_
    refine lv_aload_n hx hb dX12_talksAct_40 rfl (lv_at hl 0 rfl) ?_
    refine lv_iload_n hx hb dX12_talksAct_41 rfl (lv_at hl 1 rfl) ?_
    refine lv_iload_n hx hb dX12_talksAct_42 rfl (lv_at hl 2 rfl) ?_
    refine z_calli (va_runV (As := [.int (nI k), .int w]) (rest := []) ⟨hx, hb, hml, hown, hts⟩ ((c_X12_helpingTalks l hG x k w hk8 (zRn_m hrn (by have h91 := zsR_L (x.1 78 k); have h92 := ztR_L (x.1 78 k); (try simp only [List.length_cons, List.length_nil, List.length_append]); omega))) A) (cwV 2 hts gX12_talksAct_X12_helpingTalks rfl rfl rfl (by decide +kernel) ⟨Nat.le_of_ble_eq_true rfl, Nat.le_of_ble_eq_true rfl⟩) (z_pV hI hK hN (z_recv hK hI (zo77 hG) rfl)) rfl rfl hl.1 rfl (lv_room (Nat.le_of_ble_eq_true rfl)) dX12_talksAct_43 ⟨Nat.zero_le _, Nat.zero_le _⟩) hI (fun r_43 u H locs hw hI => ?_)
    obtain ⟨rfl, hv_r_43⟩ := hw
    subst hv_r_43
    exact z_iret hx hb hr hlocks hI (⟨by unfold ztR; rw [if_pos q6_1]; try rfl, by unfold zuR; rw [if_pos q6_1]⟩) dX12_talksAct_46
  by_cases q6_4 : (x.1 78 k) = (nI 4)
  · skip
    refine lv_lookup (off := 41) (tgt := 47) hx hb dX12_talksAct_6 (by decide) (by rw [q6_4]; decide) (by decide) ?_
    refine lv_aload_n hx hb dX12_talksAct_47 rfl (lv_at hl 0 rfl) ?_
    refine lv_bipush (v := (nI 51)) hx hb dX12_talksAct_48 rfl ?_
    refine z_callv (va_runV (As := [.int (nI 51)]) (rest := []) ⟨hx, hb, hml, hown, hts⟩ ((c_X12_body l hG x (nI 51) (zRn_m hrn (by have h91 := zsR_L (x.1 78 k); have h92 := ztR_L (x.1 78 k); (try simp only [List.length_cons, List.length_nil, List.length_append]); omega))) A) (cwV 1 hts gX12_talksAct_X12_body rfl rfl rfl (by decide +kernel) ⟨Nat.le_of_ble_eq_true rfl, Nat.le_of_ble_eq_true rfl⟩) (z_pV hI hK hN (z_recv hK hI (zo77 hG) rfl)) rfl rfl hl.1 rfl (lv_room (Nat.le_of_ble_eq_true rfl)) dX12_talksAct_50 ⟨Nat.zero_le _, Nat.zero_le _⟩) hI (fun u H locs hw hI => ?_)
    obtain rfl := hw
    refine lv_aload_n hx hb dX12_talksAct_53 rfl (lv_at hl 0 rfl) ?_
    refine lv_iload_n hx hb dX12_talksAct_54 rfl (lv_at hl 1 rfl) ?_
    refine lv_iload_n hx hb dX12_talksAct_55 rfl (lv_at hl 2 rfl) ?_
    refine lv_iconst (v := (nI 1)) hx hb dX12_talksAct_56 rfl ?_
    refine lv_iadd hx hb dX12_talksAct_57 ?_
    refine z_calli (va_runV (As := [.int (nI k), .int (w + (nI 1))]) (rest := []) ⟨hx, hb, hml, hown, hts⟩ ((c_X12_helpingTalks l hG (zbeR (nI 51) x) k (w + (nI 1)) hk8 (zRn_m (zRn_e _ hrn) (by have h91 := zsR_L (x.1 78 k); have h92 := ztR_L (x.1 78 k); (try simp only [List.length_cons, List.length_nil, List.length_append]); omega))) A) (cwV 2 hts gX12_talksAct_X12_helpingTalks rfl rfl rfl (by decide +kernel) ⟨Nat.le_of_ble_eq_true rfl, Nat.le_of_ble_eq_true rfl⟩) (z_pV hI hK hN (z_recv hK hI (zo77 hG) rfl)) rfl rfl hl.1 rfl (lv_room (Nat.le_of_ble_eq_true rfl)) dX12_talksAct_58 ⟨Nat.zero_le _, Nat.zero_le _⟩) hI (fun r_58 u H locs hw hI => ?_)
    obtain ⟨rfl, hv_r_58⟩ := hw
    have hv2_r_58 : r_58 = (zvR (x.1 78 k) (nI k) (x.1 79 k) (w + (nI 1)) - x.1 79 k) ^^^ nI 6 := hv_r_58.symm.trans (by first | rfl | simp only [zbgR_n (show (78 : Nat) ≠ 77 by decide) (show (78 : Nat) ≠ 107 by decide), zbeR_n (show (78 : Nat) ≠ 77 by decide) (show (78 : Nat) ≠ 107 by decide), zbgR_n (show (79 : Nat) ≠ 77 by decide) (show (79 : Nat) ≠ 107 by decide), zbeR_n (show (79 : Nat) ≠ 77 by decide) (show (79 : Nat) ≠ 107 by decide)])
    subst hv2_r_58
    rw [show (nI 20 :: nI 11 :: zsR ((zbeR (nI 51) x).1 78 k)) = (nI 20 :: nI 11 :: zsR (x.1 78 k)) from by simp only [zbgR_n (show (78 : Nat) ≠ 77 by decide) (show (78 : Nat) ≠ 107 by decide), zbeR_n (show (78 : Nat) ≠ 77 by decide) (show (78 : Nat) ≠ 107 by decide), zbgR_n (show (79 : Nat) ≠ 77 by decide) (show (79 : Nat) ≠ 107 by decide), zbeR_n (show (79 : Nat) ≠ 77 by decide) (show (79 : Nat) ≠ 107 by decide)]] at hI
    exact z_iret hx hb hr hlocks hI (⟨by unfold ztR; rw [if_neg (by rw [q6_4]; decide), if_pos q6_4]; try rfl, by unfold zuR; rw [if_neg (by rw [q6_4]; decide), if_pos q6_4]⟩) dX12_talksAct_61
  by_cases q6_6 : (x.1 78 k) = (nI 6)
  · skip
    refine lv_lookup (off := 56) (tgt := 62) hx hb dX12_talksAct_6 (by decide) (by rw [q6_6]; decide) (by decide) ?_
    refine lv_aload_n hx hb dX12_talksAct_62 rfl (lv_at hl 0 rfl) ?_
    refine lv_bipush (v := (nI 70)) hx hb dX12_talksAct_63 rfl ?_
    refine z_callv (va_runV (As := [.int (nI 70)]) (rest := []) ⟨hx, hb, hml, hown, hts⟩ ((c_X12_body l hG x (nI 70) (zRn_m hrn (by have h91 := zsR_L (x.1 78 k); have h92 := ztR_L (x.1 78 k); (try simp only [List.length_cons, List.length_nil, List.length_append]); omega))) A) (cwV 1 hts gX12_talksAct_X12_body rfl rfl rfl (by decide +kernel) ⟨Nat.le_of_ble_eq_true rfl, Nat.le_of_ble_eq_true rfl⟩) (z_pV hI hK hN (z_recv hK hI (zo77 hG) rfl)) rfl rfl hl.1 rfl (lv_room (Nat.le_of_ble_eq_true rfl)) dX12_talksAct_65 ⟨Nat.zero_le _, Nat.zero_le _⟩) hI (fun u H locs hw hI => ?_)
    obtain rfl := hw
    refine lv_aload_n hx hb dX12_talksAct_68 rfl (lv_at hl 0 rfl) ?_
    refine lv_iload_n hx hb dX12_talksAct_69 rfl (lv_at hl 1 rfl) ?_
    refine lv_iload_n hx hb dX12_talksAct_70 rfl (lv_at hl 2 rfl) ?_
    refine z_calli (va_runV (As := [.int (nI k), .int w]) (rest := []) ⟨hx, hb, hml, hown, hts⟩ ((c_X12_pupilTalks l hG (zbeR (nI 70) x) k w hk8 (zRn_m (zRn_e _ hrn) (by have h91 := zsR_L (x.1 78 k); have h92 := ztR_L (x.1 78 k); (try simp only [List.length_cons, List.length_nil, List.length_append]); omega))) A) (cwV 2 hts gX12_talksAct_X12_pupilTalks rfl rfl rfl (by decide +kernel) ⟨Nat.le_of_ble_eq_true rfl, Nat.le_of_ble_eq_true rfl⟩) (z_pV hI hK hN (z_recv hK hI (zo77 hG) rfl)) rfl rfl hl.1 rfl (lv_room (Nat.le_of_ble_eq_true rfl)) dX12_talksAct_71 ⟨Nat.zero_le _, Nat.zero_le _⟩) hI (fun r_71 u H locs hw hI => ?_)
    obtain ⟨rfl, hv_r_71⟩ := hw
    have hv2_r_71 : r_71 = zvR (x.1 78 k) (nI k) (x.1 79 k) w - x.1 79 k := hv_r_71.symm.trans (by first | rfl | simp only [zbgR_n (show (78 : Nat) ≠ 77 by decide) (show (78 : Nat) ≠ 107 by decide), zbeR_n (show (78 : Nat) ≠ 77 by decide) (show (78 : Nat) ≠ 107 by decide), zbgR_n (show (79 : Nat) ≠ 77 by decide) (show (79 : Nat) ≠ 107 by decide), zbeR_n (show (79 : Nat) ≠ 77 by decide) (show (79 : Nat) ≠ 107 by decide)])
    subst hv2_r_71
    rw [show (nI 11 :: zsR ((zbeR (nI 70) x).1 78 k)) = (nI 11 :: zsR (x.1 78 k)) from by simp only [zbgR_n (show (78 : Nat) ≠ 77 by decide) (show (78 : Nat) ≠ 107 by decide), zbeR_n (show (78 : Nat) ≠ 77 by decide) (show (78 : Nat) ≠ 107 by decide), zbgR_n (show (79 : Nat) ≠ 77 by decide) (show (79 : Nat) ≠ 107 by decide), zbeR_n (show (79 : Nat) ≠ 77 by decide) (show (79 : Nat) ≠ 107 by decide)]] at hI
    refine lv_istore_n (lv' := [(3, .int (zvR (x.1 78 k) (nI k) (x.1 79 k) w - x.1 79 k)), (0, .ref (za G 77)), (1, .int (nI k)), (2, .int w)]) hx hb dX12_talksAct_74 rfl hl (by decide) rfl (fun ls hl => ?_)
    refine lv_iload_n hx hb dX12_talksAct_75 rfl (lv_at hl 0 rfl) ?_
    refine lv_aload_n hx hb dX12_talksAct_76 rfl (lv_at hl 1 rfl) ?_
    refine lv_iload_n hx hb dX12_talksAct_77 rfl (lv_at hl 2 rfl) ?_
    refine lv_iconst (v := (nI 2)) hx hb dX12_talksAct_78 rfl ?_
    refine z_calli (va_runV (As := [.int (nI k), .int (nI 2)]) (rest := [.int (zvR (x.1 78 k) (nI k) (x.1 79 k) w - x.1 79 k)]) ⟨hx, hb, hml, hown, hts⟩ ((c_X12_pupilSits l hG (zbgR (nI 11 :: zsR (x.1 78 k)) (zbeR (nI 70) x)) k (nI 2) hk8 (zRn_m (zRn_l _ (zRn_e _ hrn)) (by have h91 := zsR_L (x.1 78 k); have h92 := ztR_L (x.1 78 k); (try simp only [List.length_cons, List.length_nil, List.length_append]); omega))) A) (cwV 2 hts gX12_talksAct_X12_pupilSits rfl rfl rfl (by decide +kernel) ⟨Nat.le_of_ble_eq_true rfl, Nat.le_of_ble_eq_true rfl⟩) (z_pV hI hK hN (z_recv hK hI (zo77 hG) rfl)) rfl rfl hl.1 rfl (lv_room (Nat.le_of_ble_eq_true rfl)) dX12_talksAct_79 ⟨Nat.zero_le _, Nat.zero_le _⟩) hI (fun r_79 u H locs hw hI => ?_)
    obtain ⟨rfl, hv_r_79⟩ := hw
    have hv2_r_79 : r_79 = (nI 2) + nI k := hv_r_79.symm.trans (by first | rfl | simp only [zbgR_n (show (78 : Nat) ≠ 77 by decide) (show (78 : Nat) ≠ 107 by decide), zbeR_n (show (78 : Nat) ≠ 77 by decide) (show (78 : Nat) ≠ 107 by decide), zbgR_n (show (79 : Nat) ≠ 77 by decide) (show (79 : Nat) ≠ 107 by decide), zbeR_n (show (79 : Nat) ≠ 77 by decide) (show (79 : Nat) ≠ 107 by decide)])
    subst hv2_r_79
    refine lv_iadd hx hb dX12_talksAct_82 ?_
    exact z_iret hx hb hr hlocks hI (⟨by unfold ztR; rw [if_neg (by rw [q6_6]; decide), if_neg (by rw [q6_6]; decide), if_pos q6_6]; exact zbgR_a (nI 70 :: nI 11 :: zsR (x.1 78 k)) [nI 10] x, by unfold zuR; rw [if_neg (by rw [q6_6]; decide), if_neg (by rw [q6_6]; decide), if_pos q6_6]⟩) dX12_talksAct_83
  refine lv_lookup (off := 78) (tgt := 84) hx hb dX12_talksAct_6 (by decide) ((lv_osw (k := nI 1) q6_1 rfl).trans ((lv_osw (k := nI 4) q6_4 rfl).trans ((lv_osw (k := nI 6) q6_6 rfl).trans (rfl)))) (by decide) ?_
  refine lv_aload_n hx hb dX12_talksAct_84 rfl (lv_at hl 0 rfl) ?_
  refine lv_iload_n hx hb dX12_talksAct_85 rfl (lv_at hl 1 rfl) ?_
  refine lv_iload_n hx hb dX12_talksAct_86 rfl (lv_at hl 2 rfl) ?_
  refine z_calli (va_runV (As := [.int (nI k), .int w]) (rest := []) ⟨hx, hb, hml, hown, hts⟩ ((c_X12_pupilTalks l hG x k w hk8 (zRn_m hrn (by have h91 := zsR_L (x.1 78 k); have h92 := ztR_L (x.1 78 k); (try simp only [List.length_cons, List.length_nil, List.length_append]); omega))) A) (cwV 2 hts gX12_talksAct_X12_pupilTalks rfl rfl rfl (by decide +kernel) ⟨Nat.le_of_ble_eq_true rfl, Nat.le_of_ble_eq_true rfl⟩) (z_pV hI hK hN (z_recv hK hI (zo77 hG) rfl)) rfl rfl hl.1 rfl (lv_room (Nat.le_of_ble_eq_true rfl)) dX12_talksAct_87 ⟨Nat.zero_le _, Nat.zero_le _⟩) hI (fun r_87 u H locs hw hI => ?_)
  obtain ⟨rfl, hv_r_87⟩ := hw
  subst hv_r_87
  exact z_iret hx hb hr hlocks hI (⟨by unfold ztR; rw [if_neg q6_1, if_neg q6_4, if_neg q6_6]; try rfl, by unfold zuR; rw [if_neg q6_1, if_neg q6_4, if_neg q6_6]⟩) dX12_talksAct_90
set_option maxHeartbeats 1000000 in
set_option maxRecDepth 100000 in
theorem c_X12_pupilTells (l : Launch) {G : zG} (hG : zOK G) (x : zX) (k : Nat) (w : Int32) (hk8 : k < 8) (hrn : zRn x 40) : zMi l yX12_pupilTells wsX12_pupilTells { frames := 6, cells := 0, slots := 0, locals := 132 } G [.ref (za G 77), .int (nI k), .int w] x (fun (r : Int32) (u : zX) => zbgR (nI 12 :: ztR (x.1 78 k)) x = u ∧ zuR (x.1 78 k) (nI k) (x.1 79 k) w * nI 2 = r) := by
  intro A
  refine zBody (cc := cX12_pupilTells) (maxL := 3) (ret := (some .int)) (by decide) rfl (Nat.le_of_ble_eq_true rfl) ?_
  intro p e s m below meth c hx hb hml hown hts hr hlocks hK hN hI ls hl
  have hown : s.vm.findClass RX12 = some m.cls := hown
  have hl : lv_has ls 3 [(0, .ref (za G 77)), (1, .int (nI k)), (2, .int w)] := hl
  refine lv_aload_n hx hb dX12_pupilTells_0 rfl (lv_at hl 0 rfl) ?_
  refine lv_bipush (v := (nI 12)) hx hb dX12_pupilTells_1 rfl ?_
  refine z_callv (va_runV (As := [.int (nI 12)]) (rest := []) ⟨hx, hb, hml, hown, hts⟩ ((c_X12_body l hG x (nI 12) (zRn_m hrn (by have h91 := zsR_L (x.1 78 k); have h92 := ztR_L (x.1 78 k); (try simp only [List.length_cons, List.length_nil, List.length_append]); omega))) A) (cwV 1 hts gX12_pupilTells_X12_body rfl rfl rfl (by decide +kernel) ⟨Nat.le_of_ble_eq_true rfl, Nat.le_of_ble_eq_true rfl⟩) (z_pV hI hK hN (z_recv hK hI (zo77 hG) rfl)) rfl rfl hl.1 rfl (lv_room (Nat.le_of_ble_eq_true rfl)) dX12_pupilTells_3 ⟨Nat.zero_le _, Nat.zero_le _⟩) hI (fun u H locs hw hI => ?_)
  obtain rfl := hw
  refine lv_aload_n hx hb dX12_pupilTells_6 rfl (lv_at hl 0 rfl) ?_
  refine lv_iload_n hx hb dX12_pupilTells_7 rfl (lv_at hl 1 rfl) ?_
  refine lv_iload_n hx hb dX12_pupilTells_8 rfl (lv_at hl 2 rfl) ?_
  refine z_calli (va_runV (As := [.int (nI k), .int w]) (rest := []) ⟨hx, hb, hml, hown, hts⟩ ((c_X12_talksAct l hG (zbeR (nI 12) x) k w hk8 (zRn_m (zRn_e _ hrn) (by have h91 := zsR_L (x.1 78 k); have h92 := ztR_L (x.1 78 k); (try simp only [List.length_cons, List.length_nil, List.length_append]); omega))) A) (cwV 2 hts gX12_pupilTells_X12_talksAct rfl rfl rfl (by decide +kernel) ⟨Nat.le_of_ble_eq_true rfl, Nat.le_of_ble_eq_true rfl⟩) (z_pV hI hK hN (z_recv hK hI (zo77 hG) rfl)) rfl rfl hl.1 rfl (lv_room (Nat.le_of_ble_eq_true rfl)) dX12_pupilTells_9 ⟨Nat.zero_le _, Nat.zero_le _⟩) hI (fun r_9 u H locs hw hI => ?_)
  obtain ⟨rfl, hv_r_9⟩ := hw
  have hv2_r_9 : r_9 = zuR (x.1 78 k) (nI k) (x.1 79 k) w := hv_r_9.symm.trans (by first | rfl | simp only [zbgR_n (show (78 : Nat) ≠ 77 by decide) (show (78 : Nat) ≠ 107 by decide), zbeR_n (show (78 : Nat) ≠ 77 by decide) (show (78 : Nat) ≠ 107 by decide), zbgR_n (show (79 : Nat) ≠ 77 by decide) (show (79 : Nat) ≠ 107 by decide), zbeR_n (show (79 : Nat) ≠ 77 by decide) (show (79 : Nat) ≠ 107 by decide)])
  subst hv2_r_9
  rw [show (ztR ((zbeR (nI 12) x).1 78 k)) = (ztR (x.1 78 k)) from by simp only [zbgR_n (show (78 : Nat) ≠ 77 by decide) (show (78 : Nat) ≠ 107 by decide), zbeR_n (show (78 : Nat) ≠ 77 by decide) (show (78 : Nat) ≠ 107 by decide), zbgR_n (show (79 : Nat) ≠ 77 by decide) (show (79 : Nat) ≠ 107 by decide), zbeR_n (show (79 : Nat) ≠ 77 by decide) (show (79 : Nat) ≠ 107 by decide)]] at hI
  refine lv_iconst (v := (nI 2)) hx hb dX12_pupilTells_12 rfl ?_
  refine lv_imul hx hb dX12_pupilTells_13 ?_
  exact z_iret hx hb hr hlocks hI (⟨rfl, rfl⟩) dX12_pupilTells_14
set_option maxHeartbeats 1000000 in
set_option maxRecDepth 100000 in
theorem c_X12_tellsAct (l : Launch) {G : zG} (hG : zOK G) (x : zX) (k : Nat) (w : Int32) (hk8 : k < 8) (hrn : zRn x 20) : zMi l yX12_tellsAct wsX12_tellsAct { frames := 7, cells := 0, slots := 0, locals := 154 } G [.ref (za G 77), .int (nI k), .int w] x (fun (r : Int32) (u : zX) => zbgR (zeR (x.1 78 k)) x = u ∧ zwR (x.1 78 k) (nI k) (x.1 79 k) w = r) := by
  intro A
  refine zBody (cc := cX12_tellsAct) (maxL := 4) (ret := (some .int)) (by decide) rfl (Nat.le_of_ble_eq_true rfl) ?_
  intro p e s m below meth c hx hb hml hown hts hr hlocks hK hN hI ls hl
  have hown : s.vm.findClass RX12 = some m.cls := hown
  have hl : lv_has ls 4 [(0, .ref (za G 77)), (1, .int (nI k)), (2, .int w)] := hl
  have hin12 : ∀ w ∈ wsX120, w ∈ wsX12_tellsAct := (fun _ h => List.mem_cons_of_mem _ (List.mem_append_right _ (h)))
  have wF16 := hts (.fieldLink RX12 16 "WhoSitsByModel" "kind" "[I") (z_mem 1 rfl)
  refine lv_aload_n hx hb dX12_tellsAct_0 rfl (lv_at hl 0 rfl) ?_
  refine z_get (C := RX12) (T := TX12) (N := 51) (ci := 12) (v := .ref (za G 78)) hx hb hts hin12 hown hK hI (zo77 hG) rfl 2 (by decide) wF16 (fun _ h9 => h9) rfl dX12_tellsAct_1 ?_
  refine lv_iload_n hx hb dX12_tellsAct_4 rfl (lv_at hl 1 rfl) ?_
  refine z_iald (v := (x.1 78 k)) hx hb hK hI (zo78 hG) k rfl (by omega) (by decide) rfl dX12_tellsAct_5 ?_
  by_cases q6_3 : (x.1 78 k) = (nI 3)
  · skip
    refine lv_tableIn (off := 30) (tgt := 36) hx hb dX12_tellsAct_6 (by rw [q6_3]; decide) (by rw [q6_3]; decide) (by rw [q6_3]; rfl) (by decide) ?_
    refine lv_aload_n hx hb dX12_tellsAct_36 rfl (lv_at hl 0 rfl) ?_
    refine lv_bipush (v := (nI 40)) hx hb dX12_tellsAct_37 rfl ?_
    refine z_callv (va_runV (As := [.int (nI 40)]) (rest := []) ⟨hx, hb, hml, hown, hts⟩ ((c_X12_body l hG x (nI 40) (zRn_m hrn (by have h91 := zsR_L (x.1 78 k); have h92 := ztR_L (x.1 78 k); (try simp only [List.length_cons, List.length_nil, List.length_append]); omega))) A) (cwV 1 hts gX12_tellsAct_X12_body rfl rfl rfl (by decide +kernel) ⟨Nat.le_of_ble_eq_true rfl, Nat.le_of_ble_eq_true rfl⟩) (z_pV hI hK hN (z_recv hK hI (zo77 hG) rfl)) rfl rfl hl.1 rfl (lv_room (Nat.le_of_ble_eq_true rfl)) dX12_tellsAct_39 ⟨Nat.zero_le _, Nat.zero_le _⟩) hI (fun u H locs hw hI => ?_)
    obtain rfl := hw
    refine lv_aload_n hx hb dX12_tellsAct_42 rfl (lv_at hl 0 rfl) ?_
    refine lv_iload_n hx hb dX12_tellsAct_43 rfl (lv_at hl 1 rfl) ?_
    refine lv_iload_n hx hb dX12_tellsAct_44 rfl (lv_at hl 2 rfl) ?_
    refine z_calli (va_runV (As := [.int (nI k), .int w]) (rest := []) ⟨hx, hb, hml, hown, hts⟩ ((c_X12_pupilTells l hG (zbeR (nI 40) x) k w hk8 (zRn_m (zRn_e _ hrn) (by have h91 := zsR_L (x.1 78 k); have h92 := ztR_L (x.1 78 k); (try simp only [List.length_cons, List.length_nil, List.length_append]); omega))) A) (cwV 2 hts gX12_tellsAct_X12_pupilTells rfl rfl rfl (by decide +kernel) ⟨Nat.le_of_ble_eq_true rfl, Nat.le_of_ble_eq_true rfl⟩) (z_pV hI hK hN (z_recv hK hI (zo77 hG) rfl)) rfl rfl hl.1 rfl (lv_room (Nat.le_of_ble_eq_true rfl)) dX12_tellsAct_45 ⟨Nat.zero_le _, Nat.zero_le _⟩) hI (fun r_45 u H locs hw hI => ?_)
    obtain ⟨rfl, hv_r_45⟩ := hw
    have hv2_r_45 : r_45 = zuR (x.1 78 k) (nI k) (x.1 79 k) w * nI 2 := hv_r_45.symm.trans (by first | rfl | simp only [zbgR_n (show (78 : Nat) ≠ 77 by decide) (show (78 : Nat) ≠ 107 by decide), zbeR_n (show (78 : Nat) ≠ 77 by decide) (show (78 : Nat) ≠ 107 by decide), zbgR_n (show (79 : Nat) ≠ 77 by decide) (show (79 : Nat) ≠ 107 by decide), zbeR_n (show (79 : Nat) ≠ 77 by decide) (show (79 : Nat) ≠ 107 by decide)])
    subst hv2_r_45
    rw [show (nI 12 :: ztR ((zbeR (nI 40) x).1 78 k)) = (nI 12 :: ztR (x.1 78 k)) from by simp only [zbgR_n (show (78 : Nat) ≠ 77 by decide) (show (78 : Nat) ≠ 107 by decide), zbeR_n (show (78 : Nat) ≠ 77 by decide) (show (78 : Nat) ≠ 107 by decide), zbgR_n (show (79 : Nat) ≠ 77 by decide) (show (79 : Nat) ≠ 107 by decide), zbeR_n (show (79 : Nat) ≠ 77 by decide) (show (79 : Nat) ≠ 107 by decide)]] at hI
    refine lv_istore_n (lv' := [(3, .int (zuR (x.1 78 k) (nI k) (x.1 79 k) w * nI 2)), (0, .ref (za G 77)), (1, .int (nI k)), (2, .int w)]) hx hb dX12_tellsAct_48 rfl hl (by decide) rfl (fun ls hl => ?_)
    refine lv_iload_n hx hb dX12_tellsAct_49 rfl (lv_at hl 0 rfl) ?_
    refine lv_aload_n hx hb dX12_tellsAct_50 rfl (lv_at hl 1 rfl) ?_
    refine lv_iload_n hx hb dX12_tellsAct_51 rfl (lv_at hl 2 rfl) ?_
    refine lv_iconst (v := (nI 1)) hx hb dX12_tellsAct_52 rfl ?_
    refine z_calli (va_runV (As := [.int (nI k), .int (nI 1)]) (rest := [.int (zuR (x.1 78 k) (nI k) (x.1 79 k) w * nI 2)]) ⟨hx, hb, hml, hown, hts⟩ ((c_X12_talksAct l hG (zbgR (nI 12 :: ztR (x.1 78 k)) (zbeR (nI 40) x)) k (nI 1) hk8 (zRn_m (zRn_l _ (zRn_e _ hrn)) (by have h91 := zsR_L (x.1 78 k); have h92 := ztR_L (x.1 78 k); (try simp only [List.length_cons, List.length_nil, List.length_append]); omega))) A) (cwV 2 hts gX12_tellsAct_X12_talksAct rfl rfl rfl (by decide +kernel) ⟨Nat.le_of_ble_eq_true rfl, Nat.le_of_ble_eq_true rfl⟩) (z_pV hI hK hN (z_recv hK hI (zo77 hG) rfl)) rfl rfl hl.1 rfl (lv_room (Nat.le_of_ble_eq_true rfl)) dX12_tellsAct_53 ⟨Nat.zero_le _, Nat.zero_le _⟩) hI (fun r_53 u H locs hw hI => ?_)
    obtain ⟨rfl, hv_r_53⟩ := hw
    have hv2_r_53 : r_53 = zuR (x.1 78 k) (nI k) (x.1 79 k) (nI 1) := hv_r_53.symm.trans (by first | rfl | simp only [zbgR_n (show (78 : Nat) ≠ 77 by decide) (show (78 : Nat) ≠ 107 by decide), zbeR_n (show (78 : Nat) ≠ 77 by decide) (show (78 : Nat) ≠ 107 by decide), zbgR_n (show (79 : Nat) ≠ 77 by decide) (show (79 : Nat) ≠ 107 by decide), zbeR_n (show (79 : Nat) ≠ 77 by decide) (show (79 : Nat) ≠ 107 by decide)])
    subst hv2_r_53
    rw [show (ztR ((zbgR (nI 12 :: ztR (x.1 78 k)) (zbeR (nI 40) x)).1 78 k)) = (ztR (x.1 78 k)) from by simp only [zbgR_n (show (78 : Nat) ≠ 77 by decide) (show (78 : Nat) ≠ 107 by decide), zbeR_n (show (78 : Nat) ≠ 77 by decide) (show (78 : Nat) ≠ 107 by decide), zbgR_n (show (79 : Nat) ≠ 77 by decide) (show (79 : Nat) ≠ 107 by decide), zbeR_n (show (79 : Nat) ≠ 77 by decide) (show (79 : Nat) ≠ 107 by decide)]] at hI
    refine lv_iadd hx hb dX12_tellsAct_56 ?_
    exact z_iret hx hb hr hlocks hI (⟨by unfold zeR; rw [if_pos q6_3]; exact zbgR_a (nI 40 :: nI 12 :: ztR (x.1 78 k)) (ztR (x.1 78 k)) x, by unfold zwR; rw [if_pos q6_3]⟩) dX12_tellsAct_57
  by_cases q6_4 : (x.1 78 k) = (nI 4)
  · skip
    refine lv_tableIn (off := 67) (tgt := 73) hx hb dX12_tellsAct_6 (by rw [q6_4]; decide) (by rw [q6_4]; decide) (by rw [q6_4]; rfl) (by decide) ?_
    refine lv_aload_n hx hb dX12_tellsAct_73 rfl (lv_at hl 0 rfl) ?_
    refine lv_iload_n hx hb dX12_tellsAct_74 rfl (lv_at hl 1 rfl) ?_
    refine lv_iload_n hx hb dX12_tellsAct_75 rfl (lv_at hl 2 rfl) ?_
    refine z_calli (va_runV (As := [.int (nI k), .int w]) (rest := []) ⟨hx, hb, hml, hown, hts⟩ ((c_X12_pupilTells l hG x k w hk8 (zRn_m hrn (by have h91 := zsR_L (x.1 78 k); have h92 := ztR_L (x.1 78 k); (try simp only [List.length_cons, List.length_nil, List.length_append]); omega))) A) (cwV 2 hts gX12_tellsAct_X12_pupilTells rfl rfl rfl (by decide +kernel) ⟨Nat.le_of_ble_eq_true rfl, Nat.le_of_ble_eq_true rfl⟩) (z_pV hI hK hN (z_recv hK hI (zo77 hG) rfl)) rfl rfl hl.1 rfl (lv_room (Nat.le_of_ble_eq_true rfl)) dX12_tellsAct_76 ⟨Nat.zero_le _, Nat.zero_le _⟩) hI (fun r_76 u H locs hw hI => ?_)
    obtain ⟨rfl, hv_r_76⟩ := hw
    subst hv_r_76
    exact z_iret hx hb hr hlocks hI (⟨by unfold zeR; rw [if_neg (by rw [q6_4]; decide), if_neg (by rw [q6_4]; decide), if_neg (by rw [q6_4]; decide)]; try rfl, by unfold zwR; rw [if_neg (by rw [q6_4]; decide), if_neg (by rw [q6_4]; decide), if_neg (by rw [q6_4]; decide)]⟩) dX12_tellsAct_79
  by_cases q6_5 : (x.1 78 k) = (nI 5)
  · skip
    refine lv_tableIn (off := 52) (tgt := 58) hx hb dX12_tellsAct_6 (by rw [q6_5]; decide) (by rw [q6_5]; decide) (by rw [q6_5]; rfl) (by decide) ?_
    refine lv_aload_n hx hb dX12_tellsAct_58 rfl (lv_at hl 0 rfl) ?_
    refine lv_bipush (v := (nI 60)) hx hb dX12_tellsAct_59 rfl ?_
    refine z_callv (va_runV (As := [.int (nI 60)]) (rest := []) ⟨hx, hb, hml, hown, hts⟩ ((c_X12_body l hG x (nI 60) (zRn_m hrn (by have h91 := zsR_L (x.1 78 k); have h92 := ztR_L (x.1 78 k); (try simp only [List.length_cons, List.length_nil, List.length_append]); omega))) A) (cwV 1 hts gX12_tellsAct_X12_body rfl rfl rfl (by decide +kernel) ⟨Nat.le_of_ble_eq_true rfl, Nat.le_of_ble_eq_true rfl⟩) (z_pV hI hK hN (z_recv hK hI (zo77 hG) rfl)) rfl rfl hl.1 rfl (lv_room (Nat.le_of_ble_eq_true rfl)) dX12_tellsAct_61 ⟨Nat.zero_le _, Nat.zero_le _⟩) hI (fun u H locs hw hI => ?_)
    obtain rfl := hw
    refine lv_aload_n hx hb dX12_tellsAct_64 rfl (lv_at hl 0 rfl) ?_
    refine lv_iload_n hx hb dX12_tellsAct_65 rfl (lv_at hl 1 rfl) ?_
    refine lv_iload_n hx hb dX12_tellsAct_66 rfl (lv_at hl 2 rfl) ?_
    refine lv_iload_n hx hb dX12_tellsAct_67 rfl (lv_at hl 1 rfl) ?_
    refine lv_isub hx hb dX12_tellsAct_68 ?_
    refine z_calli (va_runV (As := [.int (nI k), .int (w - (nI k))]) (rest := []) ⟨hx, hb, hml, hown, hts⟩ ((c_X12_pupilTells l hG (zbeR (nI 60) x) k (w - (nI k)) hk8 (zRn_m (zRn_e _ hrn) (by have h91 := zsR_L (x.1 78 k); have h92 := ztR_L (x.1 78 k); (try simp only [List.length_cons, List.length_nil, List.length_append]); omega))) A) (cwV 2 hts gX12_tellsAct_X12_pupilTells rfl rfl rfl (by decide +kernel) ⟨Nat.le_of_ble_eq_true rfl, Nat.le_of_ble_eq_true rfl⟩) (z_pV hI hK hN (z_recv hK hI (zo77 hG) rfl)) rfl rfl hl.1 rfl (lv_room (Nat.le_of_ble_eq_true rfl)) dX12_tellsAct_69 ⟨Nat.zero_le _, Nat.zero_le _⟩) hI (fun r_69 u H locs hw hI => ?_)
    obtain ⟨rfl, hv_r_69⟩ := hw
    have hv2_r_69 : r_69 = zuR (x.1 78 k) (nI k) (x.1 79 k) (w - (nI k)) * nI 2 := hv_r_69.symm.trans (by first | rfl | simp only [zbgR_n (show (78 : Nat) ≠ 77 by decide) (show (78 : Nat) ≠ 107 by decide), zbeR_n (show (78 : Nat) ≠ 77 by decide) (show (78 : Nat) ≠ 107 by decide), zbgR_n (show (79 : Nat) ≠ 77 by decide) (show (79 : Nat) ≠ 107 by decide), zbeR_n (show (79 : Nat) ≠ 77 by decide) (show (79 : Nat) ≠ 107 by decide)])
    subst hv2_r_69
    rw [show (nI 12 :: ztR ((zbeR (nI 60) x).1 78 k)) = (nI 12 :: ztR (x.1 78 k)) from by simp only [zbgR_n (show (78 : Nat) ≠ 77 by decide) (show (78 : Nat) ≠ 107 by decide), zbeR_n (show (78 : Nat) ≠ 77 by decide) (show (78 : Nat) ≠ 107 by decide), zbgR_n (show (79 : Nat) ≠ 77 by decide) (show (79 : Nat) ≠ 107 by decide), zbeR_n (show (79 : Nat) ≠ 77 by decide) (show (79 : Nat) ≠ 107 by decide)]] at hI
    exact z_iret hx hb hr hlocks hI (⟨by unfold zeR; rw [if_neg (by rw [q6_5]; decide), if_neg (by rw [q6_5]; decide), if_pos q6_5]; try rfl, by unfold zwR; rw [if_neg (by rw [q6_5]; decide), if_neg (by rw [q6_5]; decide), if_pos q6_5]⟩) dX12_tellsAct_72
  by_cases q6_6 : (x.1 78 k) = (nI 6)
  · skip
    refine lv_tableIn (off := 30) (tgt := 36) hx hb dX12_tellsAct_6 (by rw [q6_6]; decide) (by rw [q6_6]; decide) (by rw [q6_6]; rfl) (by decide) ?_
    refine lv_aload_n hx hb dX12_tellsAct_36 rfl (lv_at hl 0 rfl) ?_
    refine lv_bipush (v := (nI 40)) hx hb dX12_tellsAct_37 rfl ?_
    refine z_callv (va_runV (As := [.int (nI 40)]) (rest := []) ⟨hx, hb, hml, hown, hts⟩ ((c_X12_body l hG x (nI 40) (zRn_m hrn (by have h91 := zsR_L (x.1 78 k); have h92 := ztR_L (x.1 78 k); (try simp only [List.length_cons, List.length_nil, List.length_append]); omega))) A) (cwV 1 hts gX12_tellsAct_X12_body rfl rfl rfl (by decide +kernel) ⟨Nat.le_of_ble_eq_true rfl, Nat.le_of_ble_eq_true rfl⟩) (z_pV hI hK hN (z_recv hK hI (zo77 hG) rfl)) rfl rfl hl.1 rfl (lv_room (Nat.le_of_ble_eq_true rfl)) dX12_tellsAct_39 ⟨Nat.zero_le _, Nat.zero_le _⟩) hI (fun u H locs hw hI => ?_)
    obtain rfl := hw
    refine lv_aload_n hx hb dX12_tellsAct_42 rfl (lv_at hl 0 rfl) ?_
    refine lv_iload_n hx hb dX12_tellsAct_43 rfl (lv_at hl 1 rfl) ?_
    refine lv_iload_n hx hb dX12_tellsAct_44 rfl (lv_at hl 2 rfl) ?_
    refine z_calli (va_runV (As := [.int (nI k), .int w]) (rest := []) ⟨hx, hb, hml, hown, hts⟩ ((c_X12_pupilTells l hG (zbeR (nI 40) x) k w hk8 (zRn_m (zRn_e _ hrn) (by have h91 := zsR_L (x.1 78 k); have h92 := ztR_L (x.1 78 k); (try simp only [List.length_cons, List.length_nil, List.length_append]); omega))) A) (cwV 2 hts gX12_tellsAct_X12_pupilTells rfl rfl rfl (by decide +kernel) ⟨Nat.le_of_ble_eq_true rfl, Nat.le_of_ble_eq_true rfl⟩) (z_pV hI hK hN (z_recv hK hI (zo77 hG) rfl)) rfl rfl hl.1 rfl (lv_room (Nat.le_of_ble_eq_true rfl)) dX12_tellsAct_45 ⟨Nat.zero_le _, Nat.zero_le _⟩) hI (fun r_45 u H locs hw hI => ?_)
    obtain ⟨rfl, hv_r_45⟩ := hw
    have hv2_r_45 : r_45 = zuR (x.1 78 k) (nI k) (x.1 79 k) w * nI 2 := hv_r_45.symm.trans (by first | rfl | simp only [zbgR_n (show (78 : Nat) ≠ 77 by decide) (show (78 : Nat) ≠ 107 by decide), zbeR_n (show (78 : Nat) ≠ 77 by decide) (show (78 : Nat) ≠ 107 by decide), zbgR_n (show (79 : Nat) ≠ 77 by decide) (show (79 : Nat) ≠ 107 by decide), zbeR_n (show (79 : Nat) ≠ 77 by decide) (show (79 : Nat) ≠ 107 by decide)])
    subst hv2_r_45
    rw [show (nI 12 :: ztR ((zbeR (nI 40) x).1 78 k)) = (nI 12 :: ztR (x.1 78 k)) from by simp only [zbgR_n (show (78 : Nat) ≠ 77 by decide) (show (78 : Nat) ≠ 107 by decide), zbeR_n (show (78 : Nat) ≠ 77 by decide) (show (78 : Nat) ≠ 107 by decide), zbgR_n (show (79 : Nat) ≠ 77 by decide) (show (79 : Nat) ≠ 107 by decide), zbeR_n (show (79 : Nat) ≠ 77 by decide) (show (79 : Nat) ≠ 107 by decide)]] at hI
    refine lv_istore_n (lv' := [(3, .int (zuR (x.1 78 k) (nI k) (x.1 79 k) w * nI 2)), (0, .ref (za G 77)), (1, .int (nI k)), (2, .int w)]) hx hb dX12_tellsAct_48 rfl hl (by decide) rfl (fun ls hl => ?_)
    refine lv_iload_n hx hb dX12_tellsAct_49 rfl (lv_at hl 0 rfl) ?_
    refine lv_aload_n hx hb dX12_tellsAct_50 rfl (lv_at hl 1 rfl) ?_
    refine lv_iload_n hx hb dX12_tellsAct_51 rfl (lv_at hl 2 rfl) ?_
    refine lv_iconst (v := (nI 1)) hx hb dX12_tellsAct_52 rfl ?_
    refine z_calli (va_runV (As := [.int (nI k), .int (nI 1)]) (rest := [.int (zuR (x.1 78 k) (nI k) (x.1 79 k) w * nI 2)]) ⟨hx, hb, hml, hown, hts⟩ ((c_X12_talksAct l hG (zbgR (nI 12 :: ztR (x.1 78 k)) (zbeR (nI 40) x)) k (nI 1) hk8 (zRn_m (zRn_l _ (zRn_e _ hrn)) (by have h91 := zsR_L (x.1 78 k); have h92 := ztR_L (x.1 78 k); (try simp only [List.length_cons, List.length_nil, List.length_append]); omega))) A) (cwV 2 hts gX12_tellsAct_X12_talksAct rfl rfl rfl (by decide +kernel) ⟨Nat.le_of_ble_eq_true rfl, Nat.le_of_ble_eq_true rfl⟩) (z_pV hI hK hN (z_recv hK hI (zo77 hG) rfl)) rfl rfl hl.1 rfl (lv_room (Nat.le_of_ble_eq_true rfl)) dX12_tellsAct_53 ⟨Nat.zero_le _, Nat.zero_le _⟩) hI (fun r_53 u H locs hw hI => ?_)
    obtain ⟨rfl, hv_r_53⟩ := hw
    have hv2_r_53 : r_53 = zuR (x.1 78 k) (nI k) (x.1 79 k) (nI 1) := hv_r_53.symm.trans (by first | rfl | simp only [zbgR_n (show (78 : Nat) ≠ 77 by decide) (show (78 : Nat) ≠ 107 by decide), zbeR_n (show (78 : Nat) ≠ 77 by decide) (show (78 : Nat) ≠ 107 by decide), zbgR_n (show (79 : Nat) ≠ 77 by decide) (show (79 : Nat) ≠ 107 by decide), zbeR_n (show (79 : Nat) ≠ 77 by decide) (show (79 : Nat) ≠ 107 by decide)])
    subst hv2_r_53
    rw [show (ztR ((zbgR (nI 12 :: ztR (x.1 78 k)) (zbeR (nI 40) x)).1 78 k)) = (ztR (x.1 78 k)) from by simp only [zbgR_n (show (78 : Nat) ≠ 77 by decide) (show (78 : Nat) ≠ 107 by decide), zbeR_n (show (78 : Nat) ≠ 77 by decide) (show (78 : Nat) ≠ 107 by decide), zbgR_n (show (79 : Nat) ≠ 77 by decide) (show (79 : Nat) ≠ 107 by decide), zbeR_n (show (79 : Nat) ≠ 77 by decide) (show (79 : Nat) ≠ 107 by decide)]] at hI
    refine lv_iadd hx hb dX12_tellsAct_56 ?_
    exact z_iret hx hb hr hlocks hI (⟨by unfold zeR; rw [if_neg (by rw [q6_6]; decide), if_pos q6_6]; exact zbgR_a (nI 40 :: nI 12 :: ztR (x.1 78 k)) (ztR (x.1 78 k)) x, by unfold zwR; rw [if_neg (by rw [q6_6]; decide), if_pos q6_6]⟩) dX12_tellsAct_57
  refine lv_tableOut (tgt := 73) hx hb dX12_tellsAct_6 (by have := lv_neT (a := 3) q6_3 rfl; have := lv_neT (a := 4) q6_4 rfl; have := lv_neT (a := 5) q6_5 rfl; have := lv_neT (a := 6) q6_6 rfl; omega) (by decide) ?_
  refine lv_aload_n hx hb dX12_tellsAct_73 rfl (lv_at hl 0 rfl) ?_
  refine lv_iload_n hx hb dX12_tellsAct_74 rfl (lv_at hl 1 rfl) ?_
  refine lv_iload_n hx hb dX12_tellsAct_75 rfl (lv_at hl 2 rfl) ?_
  refine z_calli (va_runV (As := [.int (nI k), .int w]) (rest := []) ⟨hx, hb, hml, hown, hts⟩ ((c_X12_pupilTells l hG x k w hk8 (zRn_m hrn (by have h91 := zsR_L (x.1 78 k); have h92 := ztR_L (x.1 78 k); (try simp only [List.length_cons, List.length_nil, List.length_append]); omega))) A) (cwV 2 hts gX12_tellsAct_X12_pupilTells rfl rfl rfl (by decide +kernel) ⟨Nat.le_of_ble_eq_true rfl, Nat.le_of_ble_eq_true rfl⟩) (z_pV hI hK hN (z_recv hK hI (zo77 hG) rfl)) rfl rfl hl.1 rfl (lv_room (Nat.le_of_ble_eq_true rfl)) dX12_tellsAct_76 ⟨Nat.zero_le _, Nat.zero_le _⟩) hI (fun r_76 u H locs hw hI => ?_)
  obtain ⟨rfl, hv_r_76⟩ := hw
  subst hv_r_76
  exact z_iret hx hb hr hlocks hI (⟨by unfold zeR; rw [if_neg q6_3, if_neg q6_6, if_neg q6_5]; try rfl, by unfold zwR; rw [if_neg q6_3, if_neg q6_6, if_neg q6_5]⟩) dX12_tellsAct_79
