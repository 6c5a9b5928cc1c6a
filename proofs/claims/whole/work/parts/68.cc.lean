set_option maxHeartbeats 1000000 in
set_option maxRecDepth 100000 in
theorem c_X12_isDigit (l : Launch) {G : zG} (hG : zOK G) (x : zX) (p1 F : Nat) (hat : x.1 77 15 = nI p1) (hfd : x.1 77 14 = nI F) (hF : F ≤ 100) (hp1 : p1 ≤ 100) : zMi l yX12_isDigit wsX12_isDigit { frames := 1, cells := 0, slots := 0, locals := 23 } G [.ref (za G 77)] x (fun (r : Int32) (u : zX) => x = u ∧ (if ¬ (if p1 < F then x.1 88 p1 else -1) < nI 48 ∧ ¬ nI 57 < (if p1 < F then x.1 88 p1 else -1) then nI 1 else nI 0) = r) := by
  intro A
  refine zBody (cc := cX12_isDigit) (maxL := 1) (ret := (some .boolean)) (by decide) rfl (Nat.le_of_ble_eq_true rfl) ?_
  intro p e s m below meth c hx hb hml hown hts hr hlocks hK hN hI ls hl
  have hown : s.vm.findClass RX12 = some m.cls := hown
  have hl : lv_has ls 1 [(0, .ref (za G 77))] := hl
  refine lv_aload_n hx hb dX12_isDigit_0 rfl (lv_at hl 0 rfl) ?_
  refine lv_aload_n hx hb dX12_isDigit_1 rfl (lv_at hl 0 rfl) ?_
  refine z_calli (va_runV (As := []) (rest := [.ref (za G 77)]) ⟨hx, hb, hml, hown, hts⟩ ((c_X12_next l hG x p1 F hat hfd hF hp1) A) (cwV 0 hts gX12_isDigit_X12_next rfl rfl rfl (by decide +kernel) ⟨Nat.le_of_ble_eq_true rfl, Nat.le_of_ble_eq_true rfl⟩) (z_pV hI hK hN (z_recv hK hI (zo77 hG) rfl)) rfl rfl hl.1 rfl (lv_room (Nat.le_of_ble_eq_true rfl)) dX12_isDigit_2 ⟨Nat.zero_le _, Nat.zero_le _⟩) hI (fun r_2 u H locs hw hI => ?_)
  obtain ⟨rfl, rfl⟩ := hw
  refine lv_bipush (v := (nI 48)) hx hb dX12_isDigit_5 rfl ?_
  refine lv_bipush (v := (nI 57)) hx hb dX12_isDigit_7 rfl ?_
  refine z_calli (va_runV (As := [.int (if p1 < F then x.1 88 p1 else -1), .int (nI 48), .int (nI 57)]) (rest := []) ⟨hx, hb, hml, hown, hts⟩ ((c_X12_in l hG x (if p1 < F then x.1 88 p1 else -1) (nI 48) (nI 57)) A) (cwV 3 hts gX12_isDigit_X12_in rfl rfl rfl (by decide +kernel) ⟨Nat.le_of_ble_eq_true rfl, Nat.le_of_ble_eq_true rfl⟩) (z_pV hI hK hN (z_recv hK hI (zo77 hG) rfl)) rfl rfl hl.1 rfl (lv_room (Nat.le_of_ble_eq_true rfl)) dX12_isDigit_9 ⟨Nat.zero_le _, Nat.zero_le _⟩) hI (fun r_9 u H locs hw hI => ?_)
  obtain ⟨rfl, rfl⟩ := hw
  exact z_zret hx hb hr hlocks hI (zb01 inferInstance) (⟨rfl, rfl⟩) dX12_isDigit_12
set_option maxHeartbeats 1000000 in
set_option maxRecDepth 100000 in
theorem c_X12_takes (l : Launch) {G : zG} (hG : zOK G) (x : zX) (p1 F : Nat) (sg : Int32) (hat : x.1 77 15 = nI p1) (hfd : x.1 77 14 = nI F) (hF : F ≤ 100) (hp1 : p1 ≤ 100) : zMi l yX12_takes wsX12_takes { frames := 1, cells := 0, slots := 0, locals := 20 } G [.ref (za G 77), .int sg] x (fun (r : Int32) (u : zX) => ((if p1 < F then x.1 88 p1 else -1) = sg ∧ zsI x 77 15 (nI (p1 + 1)) = u ∧ nI 1 = r) ∨ (¬ (if p1 < F then x.1 88 p1 else -1) = sg ∧ x = u ∧ nI 0 = r)) := by
  intro A
  refine zBody (cc := cX12_takes) (maxL := 2) (ret := (some .boolean)) (by decide) rfl (Nat.le_of_ble_eq_true rfl) ?_
  intro p e s m below meth c hx hb hml hown hts hr hlocks hK hN hI ls hl
  have hown : s.vm.findClass RX12 = some m.cls := hown
  have hl : lv_has ls 2 [(0, .ref (za G 77)), (1, .int sg)] := hl
  have hin12 : ∀ w ∈ wsX120, w ∈ wsX12_takes := (fun _ h => List.mem_cons_of_mem _ (List.mem_append_right _ (h)))
  have wF57 := hts (.fieldLink RX12 57 "WhoSitsByModel" "at" "I") (z_mem 1 rfl)
  refine lv_aload_n hx hb dX12_takes_0 rfl (lv_at hl 0 rfl) ?_
  refine z_calli (va_runV (As := []) (rest := []) ⟨hx, hb, hml, hown, hts⟩ ((c_X12_next l hG x p1 F hat hfd hF hp1) A) (cwV 0 hts gX12_takes_X12_next rfl rfl rfl (by decide +kernel) ⟨Nat.le_of_ble_eq_true rfl, Nat.le_of_ble_eq_true rfl⟩) (z_pV hI hK hN (z_recv hK hI (zo77 hG) rfl)) rfl rfl hl.1 rfl (lv_room (Nat.le_of_ble_eq_true rfl)) dX12_takes_1 ⟨Nat.zero_le _, Nat.zero_le _⟩) hI (fun r_1 u H locs hw hI => ?_)
  obtain ⟨rfl, rfl⟩ := hw
  refine lv_iload_n hx hb dX12_takes_4 rfl (lv_at hl 1 rfl) ?_
  refine lv_icmp_eq (tgt := 10) hx hb dX12_takes_5 (by decide) (fun c_5 => ?_) (fun c_5 => ?_)
  · skip
    refine lv_aload_n hx hb dX12_takes_10 rfl (lv_at hl 0 rfl) ?_
    refine lv_dup hx hb dX12_takes_11 rfl ?_
    refine z_get (C := RX12) (T := TX12) (N := 51) (ci := 12) (v := .int (nI p1)) hx hb hts hin12 hown hK hI (zo77 hG) rfl 15 (by decide) wF57 (fun _ h9 => h9) (congrArg (fun q => some (Value.int q)) hat) dX12_takes_12 ?_
    refine lv_iconst (v := (nI 1)) hx hb dX12_takes_15 rfl ?_
    refine z_iadd (v := (nI (p1 + 1))) hx hb (nI_add _ _) dX12_takes_16 ?_
    refine z_putI (C := RX12) (T := TX12) (N := 51) (ci := 12) (ty := .int) hx hb hts hin12 tyX12 tyX12_ok nmX12 hown hK hI (zo77 hG) rfl 15 (by decide) wF57 (fun _ h9 => h9) rfl (fun _ _ => rfl) (by decide +kernel) rfl rfl (fun _ _ => Nat.le_of_ble_eq_true rfl) dX12_takes_17 (fun H locs hI => ?_)
    refine lv_iconst (v := (nI 1)) hx hb dX12_takes_20 rfl ?_
    exact z_zret hx hb hr hlocks hI (Or.inr rfl) (Or.inl ⟨c_5, rfl, rfl⟩) dX12_takes_21
  · skip
    refine lv_iconst (v := (nI 0)) hx hb dX12_takes_8 rfl ?_
    exact z_zret hx hb hr hlocks hI (Or.inl rfl) (Or.inr ⟨c_5, rfl, rfl⟩) dX12_takes_9
set_option maxHeartbeats 1000000 in
set_option maxRecDepth 100000 in
theorem c_X12_put (l : Launch) {G : zG} (hG : zOK G) (x : zX) (s1 : Nat) (v : Int32) (hsg : x.1 77 25 = nI s1) (hs9 : s1 < 600) : zMv l yX12_put wsX12_put { frames := 0, cells := 0, slots := 0, locals := 0 } G [.ref (za G 77), .int v] x (fun (u : zX) => zsI (zsI x 94 s1 v) 77 25 (nI (s1 + 1)) = u) := by
  intro A
  refine zBody (cc := cX12_put) (maxL := 2) (ret := none) (by decide) rfl (Nat.le_of_ble_eq_true rfl) ?_
  intro p e s m below meth c hx hb hml hown hts hr hlocks hK hN hI ls hl
  have hown : s.vm.findClass RX12 = some m.cls := hown
  have hl : lv_has ls 2 [(0, .ref (za G 77)), (1, .int v)] := hl
  have hin12 : ∀ w ∈ wsX120, w ∈ wsX12_put := (fun _ h => List.mem_cons_of_mem _ (List.mem_append_right _ (h)))
  have wF81 := hts (.fieldLink RX12 81 "WhoSitsByModel" "sign" "[I") (z_mem 1 rfl)
  have wF87 := hts (.fieldLink RX12 87 "WhoSitsByModel" "signs" "I") (z_mem 2 rfl)
  refine lv_aload_n hx hb dX12_put_0 rfl (lv_at hl 0 rfl) ?_
  refine z_get (C := RX12) (T := TX12) (N := 51) (ci := 12) (v := .ref (za G 94)) hx hb hts hin12 hown hK hI (zo77 hG) rfl 23 (by decide) wF81 (fun _ h9 => h9) rfl dX12_put_1 ?_
  refine lv_aload_n hx hb dX12_put_4 rfl (lv_at hl 0 rfl) ?_
  refine z_get (C := RX12) (T := TX12) (N := 51) (ci := 12) (v := .int (nI s1)) hx hb hts hin12 hown hK hI (zo77 hG) rfl 25 (by decide) wF87 (fun _ h9 => h9) (congrArg (fun q => some (Value.int q)) hsg) dX12_put_5 ?_
  refine lv_iload_n hx hb dX12_put_8 rfl (lv_at hl 1 rfl) ?_
  refine z_iast (y := v) hx hb hK hI (zo94 hG) s1 rfl (by omega) (by decide) dX12_put_9 (fun H locs hI => ?_)
  refine lv_aload_n hx hb dX12_put_10 rfl (lv_at hl 0 rfl) ?_
  refine lv_dup hx hb dX12_put_11 rfl ?_
  refine z_get (C := RX12) (T := TX12) (N := 51) (ci := 12) (v := .int (nI s1)) hx hb hts hin12 hown hK hI (zo77 hG) rfl 25 (by decide) wF87 (fun _ h9 => h9) (congrArg (fun q => some (Value.int q)) hsg) dX12_put_12 ?_
  refine lv_iconst (v := (nI 1)) hx hb dX12_put_15 rfl ?_
  refine z_iadd (v := (nI (s1 + 1))) hx hb (nI_add _ _) dX12_put_16 ?_
  refine z_putI (C := RX12) (T := TX12) (N := 51) (ci := 12) (ty := .int) hx hb hts hin12 tyX12 tyX12_ok nmX12 hown hK hI (zo77 hG) rfl 25 (by decide) wF87 (fun _ h9 => h9) rfl (fun _ _ => rfl) (by decide +kernel) rfl rfl (fun _ _ => Nat.le_of_ble_eq_true rfl) dX12_put_17 (fun H locs hI => ?_)
  exact z_vret hx hb hr hlocks hI (rfl) dX12_put_20
set_option maxHeartbeats 1000000 in
set_option maxRecDepth 100000 in
theorem c_X5_wordAhead (l : Launch) {G : zG} (hG : zOK G) (x : zX) (b L p1 : Nat) (hb0 : zRm b) (hL : x.1 b 8 = nI L) (hL9 : L ≤ 100) (hat : x.1 b 9 = nI p1) (hp1 : p1 ≤ 100) : zMi l yX5_wordAhead wsX5_wordAhead { frames := 1, cells := 0, slots := 0, locals := 21 } G [.ref (za G b)] x (fun (r : Int32) (u : zX) => x = u ∧ (if zby x b L p1 = nI 98 then nI 2 else if zby x b L p1 = nI 104 then nI 3 else if zby x b L p1 = nI 108 then (if zby x b L (p1 + 1) = nI 111 then nI 1 else nI 0) else -1) = r) := by
  intro A
  refine zBody (cc := cX5_wordAhead) (maxL := 1) (ret := (some .int)) (by decide) rfl (Nat.le_of_ble_eq_true rfl) ?_
  intro p e s m below meth c hx hb hml hown hts hr hlocks hK hN hI ls hl
  have hown : s.vm.findClass RX5 = some m.cls := hown
  have hl : lv_has ls 1 [(0, .ref (za G b))] := hl
  have hin5 : ∀ w ∈ wsX50, w ∈ wsX5_wordAhead := (fun _ h => List.mem_cons_of_mem _ (List.mem_append_right _ (h)))
  have wF53 := hts (.fieldLink RX5 53 "WhoSitsBy$Room" "at" "I") (z_mem 1 rfl)
  refine lv_aload_n hx hb dX5_wordAhead_0 rfl (lv_at hl 0 rfl) ?_
  refine lv_aload_n hx hb dX5_wordAhead_1 rfl (lv_at hl 0 rfl) ?_
  refine z_get (C := RX5) (T := TX5) (N := 11) (ci := 5) (v := .int (nI p1)) hx hb hts hin5 hown hK hI (zor hG hb0) rfl 9 (by decide) wF53 (fun _ h9 => h9) (congrArg (fun q => some (Value.int q)) hat) dX5_wordAhead_2 ?_
  refine z_calli (va_runV (As := [.int (nI p1)]) (rest := []) ⟨hx, hb, hml, hown, hts⟩ ((c_X5_byteAt l hG x b L p1 hb0 hL hL9 (by omega)) A) (cwV 1 hts gX5_wordAhead_X5_byteAt rfl rfl rfl (by decide +kernel) ⟨Nat.le_of_ble_eq_true rfl, Nat.le_of_ble_eq_true rfl⟩) (z_pV hI hK hN (z_recv hK hI (zor hG hb0) rfl)) rfl rfl hl.1 rfl (lv_room (Nat.le_of_ble_eq_true rfl)) dX5_wordAhead_5 ⟨Nat.zero_le _, Nat.zero_le _⟩) hI (fun r_5 u H locs hw hI => ?_)
  obtain ⟨rfl, rfl⟩ := hw
  by_cases q8_98 : (zby x b L p1) = (nI 98)
  · skip
    refine lv_lookup (off := 36) (tgt := 44) hx hb dX5_wordAhead_8 (by decide) (by rw [q8_98]; decide) (by decide) ?_
    refine lv_iconst (v := (nI 2)) hx hb dX5_wordAhead_44 rfl ?_
    exact z_iret hx hb hr hlocks hI (⟨rfl, if_pos q8_98⟩) dX5_wordAhead_45
  by_cases q8_104 : (zby x b L p1) = (nI 104)
  · skip
    refine lv_lookup (off := 38) (tgt := 46) hx hb dX5_wordAhead_8 (by decide) (by rw [q8_104]; decide) (by decide) ?_
    refine lv_iconst (v := (nI 3)) hx hb dX5_wordAhead_46 rfl ?_
    exact z_iret hx hb hr hlocks hI (⟨rfl, (if_neg q8_98).trans (if_pos q8_104)⟩) dX5_wordAhead_47
  by_cases q8_108 : (zby x b L p1) = (nI 108)
  · skip
    refine lv_lookup (off := 40) (tgt := 48) hx hb dX5_wordAhead_8 (by decide) (by rw [q8_108]; decide) (by decide) ?_
    refine lv_aload_n hx hb dX5_wordAhead_48 rfl (lv_at hl 0 rfl) ?_
    refine lv_aload_n hx hb dX5_wordAhead_49 rfl (lv_at hl 0 rfl) ?_
    refine z_get (C := RX5) (T := TX5) (N := 11) (ci := 5) (v := .int (nI p1)) hx hb hts hin5 hown hK hI (zor hG hb0) rfl 9 (by decide) wF53 (fun _ h9 => h9) (congrArg (fun q => some (Value.int q)) hat) dX5_wordAhead_50 ?_
    refine lv_iconst (v := (nI 1)) hx hb dX5_wordAhead_53 rfl ?_
    refine z_iadd (v := (nI (p1 + 1))) hx hb (nI_add _ _) dX5_wordAhead_54 ?_
    refine z_calli (va_runV (As := [.int (nI (p1 + 1))]) (rest := []) ⟨hx, hb, hml, hown, hts⟩ ((c_X5_byteAt l hG x b L (p1 + 1) hb0 hL hL9 (by omega)) A) (cwV 1 hts gX5_wordAhead_X5_byteAt rfl rfl rfl (by decide +kernel) ⟨Nat.le_of_ble_eq_true rfl, Nat.le_of_ble_eq_true rfl⟩) (z_pV hI hK hN (z_recv hK hI (zor hG hb0) rfl)) rfl rfl hl.1 rfl (lv_room (Nat.le_of_ble_eq_true rfl)) dX5_wordAhead_55 ⟨Nat.zero_le _, Nat.zero_le _⟩) hI (fun r_55 u H locs hw hI => ?_)
    obtain ⟨rfl, rfl⟩ := hw
    refine lv_bipush (v := (nI 111)) hx hb dX5_wordAhead_58 rfl ?_
    refine lv_icmp_ne (tgt := 67) hx hb dX5_wordAhead_60 (by decide) (fun c_60 => ?_) (fun c_60 => ?_)
    · skip
      refine lv_iconst (v := (nI 0)) hx hb dX5_wordAhead_67 rfl ?_
      exact z_iret hx hb hr hlocks hI (⟨rfl, (if_neg q8_98).trans ((if_neg q8_104).trans ((if_pos q8_108).trans (if_neg c_60)))⟩) dX5_wordAhead_68
    · skip
      refine lv_iconst (v := (nI 1)) hx hb dX5_wordAhead_63 rfl ?_
      refine lv_goto (tgt := 68) hx hb dX5_wordAhead_64 (by decide) ?_
      exact z_iret hx hb hr hlocks hI (⟨rfl, (if_neg q8_98).trans ((if_neg q8_104).trans ((if_pos q8_108).trans (if_pos c_60)))⟩) dX5_wordAhead_68
  refine lv_lookup (off := 61) (tgt := 69) hx hb dX5_wordAhead_8 (by decide) ((lv_osw (k := nI 98) q8_98 rfl).trans ((lv_osw (k := nI 104) q8_104 rfl).trans ((lv_osw (k := nI 108) q8_108 rfl).trans (rfl)))) (by decide) ?_
  refine lv_iconst (v := (-1)) hx hb dX5_wordAhead_69 rfl ?_
  exact z_iret hx hb hr hlocks hI (⟨rfl, (if_neg q8_98).trans ((if_neg q8_104).trans (if_neg q8_108))⟩) dX5_wordAhead_70
