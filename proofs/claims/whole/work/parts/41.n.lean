set_option maxHeartbeats 1000000 in
set_option maxRecDepth 100000 in
theorem c_X12_act (l : Launch) {G : zG} (hG : zOK G) (x : zX) (N : Nat) (q a w : Int32) (hr0 : zRef x N) : zMi l yX12_act wsX12_act { frames := 8, cells := 0, slots := 0, locals := 177 } G [.ref (za G 77), .int q, .int a, .int w] x (fun (r : Int32) (u : zX) => (¬ (zin N q ∧ ¬ a < nI 0 ∧ ¬ nI 2 < a) ∧ (zsI x 77 45 (nI 0)) = u ∧ nI 0 = r) ∨ ((zin N q ∧ ¬ a < nI 0 ∧ ¬ nI 2 < a) ∧ ∃ kb, kb < N ∧ q = nI kb ∧ ((a = 0 ∧ zbgR (zsR (x.1 78 kb)) (zsI x 77 45 (nI 0)) = u ∧ zvR (x.1 78 kb) (nI kb) (x.1 79 kb) w = r) ∨ (¬ a = 0 ∧ a = nI 1 ∧ zbgR (ztR (x.1 78 kb)) (zsI x 77 45 (nI 0)) = u ∧ zuR (x.1 78 kb) (nI kb) (x.1 79 kb) w = r) ∨ (¬ a = 0 ∧ ¬ a = nI 1 ∧ zbgR (zeR (x.1 78 kb)) (zsI x 77 45 (nI 0)) = u ∧ zwR (x.1 78 kb) (nI kb) (x.1 79 kb) w = r)))) := by
  intro A
  refine zBody (cc := cX12_act) (maxL := 4) (ret := (some .int)) (by decide) rfl (Nat.le_of_ble_eq_true rfl) ?_
  intro p e s m below meth c hx hb hml hown hts hr hlocks hK hN hI ls hl
  have hown : s.vm.findClass RX12 = some m.cls := hown
  have hl : lv_has ls 4 [(0, .ref (za G 77)), (1, .int q), (2, .int a), (3, .int w)] := hl
  have hin12 : ∀ w ∈ wsX120, w ∈ wsX12_act := (fun _ h => List.mem_cons_of_mem _ (List.mem_append_right _ (h)))
  have wF148 := hts (.fieldLink RX12 148 "WhoSitsByModel" "ran" "I") (z_mem 1 rfl)
  have h8 := hr0.1
  have hrn : zRn (zsI x 77 45 (nI 0)) 0 := ⟨0, Nat.le_refl 0, rfl⟩
  refine lv_aload_n hx hb dX12_act_0 rfl (lv_at hl 0 rfl) ?_
  refine lv_iconst (v := (nI 0)) hx hb dX12_act_1 rfl ?_
  refine z_putI (C := RX12) (T := TX12) (N := 51) (ci := 12) (ty := .int) hx hb hts hin12 tyX12 tyX12_ok nmX12 hown hK hI (zo77 hG) rfl 45 (by decide) wF148 (fun _ h9 => h9) rfl (fun _ _ => rfl) (by decide +kernel) rfl rfl (fun _ _ => Nat.le_of_ble_eq_true rfl) dX12_act_2 (fun H locs hI => ?_)
  refine lv_aload_n hx hb dX12_act_5 rfl (lv_at hl 0 rfl) ?_
  refine lv_iload_n hx hb dX12_act_6 rfl (lv_at hl 1 rfl) ?_
  refine z_calli (va_runV (As := [.int q]) (rest := []) ⟨hx, hb, hml, hown, hts⟩ ((c_X12_isPupil l hG (zsI x 77 45 (nI 0)) N q (show zRef (zsI x 77 45 (nI 0)) N from hr0)) A) (cwV 1 hts gX12_act_X12_isPupil rfl rfl rfl (by decide +kernel) ⟨Nat.le_of_ble_eq_true rfl, Nat.le_of_ble_eq_true rfl⟩) (z_pV hI hK hN (z_recv hK hI (zo77 hG) rfl)) rfl rfl hl.1 rfl (lv_room (Nat.le_of_ble_eq_true rfl)) dX12_act_7 ⟨Nat.zero_le _, Nat.zero_le _⟩) hI (fun r_7 u H locs hw hI => ?_)
  obtain ⟨rfl, rfl⟩ := hw
  refine lv_if_eq (tgt := 23) hx hb dX12_act_10 (by decide) (fun c_10 => ?_) (fun c_10 => ?_)
  · skip
    rw [zb_0] at c_10
    refine lv_iconst (v := (nI 0)) hx hb dX12_act_23 rfl ?_
    exact z_iret hx hb hr hlocks hI (Or.inl ⟨fun h => c_10 h.1, rfl, rfl⟩) dX12_act_24
  · skip
    rw [zb_0, Classical.not_not] at c_10
    refine lv_aload_n hx hb dX12_act_13 rfl (lv_at hl 0 rfl) ?_
    refine lv_iload_n hx hb dX12_act_14 rfl (lv_at hl 2 rfl) ?_
    refine lv_iconst (v := (nI 0)) hx hb dX12_act_15 rfl ?_
    refine lv_iconst (v := (nI 2)) hx hb dX12_act_16 rfl ?_
    refine z_calli (va_runV (As := [.int a, .int (nI 0), .int (nI 2)]) (rest := []) ⟨hx, hb, hml, hown, hts⟩ ((c_X12_in l hG (zsI x 77 45 (nI 0)) a (nI 0) (nI 2)) A) (cwV 3 hts gX12_act_X12_in rfl rfl rfl (by decide +kernel) ⟨Nat.le_of_ble_eq_true rfl, Nat.le_of_ble_eq_true rfl⟩) (z_pV hI hK hN (z_recv hK hI (zo77 hG) rfl)) rfl rfl hl.1 rfl (lv_room (Nat.le_of_ble_eq_true rfl)) dX12_act_17 ⟨Nat.zero_le _, Nat.zero_le _⟩) hI (fun r_17 u H locs hw hI => ?_)
    obtain ⟨rfl, rfl⟩ := hw
    refine lv_if_ne (tgt := 25) hx hb dX12_act_20 (by decide) (fun c_20 => ?_) (fun c_20 => ?_)
    · skip
      rw [zb_0, Classical.not_not] at c_20
      obtain ⟨k, hk, rfl⟩ := z_ix c_10.1 c_10.2 (by omega)
      have hk8 : k < 8 := by omega
      refine lv_iload_n hx hb dX12_act_25 rfl (lv_at hl 2 rfl) ?_
      refine lv_if_ne (tgt := 38) hx hb dX12_act_26 (by decide) (fun c_26 => ?_) (fun c_26 => ?_)
      · skip
        refine lv_iload_n hx hb dX12_act_38 rfl (lv_at hl 2 rfl) ?_
        refine lv_iconst (v := (nI 1)) hx hb dX12_act_39 rfl ?_
        refine lv_icmp_ne (tgt := 52) hx hb dX12_act_40 (by decide) (fun c_40 => ?_) (fun c_40 => ?_)
        · skip
          refine lv_aload_n hx hb dX12_act_52 rfl (lv_at hl 0 rfl) ?_
          refine lv_iload_n hx hb dX12_act_53 rfl (lv_at hl 1 rfl) ?_
          refine lv_iload_n hx hb dX12_act_54 rfl (lv_at hl 3 rfl) ?_
          refine z_calli (va_runV (As := [.int (nI k), .int w]) (rest := []) ⟨hx, hb, hml, hown, hts⟩ ((c_X12_tellsAct l hG (zsI x 77 45 (nI 0)) k w hk8 (zRn_m hrn (by have h91 := zsR_L (x.1 78 k); have h92 := ztR_L (x.1 78 k); (try simp only [List.length_cons, List.length_nil, List.length_append]); omega))) A) (cwV 2 hts gX12_act_X12_tellsAct rfl rfl rfl (by decide +kernel) ⟨Nat.le_of_ble_eq_true rfl, Nat.le_of_ble_eq_true rfl⟩) (z_pV hI hK hN (z_recv hK hI (zo77 hG) rfl)) rfl rfl hl.1 rfl (lv_room (Nat.le_of_ble_eq_true rfl)) dX12_act_55 ⟨Nat.zero_le _, Nat.zero_le _⟩) hI (fun r_55 u H locs hw hI => ?_)
          obtain ⟨rfl, hv_r_55⟩ := hw
          have hv2_r_55 : r_55 = zwR (x.1 78 k) (nI k) (x.1 79 k) w := hv_r_55.symm.trans (by first | rfl | simp only [zbgR_n (show (78 : Nat) ≠ 77 by decide) (show (78 : Nat) ≠ 107 by decide), zbeR_n (show (78 : Nat) ≠ 77 by decide) (show (78 : Nat) ≠ 107 by decide), zbgR_n (show (79 : Nat) ≠ 77 by decide) (show (79 : Nat) ≠ 107 by decide), zbeR_n (show (79 : Nat) ≠ 77 by decide) (show (79 : Nat) ≠ 107 by decide)])
          subst hv2_r_55
          rw [show (zeR ((zsI x 77 45 (nI 0)).1 78 k)) = (zeR (x.1 78 k)) from by first | rfl | simp only [zbgR_n (show (78 : Nat) ≠ 77 by decide) (show (78 : Nat) ≠ 107 by decide), zbeR_n (show (78 : Nat) ≠ 77 by decide) (show (78 : Nat) ≠ 107 by decide), zbgR_n (show (79 : Nat) ≠ 77 by decide) (show (79 : Nat) ≠ 107 by decide), zbeR_n (show (79 : Nat) ≠ 77 by decide) (show (79 : Nat) ≠ 107 by decide)]] at hI
          exact z_iret hx hb hr hlocks hI (Or.inr ⟨⟨c_10, c_20⟩, k, hk, rfl, Or.inr (Or.inr ⟨c_26, c_40, rfl, rfl⟩)⟩) dX12_act_58
        · skip
          refine lv_aload_n hx hb dX12_act_43 rfl (lv_at hl 0 rfl) ?_
          refine lv_iload_n hx hb dX12_act_44 rfl (lv_at hl 1 rfl) ?_
          refine lv_iload_n hx hb dX12_act_45 rfl (lv_at hl 3 rfl) ?_
          refine z_calli (va_runV (As := [.int (nI k), .int w]) (rest := []) ⟨hx, hb, hml, hown, hts⟩ ((c_X12_talksAct l hG (zsI x 77 45 (nI 0)) k w hk8 (zRn_m hrn (by have h91 := zsR_L (x.1 78 k); have h92 := ztR_L (x.1 78 k); (try simp only [List.length_cons, List.length_nil, List.length_append]); omega))) A) (cwV 2 hts gX12_act_X12_talksAct rfl rfl rfl (by decide +kernel) ⟨Nat.le_of_ble_eq_true rfl, Nat.le_of_ble_eq_true rfl⟩) (z_pV hI hK hN (z_recv hK hI (zo77 hG) rfl)) rfl rfl hl.1 rfl (lv_room (Nat.le_of_ble_eq_true rfl)) dX12_act_46 ⟨Nat.zero_le _, Nat.zero_le _⟩) hI (fun r_46 u H locs hw hI => ?_)
          obtain ⟨rfl, hv_r_46⟩ := hw
          have hv2_r_46 : r_46 = zuR (x.1 78 k) (nI k) (x.1 79 k) w := hv_r_46.symm.trans (by first | rfl | simp only [zbgR_n (show (78 : Nat) ≠ 77 by decide) (show (78 : Nat) ≠ 107 by decide), zbeR_n (show (78 : Nat) ≠ 77 by decide) (show (78 : Nat) ≠ 107 by decide), zbgR_n (show (79 : Nat) ≠ 77 by decide) (show (79 : Nat) ≠ 107 by decide), zbeR_n (show (79 : Nat) ≠ 77 by decide) (show (79 : Nat) ≠ 107 by decide)])
          subst hv2_r_46
          rw [show (ztR ((zsI x 77 45 (nI 0)).1 78 k)) = (ztR (x.1 78 k)) from by first | rfl | simp only [zbgR_n (show (78 : Nat) ≠ 77 by decide) (show (78 : Nat) ≠ 107 by decide), zbeR_n (show (78 : Nat) ≠ 77 by decide) (show (78 : Nat) ≠ 107 by decide), zbgR_n (show (79 : Nat) ≠ 77 by decide) (show (79 : Nat) ≠ 107 by decide), zbeR_n (show (79 : Nat) ≠ 77 by decide) (show (79 : Nat) ≠ 107 by decide)]] at hI
          refine lv_goto (tgt := 58) hx hb dX12_act_49 (by decide) ?_
          exact z_iret hx hb hr hlocks hI (Or.inr ⟨⟨c_10, c_20⟩, k, hk, rfl, Or.inr (Or.inl ⟨c_26, c_40, rfl, rfl⟩)⟩) dX12_act_58
      · skip
        refine lv_aload_n hx hb dX12_act_29 rfl (lv_at hl 0 rfl) ?_
        refine lv_iload_n hx hb dX12_act_30 rfl (lv_at hl 1 rfl) ?_
        refine lv_iload_n hx hb dX12_act_31 rfl (lv_at hl 3 rfl) ?_
        refine z_calli (va_runV (As := [.int (nI k), .int w]) (rest := []) ⟨hx, hb, hml, hown, hts⟩ ((c_X12_sitsAct l hG (zsI x 77 45 (nI 0)) k w hk8 (zRn_m hrn (by have h91 := zsR_L (x.1 78 k); have h92 := ztR_L (x.1 78 k); (try simp only [List.length_cons, List.length_nil, List.length_append]); omega))) A) (cwV 2 hts gX12_act_X12_sitsAct rfl rfl rfl (by decide +kernel) ⟨Nat.le_of_ble_eq_true rfl, Nat.le_of_ble_eq_true rfl⟩) (z_pV hI hK hN (z_recv hK hI (zo77 hG) rfl)) rfl rfl hl.1 rfl (lv_room (Nat.le_of_ble_eq_true rfl)) dX12_act_32 ⟨Nat.zero_le _, Nat.zero_le _⟩) hI (fun r_32 u H locs hw hI => ?_)
        obtain ⟨rfl, hv_r_32⟩ := hw
        have hv2_r_32 : r_32 = zvR (x.1 78 k) (nI k) (x.1 79 k) w := hv_r_32.symm.trans (by first | rfl | simp only [zbgR_n (show (78 : Nat) ≠ 77 by decide) (show (78 : Nat) ≠ 107 by decide), zbeR_n (show (78 : Nat) ≠ 77 by decide) (show (78 : Nat) ≠ 107 by decide), zbgR_n (show (79 : Nat) ≠ 77 by decide) (show (79 : Nat) ≠ 107 by decide), zbeR_n (show (79 : Nat) ≠ 77 by decide) (show (79 : Nat) ≠ 107 by decide)])
        subst hv2_r_32
        rw [show (zsR ((zsI x 77 45 (nI 0)).1 78 k)) = (zsR (x.1 78 k)) from by first | rfl | simp only [zbgR_n (show (78 : Nat) ≠ 77 by decide) (show (78 : Nat) ≠ 107 by decide), zbeR_n (show (78 : Nat) ≠ 77 by decide) (show (78 : Nat) ≠ 107 by decide), zbgR_n (show (79 : Nat) ≠ 77 by decide) (show (79 : Nat) ≠ 107 by decide), zbeR_n (show (79 : Nat) ≠ 77 by decide) (show (79 : Nat) ≠ 107 by decide)]] at hI
        refine lv_goto (tgt := 58) hx hb dX12_act_35 (by decide) ?_
        exact z_iret hx hb hr hlocks hI (Or.inr ⟨⟨c_10, c_20⟩, k, hk, rfl, Or.inl ⟨c_26, rfl, rfl⟩⟩) dX12_act_58
    · skip
      rw [zb_0] at c_20
      refine lv_iconst (v := (nI 0)) hx hb dX12_act_23 rfl ?_
      exact z_iret hx hb hr hlocks hI (Or.inl ⟨fun h => c_20 h.2, rfl, rfl⟩) dX12_act_24
set_option maxHeartbeats 1000000 in
set_option maxRecDepth 100000 in
theorem c_X12_second (l : Launch) {G : zG} (hG : zOK G) (x : zX) (p1 F : Nat) (hat : x.1 77 15 = nI p1) (hfd : x.1 77 14 = nI F) (hF : F ≤ 100) (hp1 : p1 ≤ 100) : zMi l yX12_second wsX12_second { frames := 0, cells := 0, slots := 0, locals := 0 } G [.ref (za G 77)] x (fun (r : Int32) (u : zX) => x = u ∧ (if p1 + 1 < F then x.1 88 (p1 + 1) else -1) = r) := by
  intro A
  refine zBody (cc := cX12_second) (maxL := 1) (ret := (some .int)) (by decide) rfl (Nat.le_of_ble_eq_true rfl) ?_
  intro p e s m below meth c hx hb hml hown hts hr hlocks hK hN hI ls hl
  have hown : s.vm.findClass RX12 = some m.cls := hown
  have hl : lv_has ls 1 [(0, .ref (za G 77))] := hl
  have hin12 : ∀ w ∈ wsX120, w ∈ wsX12_second := (fun _ h => List.mem_cons_of_mem _ (List.mem_append_right _ (h)))
  have wF57 := hts (.fieldLink RX12 57 "WhoSitsByModel" "at" "I") (z_mem 1 rfl)
  have wF54 := hts (.fieldLink RX12 54 "WhoSitsByModel" "fed" "I") (z_mem 2 rfl)
  have wF63 := hts (.fieldLink RX12 63 "WhoSitsByModel" "text" "[I") (z_mem 3 rfl)
  refine lv_aload_n hx hb dX12_second_0 rfl (lv_at hl 0 rfl) ?_
  refine z_get (C := RX12) (T := TX12) (N := 51) (ci := 12) (v := .int (nI p1)) hx hb hts hin12 hown hK hI (zo77 hG) rfl 15 (by decide) wF57 (fun _ h9 => h9) (congrArg (fun q => some (Value.int q)) hat) dX12_second_1 ?_
  refine lv_iconst (v := (nI 1)) hx hb dX12_second_4 rfl ?_
  refine z_iadd (v := (nI (p1 + 1))) hx hb (nI_add _ _) dX12_second_5 ?_
  refine lv_aload_n hx hb dX12_second_6 rfl (lv_at hl 0 rfl) ?_
  refine z_get (C := RX12) (T := TX12) (N := 51) (ci := 12) (v := .int (nI F)) hx hb hts hin12 hown hK hI (zo77 hG) rfl 14 (by decide) wF54 (fun _ h9 => h9) (congrArg (fun q => some (Value.int q)) hfd) dX12_second_7 ?_
  refine lv_icmp_ge (tgt := 27) hx hb dX12_second_10 (by decide) (fun c_10 => ?_) (fun c_10 => ?_)
  · skip
    rw [zqG (by omega) (by omega)] at c_10
    refine lv_iconst (v := (-1)) hx hb dX12_second_27 rfl ?_
    exact z_iret hx hb hr hlocks hI (⟨rfl, if_neg (by omega)⟩) dX12_second_28
  · skip
    rw [zqG (by omega) (by omega)] at c_10
    refine lv_aload_n hx hb dX12_second_13 rfl (lv_at hl 0 rfl) ?_
    refine z_get (C := RX12) (T := TX12) (N := 51) (ci := 12) (v := .ref (za G 88)) hx hb hts hin12 hown hK hI (zo77 hG) rfl 17 (by decide) wF63 (fun _ h9 => h9) rfl dX12_second_14 ?_
    refine lv_aload_n hx hb dX12_second_17 rfl (lv_at hl 0 rfl) ?_
    refine z_get (C := RX12) (T := TX12) (N := 51) (ci := 12) (v := .int (nI p1)) hx hb hts hin12 hown hK hI (zo77 hG) rfl 15 (by decide) wF57 (fun _ h9 => h9) (congrArg (fun q => some (Value.int q)) hat) dX12_second_18 ?_
    refine lv_iconst (v := (nI 1)) hx hb dX12_second_21 rfl ?_
    refine z_iadd (v := (nI (p1 + 1))) hx hb (nI_add _ _) dX12_second_22 ?_
    refine z_iald (v := (x.1 88 (p1 + 1))) hx hb hK hI (zo88 hG) (p1 + 1) rfl (by omega) (by decide) rfl dX12_second_23 ?_
    refine lv_goto (tgt := 28) hx hb dX12_second_24 (by decide) ?_
    exact z_iret hx hb hr hlocks hI (⟨rfl, if_pos (by omega)⟩) dX12_second_28
set_option maxHeartbeats 1000000 in
set_option maxRecDepth 100000 in
theorem c_X12_slips (l : Launch) {G : zG} (hG : zOK G) (x : zX) (N : Nat) (w : Int32) (hr0 : zRef x N) : zMi l yX12_slips wsX12_slips { frames := 2, cells := 0, slots := 0, locals := 45 } G [.ref (za G 77), .int w] x (fun (r : Int32) (u : zX) => x = u ∧ (if ¬ w < nI 0 ∧ ¬ nI 1 < w then (if w = 0 then zors (fun qq => if zsum (fun k => if x.1 83 k = nI qq then 1 else 0) N = 0 then nI 1 <<< (nI qq &&& 31) else 0) N else (zclo (fun qq => zrcl x N (nI qq)) (2 ^ N)).1) else -1) = r) := by
  intro A
  refine zBody (cc := cX12_slips) (maxL := 5) (ret := (some .int)) (by decide) rfl (Nat.le_of_ble_eq_true rfl) ?_
  intro p e s m below meth c hx hb hml hown hts hr hlocks hK hN hI ls hl
  have hown : s.vm.findClass RX12 = some m.cls := hown
  have hl : lv_has ls 5 [(0, .ref (za G 77)), (1, .int w)] := hl
  have hin12 : ∀ w ∈ wsX120, w ∈ wsX12_slips := (fun _ h => List.mem_cons_of_mem _ (List.mem_append_right _ (h)))
  have wF7 := hts (.fieldLink RX12 7 "WhoSitsByModel" "pupils" "I") (z_mem 1 rfl)
  have h8 := hr0.1
  have hp2 : 2 ^ N ≤ 256 := Nat.pow_le_pow_right (by decide) h8
  refine lv_aload_n hx hb dX12_slips_0 rfl (lv_at hl 0 rfl) ?_
  refine lv_iload_n hx hb dX12_slips_1 rfl (lv_at hl 1 rfl) ?_
  refine lv_iconst (v := (nI 0)) hx hb dX12_slips_2 rfl ?_
  refine lv_iconst (v := (nI 1)) hx hb dX12_slips_3 rfl ?_
  refine z_calli (va_runV (As := [.int w, .int (nI 0), .int (nI 1)]) (rest := []) ⟨hx, hb, hml, hown, hts⟩ ((c_X12_in l hG x w (nI 0) (nI 1)) A) (cwV 3 hts gX12_slips_X12_in rfl rfl rfl (by decide +kernel) ⟨Nat.le_of_ble_eq_true rfl, Nat.le_of_ble_eq_true rfl⟩) (z_pV hI hK hN (z_recv hK hI (zo77 hG) rfl)) rfl rfl hl.1 rfl (lv_room (Nat.le_of_ble_eq_true rfl)) dX12_slips_4 ⟨Nat.zero_le _, Nat.zero_le _⟩) hI (fun r_4 u H locs hw hI => ?_)
  obtain ⟨rfl, rfl⟩ := hw
  refine lv_if_ne (tgt := 12) hx hb dX12_slips_7 (by decide) (fun c_7 => ?_) (fun c_7 => ?_)
  · skip
    rw [zb_0, Classical.not_not] at c_7
    refine lv_iconst (v := (nI 0)) hx hb dX12_slips_12 rfl ?_
    refine lv_istore_n (lv' := [(2, .int (nI 0)), (0, .ref (za G 77)), (1, .int w)]) hx hb dX12_slips_13 rfl hl (by decide) rfl (fun ls hl => ?_)
    refine lv_iconst (v := (nI 0)) hx hb dX12_slips_14 rfl ?_
    refine lv_istore_n (lv' := [(3, .int (nI 0)), (2, .int (nI 0)), (0, .ref (za G 77)), (1, .int w)]) hx hb dX12_slips_15 rfl hl (by decide) rfl (fun ls hl => ?_)
    have L16 : ∀ (f : Nat) (j : Nat) (a : Int32), (j ≤ N) → (a = zors (fun qq => if zsum (fun k => if x.1 83 k = nI qq then 1 else 0) N = 0 then nI 1 <<< (nI qq &&& 31) else 0) j) → N + 1 ≤ j + f → ∀ (H : Heap) (locs : List Loc), zI G x A s.heap H locs → ∀ ls : Array Slot, lv_has ls 5 [(0, .ref (za G 77)), (1, .int w), (2, .int a), (3, .int (nI j))] → W p l e { frames := 2, cells := 0, slots := 0, locals := 45 } s m ([.ref (za G 77), .int w] : List Value).toArray below meth c H locs 0 0 (MQ below (va_Qi (fun (r : Int32) (u : zX) => x = u ∧ (if ¬ w < nI 0 ∧ ¬ nI 1 < w then (if w = 0 then zors (fun qq => if zsum (fun k => if x.1 83 k = nI qq then 1 else 0) N = 0 then nI 1 <<< (nI qq &&& 31) else 0) N else (zclo (fun qq => zrcl x N (nI qq)) (2 ^ N)).1) else -1) = r) (fun u t => zJ G u A t.heap) A) ([.ref (za G 77), .int w] : List Value).toArray s 0 0 A) (F0 m 16 ls []) := by
      intro f
      induction f with
      | zero =>
        intro j a h1 h2 hf
        exact absurd hf (by omega)
      | succ f ih =>
        intro j a h1 h2 hf H locs hI ls hl
        have ih16 := ih
        refine lv_iload_n hx hb dX12_slips_16 rfl (lv_at hl 3 rfl) ?_
        refine lv_aload_n hx hb dX12_slips_17 rfl (lv_at hl 0 rfl) ?_
        refine z_get (C := RX12) (T := TX12) (N := 51) (ci := 12) (v := .int (nI N)) hx hb hts hin12 hown hK hI (zo77 hG) rfl 0 (by decide) wF7 (fun _ h9 => h9) (congrArg (fun q => some (Value.int q)) hr0.2.1) dX12_slips_18 ?_
        refine lv_icmp_ge (tgt := 48) hx hb dX12_slips_21 (by decide) (fun c_21 => ?_) (fun c_21 => ?_)
        · skip
          rw [zqG (by omega) (by omega)] at c_21
          refine lv_iload_n hx hb dX12_slips_48 rfl (lv_at hl 1 rfl) ?_
          refine lv_if_ne (tgt := 54) hx hb dX12_slips_49 (by decide) (fun c_49 => ?_) (fun c_49 => ?_)
          · skip
            refine lv_bipush (v := (-5)) hx hb dX12_slips_54 rfl ?_
            refine lv_istore_n (lv' := [(3, .int (-5)), (0, .ref (za G 77)), (1, .int w), (2, .int a)]) hx hb dX12_slips_56 rfl hl (by decide) rfl (fun ls hl => ?_)
            refine lv_iconst (v := (nI 0)) hx hb dX12_slips_57 rfl ?_
            refine lv_istore (lv' := [(4, .int (nI 0)), (3, .int (-5)), (0, .ref (za G 77)), (1, .int w), (2, .int a)]) hx hb dX12_slips_58 hl (by decide) rfl (fun ls hl => ?_)
            have L60 : ∀ (f : Nat) (t : Nat) (a : Int32), (t ≤ 2 ^ N) → (a = (zclo (fun qq => zrcl x N (nI qq)) t).1) → 2 ^ N + 1 ≤ t + f → ∀ (H : Heap) (locs : List Loc), zI G x A s.heap H locs → ∀ ls : Array Slot, lv_has ls 5 [(0, .ref (za G 77)), (1, .int w), (3, .int a), (4, .int (nI t))] → W p l e { frames := 2, cells := 0, slots := 0, locals := 45 } s m ([.ref (za G 77), .int w] : List Value).toArray below meth c H locs 0 0 (MQ below (va_Qi (fun (r : Int32) (u : zX) => x = u ∧ (if ¬ w < nI 0 ∧ ¬ nI 1 < w then (if w = 0 then zors (fun qq => if zsum (fun k => if x.1 83 k = nI qq then 1 else 0) N = 0 then nI 1 <<< (nI qq &&& 31) else 0) N else (zclo (fun qq => zrcl x N (nI qq)) (2 ^ N)).1) else -1) = r) (fun u t => zJ G u A t.heap) A) ([.ref (za G 77), .int w] : List Value).toArray s 0 0 A) (F0 m 60 ls []) := by
              intro f
              induction f with
              | zero =>
                intro t a h3 h4 hf
                exact absurd hf (by omega)
              | succ f ih =>
                intro t a h3 h4 hf H locs hI ls hl
                have ih60 := ih
                refine lv_iload hx hb dX12_slips_60 (lv_at hl 3 rfl) ?_
                refine lv_iconst (v := (nI 1)) hx hb dX12_slips_62 rfl ?_
                refine lv_aload_n hx hb dX12_slips_63 rfl (lv_at hl 0 rfl) ?_
                refine z_get (C := RX12) (T := TX12) (N := 51) (ci := 12) (v := .int (nI N)) hx hb hts hin12 hown hK hI (zo77 hG) rfl 0 (by decide) wF7 (fun _ h9 => h9) (congrArg (fun q => some (Value.int q)) hr0.2.1) dX12_slips_64 ?_
                refine z_ishl (v := (nI (2 ^ N))) hx hb (zp2 (by omega)) dX12_slips_67 ?_
                refine lv_icmp_ge (tgt := 120) hx hb dX12_slips_68 (by decide) (fun c_68 => ?_) (fun c_68 => ?_)
                · skip
                  rw [zqG (by omega) (by omega)] at c_68
                  refine lv_iload_n hx hb dX12_slips_120 rfl (lv_at hl 2 rfl) ?_
                  exact z_iret hx hb hr hlocks hI (⟨rfl, by rw [if_pos c_7, if_neg c_49, h4, show t = 2 ^ N by omega]⟩) dX12_slips_121
                · skip
                  rw [zqG (by omega) (by omega)] at c_68
                  refine lv_aload_n hx hb dX12_slips_71 rfl (lv_at hl 0 rfl) ?_
                  refine lv_iload hx hb dX12_slips_72 (lv_at hl 3 rfl) ?_
                  refine z_calli (va_runV (As := [.int (nI t)]) (rest := []) ⟨hx, hb, hml, hown, hts⟩ ((c_X12_ones l hG x t (by omega)) A) (cwV 1 hts gX12_slips_X12_ones rfl rfl rfl (by decide +kernel) ⟨Nat.le_of_ble_eq_true rfl, Nat.le_of_ble_eq_true rfl⟩) (z_pV hI hK hN (z_recv hK hI (zo77 hG) rfl)) rfl rfl hl.1 rfl (lv_room (Nat.le_of_ble_eq_true rfl)) dX12_slips_74 ⟨Nat.zero_le _, Nat.zero_le _⟩) hI (fun r_74 u H locs hw hI => ?_)
                  obtain ⟨rfl, rfl⟩ := hw
                  have hpb := zpop_b 8 t
                  refine lv_iconst (v := (nI 2)) hx hb dX12_slips_77 rfl ?_
                  refine lv_icmp_lt (tgt := 114) hx hb dX12_slips_78 (by decide) (fun c_78 => ?_) (fun c_78 => ?_)
                  · skip
                    rw [zqL (by omega) (by omega)] at c_78
                    refine lv_iinc (v := (nI (t + 1))) (lv' := [(4, .int (nI (t + 1))), (0, .ref (za G 77)), (1, .int w), (3, .int a)]) hx hb dX12_slips_114 hl (k := 3) rfl (zinc t) (by decide) rfl (fun ls hl => ?_)
                    refine lv_goto (tgt := 60) hx hb dX12_slips_117 (by decide) ?_
                    exact ih60 (t + 1) a (by omega) (by rw [zclo, if_neg (fun h => absurd h.1 (by omega))]; exact h4) (by omega) _ _ hI ls (lv_sub hl [1, 2, 3, 0] rfl)
                  · skip
                    rw [zqL (by omega) (by omega)] at c_78
                    refine lv_iload_n hx hb dX12_slips_81 rfl (lv_at hl 2 rfl) ?_
                    refine lv_if_lt (tgt := 99) hx hb dX12_slips_82 (by decide) (fun c_82 => ?_) (fun c_82 => ?_)
                    · skip
                      have hlt : zpop 8 t < (zclo (fun qq => zrcl x N (nI qq)) t).2 := by
                        rcases zclo_or (fun qq => zrcl x N (nI qq)) t with h | ⟨f9, hf9, hfa, hfc⟩
                        · rw [h.2]; have h99 := zpop_b 8 t; omega
                        · exact absurd c_82 (by rw [h4, hfa]; exact nI_pos (by omega))
                      refine lv_aload_n hx hb dX12_slips_99 rfl (lv_at hl 0 rfl) ?_
                      refine lv_iload hx hb dX12_slips_100 (lv_at hl 3 rfl) ?_
                      refine z_calli (va_runV (As := [.int (nI t)]) (rest := []) ⟨hx, hb, hml, hown, hts⟩ ((c_X12_isClosed l hG x N (nI t) hr0) A) (cwV 1 hts gX12_slips_X12_isClosed rfl rfl rfl (by decide +kernel) ⟨Nat.le_of_ble_eq_true rfl, Nat.le_of_ble_eq_true rfl⟩) (z_pV hI hK hN (z_recv hK hI (zo77 hG) rfl)) rfl rfl hl.1 rfl (lv_room (Nat.le_of_ble_eq_true rfl)) dX12_slips_102 ⟨Nat.zero_le _, Nat.zero_le _⟩) hI (fun r_102 u H locs hw hI => ?_)
                      obtain ⟨rfl, rfl⟩ := hw
                      refine lv_if_ne (tgt := 111) hx hb dX12_slips_105 (by decide) (fun c_105 => ?_) (fun c_105 => ?_)
                      · skip
                        rw [zb_0, Classical.not_not] at c_105
                        refine lv_iload hx hb dX12_slips_111 (lv_at hl 3 rfl) ?_
                        refine lv_istore_n (lv' := [(3, .int (nI t)), (0, .ref (za G 77)), (1, .int w), (4, .int (nI t))]) hx hb dX12_slips_113 rfl hl (by decide) rfl (fun ls hl => ?_)
                        refine lv_iinc (v := (nI (t + 1))) (lv' := [(4, .int (nI (t + 1))), (3, .int (nI t)), (0, .ref (za G 77)), (1, .int w)]) hx hb dX12_slips_114 hl (k := 3) rfl (zinc t) (by decide) rfl (fun ls hl => ?_)
                        refine lv_goto (tgt := 60) hx hb dX12_slips_117 (by decide) ?_
                        exact ih60 (t + 1) (nI t) (by omega) (by rw [zclo, if_pos ⟨by omega, hlt, c_105⟩]) (by omega) _ _ hI ls (lv_sub hl [2, 3, 1, 0] rfl)
                      · skip
                        rw [zb_0] at c_105
                        refine lv_goto (tgt := 114) hx hb dX12_slips_108 (by decide) ?_
                        refine lv_iinc (v := (nI (t + 1))) (lv' := [(4, .int (nI (t + 1))), (0, .ref (za G 77)), (1, .int w), (3, .int a)]) hx hb dX12_slips_114 hl (k := 3) rfl (zinc t) (by decide) rfl (fun ls hl => ?_)
                        refine lv_goto (tgt := 60) hx hb dX12_slips_117 (by decide) ?_
                        exact ih60 (t + 1) a (by omega) (by rw [zclo, if_neg (fun h => c_105 h.2.2)]; exact h4) (by omega) _ _ hI ls (lv_sub hl [1, 2, 3, 0] rfl)
                    · skip
                      obtain ⟨f9, hf9, hfa, hfc⟩ := (zclo_or (fun qq => zrcl x N (nI qq)) t).resolve_left (fun h => c_82 (by rw [h4, h.1]; decide))
                      obtain rfl : a = nI f9 := h4.trans hfa
                      refine lv_aload_n hx hb dX12_slips_85 rfl (lv_at hl 0 rfl) ?_
                      refine lv_iload hx hb dX12_slips_86 (lv_at hl 3 rfl) ?_
                      refine z_calli (va_runV (As := [.int (nI t)]) (rest := []) ⟨hx, hb, hml, hown, hts⟩ ((c_X12_ones l hG x t (by omega)) A) (cwV 1 hts gX12_slips_X12_ones rfl rfl rfl (by decide +kernel) ⟨Nat.le_of_ble_eq_true rfl, Nat.le_of_ble_eq_true rfl⟩) (z_pV hI hK hN (z_recv hK hI (zo77 hG) rfl)) rfl rfl hl.1 rfl (lv_room (Nat.le_of_ble_eq_true rfl)) dX12_slips_88 ⟨Nat.zero_le _, Nat.zero_le _⟩) hI (fun r_88 u H locs hw hI => ?_)
                      obtain ⟨rfl, rfl⟩ := hw
                      refine lv_aload_n hx hb dX12_slips_91 rfl (lv_at hl 0 rfl) ?_
                      refine lv_iload_n hx hb dX12_slips_92 rfl (lv_at hl 2 rfl) ?_
                      refine z_calli (va_runV (As := [.int (nI f9)]) (rest := [.int (nI (zpop 8 t))]) ⟨hx, hb, hml, hown, hts⟩ ((c_X12_ones l hG x f9 (by omega)) A) (cwV 1 hts gX12_slips_X12_ones rfl rfl rfl (by decide +kernel) ⟨Nat.le_of_ble_eq_true rfl, Nat.le_of_ble_eq_true rfl⟩) (z_pV hI hK hN (z_recv hK hI (zo77 hG) rfl)) rfl rfl hl.1 rfl (lv_room (Nat.le_of_ble_eq_true rfl)) dX12_slips_93 ⟨Nat.zero_le _, Nat.zero_le _⟩) hI (fun r_93 u H locs hw hI => ?_)
                      obtain ⟨rfl, rfl⟩ := hw
                      have hpb9 := zpop_b 8 f9
                      refine lv_icmp_ge (tgt := 114) hx hb dX12_slips_96 (by decide) (fun c_96 => ?_) (fun c_96 => ?_)
                      · skip
                        rw [zqG (by omega) (by omega)] at c_96
                        refine lv_iinc (v := (nI (t + 1))) (lv' := [(4, .int (nI (t + 1))), (0, .ref (za G 77)), (1, .int w), (3, .int (nI f9))]) hx hb dX12_slips_114 hl (k := 3) rfl (zinc t) (by decide) rfl (fun ls hl => ?_)
                        refine lv_goto (tgt := 60) hx hb dX12_slips_117 (by decide) ?_
                        exact ih60 (t + 1) (nI f9) (by omega) (by rw [zclo, if_neg (fun h => absurd h.2.1 (by rw [hfc]; omega))]; exact h4) (by omega) _ _ hI ls (lv_sub hl [1, 2, 3, 0] rfl)
                      · skip
                        rw [zqG (by omega) (by omega)] at c_96
                        have hlt : zpop 8 t < (zclo (fun qq => zrcl x N (nI qq)) t).2 := by rw [hfc]; omega
                        refine lv_aload_n hx hb dX12_slips_99 rfl (lv_at hl 0 rfl) ?_
                        refine lv_iload hx hb dX12_slips_100 (lv_at hl 3 rfl) ?_
                        refine z_calli (va_runV (As := [.int (nI t)]) (rest := []) ⟨hx, hb, hml, hown, hts⟩ ((c_X12_isClosed l hG x N (nI t) hr0) A) (cwV 1 hts gX12_slips_X12_isClosed rfl rfl rfl (by decide +kernel) ⟨Nat.le_of_ble_eq_true rfl, Nat.le_of_ble_eq_true rfl⟩) (z_pV hI hK hN (z_recv hK hI (zo77 hG) rfl)) rfl rfl hl.1 rfl (lv_room (Nat.le_of_ble_eq_true rfl)) dX12_slips_102 ⟨Nat.zero_le _, Nat.zero_le _⟩) hI (fun r_102 u H locs hw hI => ?_)
                        obtain ⟨rfl, rfl⟩ := hw
                        refine lv_if_ne (tgt := 111) hx hb dX12_slips_105 (by decide) (fun c_105 => ?_) (fun c_105 => ?_)
                        · skip
                          rw [zb_0, Classical.not_not] at c_105
                          refine lv_iload hx hb dX12_slips_111 (lv_at hl 3 rfl) ?_
                          refine lv_istore_n (lv' := [(3, .int (nI t)), (0, .ref (za G 77)), (1, .int w), (4, .int (nI t))]) hx hb dX12_slips_113 rfl hl (by decide) rfl (fun ls hl => ?_)
                          refine lv_iinc (v := (nI (t + 1))) (lv' := [(4, .int (nI (t + 1))), (3, .int (nI t)), (0, .ref (za G 77)), (1, .int w)]) hx hb dX12_slips_114 hl (k := 3) rfl (zinc t) (by decide) rfl (fun ls hl => ?_)
                          refine lv_goto (tgt := 60) hx hb dX12_slips_117 (by decide) ?_
                          exact ih60 (t + 1) (nI t) (by omega) (by rw [zclo, if_pos ⟨by omega, hlt, c_105⟩]) (by omega) _ _ hI ls (lv_sub hl [2, 3, 1, 0] rfl)
                        · skip
                          rw [zb_0] at c_105
                          refine lv_goto (tgt := 114) hx hb dX12_slips_108 (by decide) ?_
                          refine lv_iinc (v := (nI (t + 1))) (lv' := [(4, .int (nI (t + 1))), (0, .ref (za G 77)), (1, .int w), (3, .int (nI f9))]) hx hb dX12_slips_114 hl (k := 3) rfl (zinc t) (by decide) rfl (fun ls hl => ?_)
                          refine lv_goto (tgt := 60) hx hb dX12_slips_117 (by decide) ?_
                          exact ih60 (t + 1) (nI f9) (by omega) (by rw [zclo, if_neg (fun h => c_105 h.2.2)]; exact h4) (by omega) _ _ hI ls (lv_sub hl [1, 2, 3, 0] rfl)
            exact L60 (2 ^ N + 1) 0 (-5) (Nat.zero_le _) rfl (by rw [Nat.zero_add]; exact Nat.le_refl _) _ _ hI ls (lv_sub hl [2, 3, 1, 0] rfl)
          · skip
            refine lv_iload_n hx hb dX12_slips_52 rfl (lv_at hl 2 rfl) ?_
            exact z_iret hx hb hr hlocks hI (⟨rfl, by rw [if_pos c_7, if_pos c_49, h2, show j = N by omega]⟩) dX12_slips_53
        · skip
          rw [zqG (by omega) (by omega)] at c_21
          refine lv_iload_n hx hb dX12_slips_24 rfl (lv_at hl 2 rfl) ?_
          refine lv_aload_n hx hb dX12_slips_25 rfl (lv_at hl 0 rfl) ?_
          refine lv_iload_n hx hb dX12_slips_26 rfl (lv_at hl 3 rfl) ?_
          refine z_calli (va_runV (As := [.int (nI j)]) (rest := [.int a]) ⟨hx, hb, hml, hown, hts⟩ ((c_X12_namedOf l hG x N (nI j) hr0) A) (cwV 1 hts gX12_slips_X12_namedOf rfl rfl rfl (by decide +kernel) ⟨Nat.le_of_ble_eq_true rfl, Nat.le_of_ble_eq_true rfl⟩) (z_pV hI hK hN (z_recv hK hI (zo77 hG) rfl)) rfl rfl hl.1 rfl (lv_room (Nat.le_of_ble_eq_true rfl)) dX12_slips_27 ⟨Nat.zero_le _, Nat.zero_le _⟩) hI (fun r_27 u H locs hw hI => ?_)
          obtain ⟨rfl, rfl⟩ := hw
          refine lv_if_ne (tgt := 39) hx hb dX12_slips_30 (by decide) (fun c_30 => ?_) (fun c_30 => ?_)
          · skip
            refine lv_iconst (v := (nI 0)) hx hb dX12_slips_39 rfl ?_
            refine lv_ior hx hb dX12_slips_40 ?_
            refine lv_istore_n (lv' := [(2, .int (a ||| (nI 0))), (0, .ref (za G 77)), (1, .int w), (3, .int (nI j))]) hx hb dX12_slips_41 rfl hl (by decide) rfl (fun ls hl => ?_)
            refine lv_iinc (v := (nI (j + 1))) (lv' := [(3, .int (nI (j + 1))), (2, .int (a ||| (nI 0))), (0, .ref (za G 77)), (1, .int w)]) hx hb dX12_slips_42 hl (k := 3) rfl (zinc j) (by decide) rfl (fun ls hl => ?_)
            refine lv_goto (tgt := 16) hx hb dX12_slips_45 (by decide) ?_
            exact ih16 (j + 1) (a ||| (nI 0)) (by omega) (zors_t h2 (if_neg c_30)) (by omega) _ _ hI ls (lv_sub hl [2, 3, 1, 0] rfl)
          · skip
            refine lv_iconst (v := (nI 1)) hx hb dX12_slips_33 rfl ?_
            refine lv_iload_n hx hb dX12_slips_34 rfl (lv_at hl 3 rfl) ?_
            refine lv_ishl hx hb dX12_slips_35 ?_
            refine lv_goto (tgt := 40) hx hb dX12_slips_36 (by decide) ?_
            refine lv_ior hx hb dX12_slips_40 ?_
            refine lv_istore_n (lv' := [(2, .int (a ||| ((nI 1) <<< ((nI j) &&& 31)))), (0, .ref (za G 77)), (1, .int w), (3, .int (nI j))]) hx hb dX12_slips_41 rfl hl (by decide) rfl (fun ls hl => ?_)
            refine lv_iinc (v := (nI (j + 1))) (lv' := [(3, .int (nI (j + 1))), (2, .int (a ||| ((nI 1) <<< ((nI j) &&& 31)))), (0, .ref (za G 77)), (1, .int w)]) hx hb dX12_slips_42 hl (k := 3) rfl (zinc j) (by decide) rfl (fun ls hl => ?_)
            refine lv_goto (tgt := 16) hx hb dX12_slips_45 (by decide) ?_
            exact ih16 (j + 1) (a ||| ((nI 1) <<< ((nI j) &&& 31))) (by omega) (zors_t h2 (if_pos c_30)) (by omega) _ _ hI ls (lv_sub hl [2, 3, 1, 0] rfl)
    exact L16 (N + 1) 0 (nI 0) (by omega) rfl (by omega) _ _ hI ls (lv_sub hl [2, 3, 1, 0] rfl)
  · skip
    rw [zb_0] at c_7
    refine lv_iconst (v := (-1)) hx hb dX12_slips_10 rfl ?_
    exact z_iret hx hb hr hlocks hI (⟨rfl, if_neg c_7⟩) dX12_slips_11
