set_option maxHeartbeats 1000000 in
set_option maxRecDepth 100000 in
theorem c_X12_pair (l : Launch) {G : zG} (hG : zOK G) (x : zX) (N F C : Nat) (pa pb rw9 wh : Int32) (hr0 : zRef x N) (hcs : zCls x F C) (hkd : zKd x N) : zMi l yX12_pair wsX12_pair { frames := 4, cells := 0, slots := 0, locals := 104 } G [.ref (za G 77), .int pa, .int pb, .int rw9, .int wh] x (fun (r : Int32) (u : zX) => (¬ (zin N pa ∧ zin N pb ∧ (¬ rw9 < nI 0 ∧ ¬ nI 1 < rw9) ∧ ¬ wh < nI 0 ∧ ¬ nI 3 < wh) ∧ x = u ∧ -100001 = r) ∨ ((zin N pa ∧ zin N pb ∧ (¬ rw9 < nI 0 ∧ ¬ nI 1 < rw9) ∧ ¬ wh < nI 0 ∧ ¬ nI 3 < wh) ∧ pa = pb ∧ x = u ∧ -100002 = r) ∨ (∃ ka kb, ka < N ∧ kb < N ∧ ¬ ka = kb ∧ pa = nI ka ∧ pb = nI kb ∧ (¬ rw9 < nI 0 ∧ ¬ nI 1 < rw9) ∧ (¬ wh < nI 0 ∧ ¬ nI 3 < wh) ∧ zQ9 x u ∧ (if wh = nI 0 then zsuR x F (nI 0) (zfr9 x ka kb rw9) C else if wh = nI 1 then zsuR x F (nI 1) (zfr9 x ka kb rw9) C else if wh = nI 2 then (if zbaR x F C ka kb rw9 then nI 1 else nI 0) else zpwR x N F C ka kb rw9 - (if x.1 78 ka = nI 5 then x.1 79 ka * (zocR (x.1 85 (2 * (zse x ka / 2 ^^^ 1))) + zocR (x.1 85 (2 * (zse x ka / 2 ^^^ 1) + 1))) else nI 0)) = r)) := by
  intro A
  refine zBody (cc := cX12_pair) (maxL := 5) (ret := (some .int)) (by decide) rfl (Nat.le_of_ble_eq_true rfl) ?_
  intro p e s m below meth c hx hb hml hown hts hr hlocks hK hN hI ls hl
  have hown : s.vm.findClass RX12 = some m.cls := hown
  have hl : lv_has ls 5 [(0, .ref (za G 77)), (1, .int pa), (2, .int pb), (3, .int rw9), (4, .int wh)] := hl
  have hin12 : ∀ w ∈ wsX120, w ∈ wsX12_pair := (fun _ h => List.mem_cons_of_mem _ (List.mem_append_right _ (h)))
  have wK258 := hts (.constant RX12 258 (-100001)) (z_mem 1 rfl)
  have wF16 := hts (.fieldLink RX12 16 "WhoSitsByModel" "kind" "[I") (z_mem 3 rfl)
  have wF20 := hts (.fieldLink RX12 20 "WhoSitsByModel" "v" "[I") (z_mem 4 rfl)
  have wF35 := hts (.fieldLink RX12 35 "WhoSitsByModel" "seat" "[I") (z_mem 5 rfl)
  have wK259 := hts (.constant RX12 259 (-100002)) (z_mem 2 rfl)
  refine lv_aload_n hx hb dX12_pair_0 rfl (lv_at hl 0 rfl) ?_
  refine lv_iload_n hx hb dX12_pair_1 rfl (lv_at hl 1 rfl) ?_
  refine z_calli (va_runV (As := [.int pa]) (rest := []) ⟨hx, hb, hml, hown, hts⟩ ((c_X12_isPupil l hG x N pa hr0) A) (cwV 1 hts gX12_pair_X12_isPupil rfl rfl rfl (by decide +kernel) ⟨Nat.le_of_ble_eq_true rfl, Nat.le_of_ble_eq_true rfl⟩) (z_pV hI hK hN (z_recv hK hI (zo77 hG) rfl)) rfl rfl hl.1 rfl (lv_room (Nat.le_of_ble_eq_true rfl)) dX12_pair_2 ⟨Nat.zero_le _, Nat.zero_le _⟩) hI (fun r_2 u H locs hw hI => ?_)
  obtain ⟨rfl, rfl⟩ := hw
  refine lv_if_eq (tgt := 37) hx hb dX12_pair_5 (by decide) (fun c_5 => ?_) (fun c_5 => ?_)
  · skip
    rw [zb_0] at c_5
    refine lv_ldcw (v := (-100001)) hx hb hown wK258 dX12_pair_37 ?_
    exact z_iret hx hb hr hlocks hI (Or.inl ⟨fun h => c_5 h.1, rfl, rfl⟩) dX12_pair_40
  · skip
    rw [zb_0, Classical.not_not] at c_5
    refine lv_aload_n hx hb dX12_pair_8 rfl (lv_at hl 0 rfl) ?_
    refine lv_iload_n hx hb dX12_pair_9 rfl (lv_at hl 2 rfl) ?_
    refine z_calli (va_runV (As := [.int pb]) (rest := []) ⟨hx, hb, hml, hown, hts⟩ ((c_X12_isPupil l hG x N pb hr0) A) (cwV 1 hts gX12_pair_X12_isPupil rfl rfl rfl (by decide +kernel) ⟨Nat.le_of_ble_eq_true rfl, Nat.le_of_ble_eq_true rfl⟩) (z_pV hI hK hN (z_recv hK hI (zo77 hG) rfl)) rfl rfl hl.1 rfl (lv_room (Nat.le_of_ble_eq_true rfl)) dX12_pair_10 ⟨Nat.zero_le _, Nat.zero_le _⟩) hI (fun r_10 u H locs hw hI => ?_)
    obtain ⟨rfl, rfl⟩ := hw
    refine lv_if_eq (tgt := 37) hx hb dX12_pair_13 (by decide) (fun c_13 => ?_) (fun c_13 => ?_)
    · skip
      rw [zb_0] at c_13
      refine lv_ldcw (v := (-100001)) hx hb hown wK258 dX12_pair_37 ?_
      exact z_iret hx hb hr hlocks hI (Or.inl ⟨fun h => c_13 h.2.1, rfl, rfl⟩) dX12_pair_40
    · skip
      rw [zb_0, Classical.not_not] at c_13
      refine lv_aload_n hx hb dX12_pair_16 rfl (lv_at hl 0 rfl) ?_
      refine lv_iload_n hx hb dX12_pair_17 rfl (lv_at hl 3 rfl) ?_
      refine lv_iconst (v := (nI 0)) hx hb dX12_pair_18 rfl ?_
      refine lv_iconst (v := (nI 1)) hx hb dX12_pair_19 rfl ?_
      refine z_calli (va_runV (As := [.int rw9, .int (nI 0), .int (nI 1)]) (rest := []) ⟨hx, hb, hml, hown, hts⟩ ((c_X12_in l hG x rw9 (nI 0) (nI 1)) A) (cwV 3 hts gX12_pair_X12_in rfl rfl rfl (by decide +kernel) ⟨Nat.le_of_ble_eq_true rfl, Nat.le_of_ble_eq_true rfl⟩) (z_pV hI hK hN (z_recv hK hI (zo77 hG) rfl)) rfl rfl hl.1 rfl (lv_room (Nat.le_of_ble_eq_true rfl)) dX12_pair_20 ⟨Nat.zero_le _, Nat.zero_le _⟩) hI (fun r_20 u H locs hw hI => ?_)
      obtain ⟨rfl, rfl⟩ := hw
      refine lv_if_eq (tgt := 37) hx hb dX12_pair_23 (by decide) (fun c_23 => ?_) (fun c_23 => ?_)
      · skip
        rw [zb_0] at c_23
        refine lv_ldcw (v := (-100001)) hx hb hown wK258 dX12_pair_37 ?_
        exact z_iret hx hb hr hlocks hI (Or.inl ⟨fun h => c_23 h.2.2.1, rfl, rfl⟩) dX12_pair_40
      · skip
        rw [zb_0, Classical.not_not] at c_23
        refine lv_aload_n hx hb dX12_pair_26 rfl (lv_at hl 0 rfl) ?_
        refine lv_iload hx hb dX12_pair_27 (lv_at hl 4 rfl) ?_
        refine lv_iconst (v := (nI 0)) hx hb dX12_pair_29 rfl ?_
        refine lv_iconst (v := (nI 3)) hx hb dX12_pair_30 rfl ?_
        refine z_calli (va_runV (As := [.int wh, .int (nI 0), .int (nI 3)]) (rest := []) ⟨hx, hb, hml, hown, hts⟩ ((c_X12_in l hG x wh (nI 0) (nI 3)) A) (cwV 3 hts gX12_pair_X12_in rfl rfl rfl (by decide +kernel) ⟨Nat.le_of_ble_eq_true rfl, Nat.le_of_ble_eq_true rfl⟩) (z_pV hI hK hN (z_recv hK hI (zo77 hG) rfl)) rfl rfl hl.1 rfl (lv_room (Nat.le_of_ble_eq_true rfl)) dX12_pair_31 ⟨Nat.zero_le _, Nat.zero_le _⟩) hI (fun r_31 u H locs hw hI => ?_)
        obtain ⟨rfl, rfl⟩ := hw
        refine lv_if_ne (tgt := 41) hx hb dX12_pair_34 (by decide) (fun c_34 => ?_) (fun c_34 => ?_)
        · skip
          rw [zb_0, Classical.not_not] at c_34
          have hp9 : (zin N pa ∧ zin N pb ∧ (¬ rw9 < nI 0 ∧ ¬ nI 1 < rw9) ∧ ¬ wh < nI 0 ∧ ¬ nI 3 < wh) := ⟨c_5, c_13, c_23, c_34⟩
          obtain ⟨ka, hka, rfl⟩ := z_ix c_5.1 c_5.2 (by have := hr0.1; omega)
          obtain ⟨kb, hkb, rfl⟩ := z_ix c_13.1 c_13.2 (by have := hr0.1; omega)
          have h8 := hr0.1
          have hka8 : ka < 8 := by omega
          have hkb8 : kb < 8 := by omega
          have hse := zse_of hr0 hka
          refine lv_iload_n hx hb dX12_pair_41 rfl (lv_at hl 1 rfl) ?_
          refine lv_iload_n hx hb dX12_pair_42 rfl (lv_at hl 2 rfl) ?_
          refine lv_icmp_ne (tgt := 50) hx hb dX12_pair_43 (by decide) (fun c_43 => ?_) (fun c_43 => ?_)
          · skip
            rw [zqE (by omega) (by omega)] at c_43
            refine lv_aload_n hx hb dX12_pair_50 rfl (lv_at hl 0 rfl) ?_
            refine z_callv (va_runV (As := []) (rest := []) ⟨hx, hb, hml, hown, hts⟩ ((c_X12_asIs l hG x) A) (cwV 0 hts gX12_pair_X12_asIs rfl rfl rfl (by decide +kernel) ⟨Nat.le_of_ble_eq_true rfl, Nat.le_of_ble_eq_true rfl⟩) (z_pV hI hK hN (z_recv hK hI (zo77 hG) rfl)) rfl rfl hl.1 rfl (lv_room (Nat.le_of_ble_eq_true rfl)) dX12_pair_51 ⟨Nat.zero_le _, Nat.zero_le _⟩) hI (fun u H locs hw hI => ?_)
            obtain rfl := hw
            have hqa := (show zQ9 x (zsrI x 100 (zputn (x.1 85) (x.1 100) 8)) from zQ9.w (by decide))
            refine lv_iload hx hb dX12_pair_54 (lv_at hl 4 rfl) ?_
            by_cases q56_0 : wh = (nI 0)
            · skip
              refine lv_tableIn (off := 28) (tgt := 84) hx hb dX12_pair_56 (by rw [q56_0]; decide) (by rw [q56_0]; decide) (by rw [q56_0]; rfl) (by decide) ?_
              refine lv_aload_n hx hb dX12_pair_84 rfl (lv_at hl 0 rfl) ?_
              refine lv_iconst (v := (nI 0)) hx hb dX12_pair_85 rfl ?_
              refine lv_iload_n hx hb dX12_pair_86 rfl (lv_at hl 1 rfl) ?_
              refine lv_iload_n hx hb dX12_pair_87 rfl (lv_at hl 2 rfl) ?_
              refine lv_iload_n hx hb dX12_pair_88 rfl (lv_at hl 3 rfl) ?_
              refine z_calli (va_runV (As := [.int (nI 0), .int (nI ka), .int (nI kb), .int rw9]) (rest := []) ⟨hx, hb, hml, hown, hts⟩ ((c_X12_sumOf l hG (zsrI x 100 (zputn (x.1 85) (x.1 100) 8)) F C ka kb (nI 0) rw9 (zCls_q hqa hcs) hka8 hkb8 (by decide)) A) (cwV 4 hts gX12_pair_X12_sumOf rfl rfl rfl (by decide +kernel) ⟨Nat.le_of_ble_eq_true rfl, Nat.le_of_ble_eq_true rfl⟩) (z_pV hI hK hN (z_recv hK hI (zo77 hG) rfl)) rfl rfl hl.1 rfl (lv_room (Nat.le_of_ble_eq_true rfl)) dX12_pair_89 ⟨Nat.zero_le _, Nat.zero_le _⟩) hI (fun r_89 u H locs hw hI => ?_)
              obtain ⟨hq1, rfl⟩ := hw
              have hQ1 : zQ97 (zsrI x 100 (zputn (x.1 85) (x.1 100) 8)) u := hq1
              rw [zsuR_q hqa, zfr9_q hqa]
              exact z_iret hx hb hr hlocks hI (Or.inr (Or.inr ⟨ka, kb, hka, hkb, c_43, rfl, rfl, c_23, c_34, hqa.t hQ1.q9, if_pos q56_0⟩)) dX12_pair_92
            by_cases q56_1 : wh = (nI 1)
            · skip
              refine lv_tableIn (off := 37) (tgt := 93) hx hb dX12_pair_56 (by rw [q56_1]; decide) (by rw [q56_1]; decide) (by rw [q56_1]; rfl) (by decide) ?_
              refine lv_aload_n hx hb dX12_pair_93 rfl (lv_at hl 0 rfl) ?_
              refine lv_iconst (v := (nI 1)) hx hb dX12_pair_94 rfl ?_
              refine lv_iload_n hx hb dX12_pair_95 rfl (lv_at hl 1 rfl) ?_
              refine lv_iload_n hx hb dX12_pair_96 rfl (lv_at hl 2 rfl) ?_
              refine lv_iload_n hx hb dX12_pair_97 rfl (lv_at hl 3 rfl) ?_
              refine z_calli (va_runV (As := [.int (nI 1), .int (nI ka), .int (nI kb), .int rw9]) (rest := []) ⟨hx, hb, hml, hown, hts⟩ ((c_X12_sumOf l hG (zsrI x 100 (zputn (x.1 85) (x.1 100) 8)) F C ka kb (nI 1) rw9 (zCls_q hqa hcs) hka8 hkb8 (by decide)) A) (cwV 4 hts gX12_pair_X12_sumOf rfl rfl rfl (by decide +kernel) ⟨Nat.le_of_ble_eq_true rfl, Nat.le_of_ble_eq_true rfl⟩) (z_pV hI hK hN (z_recv hK hI (zo77 hG) rfl)) rfl rfl hl.1 rfl (lv_room (Nat.le_of_ble_eq_true rfl)) dX12_pair_98 ⟨Nat.zero_le _, Nat.zero_le _⟩) hI (fun r_98 u H locs hw hI => ?_)
              obtain ⟨hq1, rfl⟩ := hw
              have hQ1 : zQ97 (zsrI x 100 (zputn (x.1 85) (x.1 100) 8)) u := hq1
              rw [zsuR_q hqa, zfr9_q hqa]
              exact z_iret hx hb hr hlocks hI (Or.inr (Or.inr ⟨ka, kb, hka, hkb, c_43, rfl, rfl, c_23, c_34, hqa.t hQ1.q9, (if_neg (by rw [q56_1]; decide)).trans (if_pos q56_1)⟩)) dX12_pair_101
            by_cases q56_2 : wh = (nI 2)
            · skip
              refine lv_tableIn (off := 46) (tgt := 102) hx hb dX12_pair_56 (by rw [q56_2]; decide) (by rw [q56_2]; decide) (by rw [q56_2]; rfl) (by decide) ?_
              refine lv_aload_n hx hb dX12_pair_102 rfl (lv_at hl 0 rfl) ?_
              refine lv_iload_n hx hb dX12_pair_103 rfl (lv_at hl 1 rfl) ?_
              refine lv_iload_n hx hb dX12_pair_104 rfl (lv_at hl 2 rfl) ?_
              refine lv_iload_n hx hb dX12_pair_105 rfl (lv_at hl 3 rfl) ?_
              refine z_calli (va_runV (As := [.int (nI ka), .int (nI kb), .int rw9]) (rest := []) ⟨hx, hb, hml, hown, hts⟩ ((c_X12_isBarred l hG (zsrI x 100 (zputn (x.1 85) (x.1 100) 8)) F C ka kb rw9 (zCls_q hqa hcs) hka8 hkb8) A) (cwV 3 hts gX12_pair_X12_isBarred rfl rfl rfl (by decide +kernel) ⟨Nat.le_of_ble_eq_true rfl, Nat.le_of_ble_eq_true rfl⟩) (z_pV hI hK hN (z_recv hK hI (zo77 hG) rfl)) rfl rfl hl.1 rfl (lv_room (Nat.le_of_ble_eq_true rfl)) dX12_pair_106 ⟨Nat.zero_le _, Nat.zero_le _⟩) hI (fun r_106 u H locs hw hI => ?_)
              obtain ⟨hq1, rfl⟩ := hw
              have hQ1 : zQ97 (zsrI x 100 (zputn (x.1 85) (x.1 100) 8)) u := hq1
              have hbr : (if zbaR (zsrI x 100 (zputn (x.1 85) (x.1 100) 8)) F C ka kb rw9 then nI 1 else nI 0) = (if zbaR x F C ka kb rw9 then nI 1 else nI 0) := by by_cases h9 : zbaR x F C ka kb rw9; rw [if_pos h9, if_pos ((zbaR_q hqa).mpr h9)]; rw [if_neg h9, if_neg (fun g9 => h9 ((zbaR_q hqa).mp g9))]
              rw [hbr]
              refine lv_if_eq (tgt := 116) hx hb dX12_pair_109 (by decide) (fun c_109 => ?_) (fun c_109 => ?_)
              · skip
                rw [zb_0] at c_109
                refine lv_iconst (v := (nI 0)) hx hb dX12_pair_116 rfl ?_
                exact z_iret hx hb hr hlocks hI (Or.inr (Or.inr ⟨ka, kb, hka, hkb, c_43, rfl, rfl, c_23, c_34, hqa.t hQ1.q9, (if_neg (by rw [q56_2]; decide)).trans ((if_neg (by rw [q56_2]; decide)).trans ((if_pos q56_2).trans (if_neg c_109)))⟩)) dX12_pair_117
              · skip
                rw [zb_0, Classical.not_not] at c_109
                refine lv_iconst (v := (nI 1)) hx hb dX12_pair_112 rfl ?_
                refine lv_goto (tgt := 117) hx hb dX12_pair_113 (by decide) ?_
                exact z_iret hx hb hr hlocks hI (Or.inr (Or.inr ⟨ka, kb, hka, hkb, c_43, rfl, rfl, c_23, c_34, hqa.t hQ1.q9, (if_neg (by rw [q56_2]; decide)).trans ((if_neg (by rw [q56_2]; decide)).trans ((if_pos q56_2).trans (if_pos c_109)))⟩)) dX12_pair_117
            refine lv_tableOut (tgt := 118) hx hb dX12_pair_56 (by have := lv_neT (a := 0) q56_0 rfl; have := lv_neT (a := 1) q56_1 rfl; have := lv_neT (a := 2) q56_2 rfl; omega) (by decide) ?_
            refine lv_aload_n hx hb dX12_pair_118 rfl (lv_at hl 0 rfl) ?_
            refine lv_iload_n hx hb dX12_pair_119 rfl (lv_at hl 1 rfl) ?_
            refine lv_iload_n hx hb dX12_pair_120 rfl (lv_at hl 2 rfl) ?_
            refine lv_iload_n hx hb dX12_pair_121 rfl (lv_at hl 3 rfl) ?_
            refine z_calli (va_runV (As := [.int (nI ka), .int (nI kb), .int rw9]) (rest := []) ⟨hx, hb, hml, hown, hts⟩ ((c_X12_plainWorth l hG (zsrI x 100 (zputn (x.1 85) (x.1 100) 8)) N F C ka kb rw9 (zRef_q hqa hr0) (zCls_q hqa hcs) hka8 hkb8 (by rw [hqa.1 78 (by decide) (by decide)]; exact hkd ka hka)) A) (cwV 3 hts gX12_pair_X12_plainWorth rfl rfl rfl (by decide +kernel) ⟨Nat.le_of_ble_eq_true rfl, Nat.le_of_ble_eq_true rfl⟩) (z_pV hI hK hN (z_recv hK hI (zo77 hG) rfl)) rfl rfl hl.1 rfl (lv_room (Nat.le_of_ble_eq_true rfl)) dX12_pair_122 ⟨Nat.zero_le _, Nat.zero_le _⟩) hI (fun r_122 u H locs hw hI => ?_)
            obtain ⟨hq1, rfl⟩ := hw
            have hQ1 : zQ97 (zsrI x 100 (zputn (x.1 85) (x.1 100) 8)) u := hq1
            rw [zpwR_q hqa]
            refine lv_aload_n hx hb dX12_pair_125 rfl (lv_at hl 0 rfl) ?_
            refine z_get (C := RX12) (T := TX12) (N := 51) (ci := 12) (v := .ref (za G 78)) hx hb hts hin12 hown hK hI (zo77 hG) rfl 2 (by decide) wF16 (fun _ h9 => h9) rfl dX12_pair_126 ?_
            refine lv_iload_n hx hb dX12_pair_129 rfl (lv_at hl 1 rfl) ?_
            refine z_iald (v := (x.1 78 ka)) hx hb hK hI (zo78 hG) ka rfl (by omega) (by decide) ((congrFun (hQ1.1 78 (by decide)) ka).trans (congrFun (hqa.1 78 (by decide) (by decide)) ka)) dX12_pair_130 ?_
            refine lv_iconst (v := (nI 5)) hx hb dX12_pair_131 rfl ?_
            refine lv_icmp_ne (tgt := 155) hx hb dX12_pair_132 (by decide) (fun c_132 => ?_) (fun c_132 => ?_)
            · skip
              refine lv_iconst (v := (nI 0)) hx hb dX12_pair_155 rfl ?_
              refine lv_isub hx hb dX12_pair_156 ?_
              exact z_iret hx hb hr hlocks hI (Or.inr (Or.inr ⟨ka, kb, hka, hkb, c_43, rfl, rfl, c_23, c_34, hqa.t hQ1.q9, (if_neg q56_0).trans ((if_neg q56_1).trans ((if_neg q56_2).trans (by rw [if_neg c_132])))⟩)) dX12_pair_157
            · skip
              refine lv_aload_n hx hb dX12_pair_135 rfl (lv_at hl 0 rfl) ?_
              refine z_get (C := RX12) (T := TX12) (N := 51) (ci := 12) (v := .ref (za G 79)) hx hb hts hin12 hown hK hI (zo77 hG) rfl 3 (by decide) wF20 (fun _ h9 => h9) rfl dX12_pair_136 ?_
              refine lv_iload_n hx hb dX12_pair_139 rfl (lv_at hl 1 rfl) ?_
              refine z_iald (v := (x.1 79 ka)) hx hb hK hI (zo79 hG) ka rfl (by omega) (by decide) ((congrFun (hQ1.1 79 (by decide)) ka).trans (congrFun (hqa.1 79 (by decide) (by decide)) ka)) dX12_pair_140 ?_
              refine lv_aload_n hx hb dX12_pair_141 rfl (lv_at hl 0 rfl) ?_
              refine lv_aload_n hx hb dX12_pair_142 rfl (lv_at hl 0 rfl) ?_
              refine z_get (C := RX12) (T := TX12) (N := 51) (ci := 12) (v := .ref (za G 84)) hx hb hts hin12 hown hK hI (zo77 hG) rfl 8 (by decide) wF35 (fun _ h9 => h9) rfl dX12_pair_143 ?_
              refine lv_iload_n hx hb dX12_pair_146 rfl (lv_at hl 1 rfl) ?_
              refine z_iald (v := (nI (zse x ka))) hx hb hK hI (zo84 hG) ka rfl (by omega) (by decide) ((congrFun (hQ1.1 84 (by decide)) ka).trans ((congrFun (hqa.1 84 (by decide) (by decide)) ka).trans hse.1)) dX12_pair_147 ?_
              refine z_calli (va_runV (As := [.int (nI (zse x ka))]) (rest := [.int (x.1 79 ka), .int (zpwR x N F C ka kb rw9)]) ⟨hx, hb, hml, hown, hts⟩ ((c_X12_across l hG u (zse x ka) hse.2) A) (cwV 1 hts gX12_pair_X12_across rfl rfl rfl (by decide +kernel) ⟨Nat.le_of_ble_eq_true rfl, Nat.le_of_ble_eq_true rfl⟩) (z_pV hI hK hN (z_recv hK hI (zo77 hG) rfl)) rfl rfl hl.1 rfl (lv_room (Nat.le_of_ble_eq_true rfl)) dX12_pair_148 ⟨Nat.zero_le _, Nat.zero_le _⟩) hI (fun r_148 u H locs hw hI => ?_)
              obtain ⟨rfl, rfl⟩ := hw
              have hac : zac u (zse x ka) = (zocR (x.1 85 (2 * (zse x ka / 2 ^^^ 1))) + zocR (x.1 85 (2 * (zse x ka / 2 ^^^ 1) + 1))) := by unfold zac; rw [hQ1.1 100 (by decide), zsrI_u, show zputn (x.1 85) (x.1 100) 8 (2 * (zse x ka / 2 ^^^ 1)) = _ from if_pos (by have := zxor3 hse.2; omega), show zputn (x.1 85) (x.1 100) 8 (2 * (zse x ka / 2 ^^^ 1) + 1) = _ from if_pos (zxor3 hse.2)]
              rw [hac]
              refine lv_imul hx hb dX12_pair_151 ?_
              refine lv_goto (tgt := 156) hx hb dX12_pair_152 (by decide) ?_
              refine lv_isub hx hb dX12_pair_156 ?_
              exact z_iret hx hb hr hlocks hI (Or.inr (Or.inr ⟨ka, kb, hka, hkb, c_43, rfl, rfl, c_23, c_34, hqa.t hQ1.q9, (if_neg q56_0).trans ((if_neg q56_1).trans ((if_neg q56_2).trans (by rw [if_pos c_132])))⟩)) dX12_pair_157
          · skip
            rw [zqE (by omega) (by omega)] at c_43
            refine lv_ldcw (v := (-100002)) hx hb hown wK259 dX12_pair_46 ?_
            exact z_iret hx hb hr hlocks hI (Or.inr (Or.inl ⟨hp9, by rw [c_43], rfl, rfl⟩)) dX12_pair_49
        · skip
          rw [zb_0] at c_34
          refine lv_ldcw (v := (-100001)) hx hb hown wK258 dX12_pair_37 ?_
          exact z_iret hx hb hr hlocks hI (Or.inl ⟨fun h => c_34 h.2.2.2, rfl, rfl⟩) dX12_pair_40
