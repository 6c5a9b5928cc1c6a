set_option maxHeartbeats 1000000 in
set_option maxRecDepth 100000 in
theorem c_X12_takesClause (l : Launch) {G : zG} (hG : zOK G) (x : zX) (c1 : Nat) (p1 s1 n1 F : Nat) (o1 d1 : Int32) (w4 w5 : Nat → Int32) (hfd : x.1 77 14 = nI F) (hF : F ≤ 100) (hp1 : p1 ≤ F) (hlt : ∀ k, k < 16 → ¬ x.1 96 k = -1) (hc9 : c1 < 60) (hs9 : s1 + (F - p1) ≤ 600) : zMi l yX12_takesClause wsX12_takesClause { frames := 5, cells := 0, slots := 0, locals := 109 } G [.ref (za G 77), .int (nI c1)] (zrr x p1 s1 n1 o1 d1 w4 w5) (fun (r : Int32) (u : zX) => zru (zrC x (zrt x F) F c1 p1 s1 n1 o1 d1 w4 w5).2.1 (zrC x (zrt x F) F c1 p1 s1 n1 o1 d1 w4 w5).2.2 = u ∧ (if (zrC x (zrt x F) F c1 p1 s1 n1 o1 d1 w4 w5).1 = true then nI 1 else nI 0) = r) := by
  intro A
  refine zBody (cc := cX12_takesClause) (maxL := 2) (ret := (some .boolean)) (by decide) rfl (Nat.le_of_ble_eq_true rfl) ?_
  intro p e s m below meth c hx hb hml hown hts hr hlocks hK hN hI ls hl
  have hown : s.vm.findClass RX12 = some m.cls := hown
  have hl : lv_has ls 2 [(0, .ref (za G 77)), (1, .int (nI c1))] := hl
  have hin12 : ∀ w ∈ wsX120, w ∈ wsX12_takesClause := (fun _ h => List.mem_cons_of_mem _ (List.mem_append_right _ (h)))
  have wF69 := hts (.fieldLink RX12 69 "WhoSitsByModel" "word" "[I") (z_mem 1 rfl)
  have wF72 := hts (.fieldLink RX12 72 "WhoSitsByModel" "number" "[I") (z_mem 2 rfl)
  have wF60 := hts (.fieldLink RX12 60 "WhoSitsByModel" "digits" "I") (z_mem 3 rfl)
  refine lv_aload_n hx hb dX12_takesClause_0 rfl (lv_at hl 0 rfl) ?_
  refine lv_iload_n hx hb dX12_takesClause_1 rfl (lv_at hl 1 rfl) ?_
  refine z_calli (va_runV (As := [.int (nI c1)]) (rest := []) ⟨hx, hb, hml, hown, hts⟩ ((c_X12_takesHead l hG x c1 p1 s1 n1 F o1 d1 w4 w5 hfd hF (by omega) hlt (by omega)) A) (cwV 1 hts gX12_takesClause_X12_takesHead rfl rfl rfl (by decide +kernel) ⟨Nat.le_of_ble_eq_true rfl, Nat.le_of_ble_eq_true rfl⟩) (z_pV hI hK hN (z_recv hK hI (zo77 hG) rfl)) rfl rfl hl.1 rfl (lv_room (Nat.le_of_ble_eq_true rfl)) dX12_takesClause_2 ⟨Nat.zero_le _, Nat.zero_le _⟩) hI (fun r_2 u H locs hw hI => ?_)
  obtain ⟨rfl, rfl⟩ := hw
  have hhd := zrH_in (x := x) (p := p1) (zrt_e (x := x) (F := F)) (by omega) hlt
  refine lv_if_ne (tgt := 10) hx hb dX12_takesClause_5 (by decide) (fun c_5 => ?_) (fun c_5 => ?_)
  · skip
    rw [zb_0, Classical.not_not] at c_5
    refine lv_aload_n hx hb dX12_takesClause_10 rfl (lv_at hl 0 rfl) ?_
    refine z_get (C := RX12) (T := TX12) (N := 51) (ci := 12) (v := .ref (za G 90)) hx hb hts hin12 hown hK hI (zo77 hG) rfl 19 (by decide) wF69 (fun _ h9 => h9) rfl dX12_takesClause_11 ?_
    refine lv_iload_n hx hb dX12_takesClause_14 rfl (lv_at hl 1 rfl) ?_
    refine z_iald (v := (zrhw (zrt x F) p1)) hx hb hK hI (zo90 hG) c1 rfl (by omega) (by decide) (by rw [zrr_n (by decide) (by decide) (by decide), zsI_u]; exact if_pos rfl) dX12_takesClause_15 ?_
    refine lv_iconst (v := (nI 2)) hx hb dX12_takesClause_16 rfl ?_
    refine lv_icmp_ne (tgt := 26) hx hb dX12_takesClause_17 (by decide) (fun c_17 => ?_) (fun c_17 => ?_)
    · skip
      refine lv_aload_n hx hb dX12_takesClause_26 rfl (lv_at hl 0 rfl) ?_
      refine z_calli (va_runV (As := []) (rest := []) ⟨hx, hb, hml, hown, hts⟩ ((c_X12_takesNumber l hG (zsI x 90 c1 (zrhw (zrt x F) p1)) ((zrH x (zrt x F) p1).2) s1 n1 F o1 d1 w4 w5 hfd hF (by omega)) A) (cwV 0 hts gX12_takesClause_X12_takesNumber rfl rfl rfl (by decide +kernel) ⟨Nat.le_of_ble_eq_true rfl, Nat.le_of_ble_eq_true rfl⟩) (z_pV hI hK hN (z_recv hK hI (zo77 hG) rfl)) rfl rfl hl.1 rfl (lv_room (Nat.le_of_ble_eq_true rfl)) dX12_takesClause_27 ⟨Nat.zero_le _, Nat.zero_le _⟩) hI (fun r_27 u H locs hw hI => ?_)
      rw [show zrt (zsI x 90 c1 (zrhw (zrt x F) p1)) F = zrt x F from rfl] at hw
      obtain ⟨rfl, rfl⟩ := hw
      have hnu_27 := znuR_in (T := zrt x F) (p := ((zrH x (zrt x F) p1).2)) (d := d1) (zrt_e (x := x) (F := F)) (by omega)
      refine lv_if_ne (tgt := 35) hx hb dX12_takesClause_30 (by decide) (fun c_30 => ?_) (fun c_30 => ?_)
      · skip
        rw [zb_0, Classical.not_not] at c_30
        refine lv_aload_n hx hb dX12_takesClause_35 rfl (lv_at hl 0 rfl) ?_
        refine z_get (C := RX12) (T := TX12) (N := 51) (ci := 12) (v := .ref (za G 91)) hx hb hts hin12 hown hK hI (zo77 hG) rfl 20 (by decide) wF72 (fun _ h9 => h9) rfl dX12_takesClause_36 ?_
        refine lv_iload_n hx hb dX12_takesClause_39 rfl (lv_at hl 1 rfl) ?_
        refine lv_aload_n hx hb dX12_takesClause_40 rfl (lv_at hl 0 rfl) ?_
        refine z_get (C := RX12) (T := TX12) (N := 51) (ci := 12) (v := .int ((znuR (zrt x F) ((zrH x (zrt x F) p1).2) d1).2.2)) hx hb hts hin12 hown hK hI (zo77 hG) rfl 16 (by decide) wF60 (fun _ h9 => h9) rfl dX12_takesClause_41 ?_
        refine z_iast (y := ((znuR (zrt x F) ((zrH x (zrt x F) p1).2) d1).2.2)) hx hb hK hI (zo91 hG) c1 rfl (by omega) (by decide) dX12_takesClause_44 (fun H locs hI => ?_)
        rw [zrr_o (i := 91) (by decide) (by decide) (by decide)] at hI
        refine lv_aload_n hx hb dX12_takesClause_45 rfl (lv_at hl 0 rfl) ?_
        refine z_get (C := RX12) (T := TX12) (N := 51) (ci := 12) (v := .ref (za G 90)) hx hb hts hin12 hown hK hI (zo77 hG) rfl 19 (by decide) wF69 (fun _ h9 => h9) rfl dX12_takesClause_46 ?_
        refine lv_iload_n hx hb dX12_takesClause_49 rfl (lv_at hl 1 rfl) ?_
        refine z_iald (v := (zrhw (zrt x F) p1)) hx hb hK hI (zo90 hG) c1 rfl (by omega) (by decide) (by rw [zrr_n (by decide) (by decide) (by decide), zsI_n (by decide), zsI_u]; exact if_pos rfl) dX12_takesClause_50 ?_
        refine lv_iconst (v := (nI 3)) hx hb dX12_takesClause_51 rfl ?_
        refine lv_icmp_eq (tgt := 72) hx hb dX12_takesClause_52 (by decide) (fun c_52 => ?_) (fun c_52 => ?_)
        · skip
          refine lv_iconst (v := (nI 1)) hx hb dX12_takesClause_72 rfl ?_
          refine lv_goto (tgt := 77) hx hb dX12_takesClause_73 (by decide) ?_
          exact z_zret hx hb hr hlocks hI (Or.inr rfl) ((by rw [show (zrC x (zrt x F) F c1 p1 s1 n1 o1 d1 w4 w5) = _ from ((if_pos c_5).trans ((if_neg c_17).trans ((if_pos c_30).trans ((if_pos c_52)))))]; exact ⟨rfl, rfl⟩)) dX12_takesClause_77
        · skip
          refine lv_aload_n hx hb dX12_takesClause_55 rfl (lv_at hl 0 rfl) ?_
          refine lv_bipush (v := (nI 32)) hx hb dX12_takesClause_56 rfl ?_
          refine z_calli (va_runV (As := [.int (nI 32)]) (rest := []) ⟨hx, hb, hml, hown, hts⟩ ((c_X12_takesR l hG (zsI (zsI x 90 c1 (zrhw (zrt x F) p1)) 91 c1 ((znuR (zrt x F) ((zrH x (zrt x F) p1).2) d1).2.2)) ((znuR (zrt x F) ((zrH x (zrt x F) p1).2) d1).2.1) s1 n1 o1 ((znuR (zrt x F) ((zrH x (zrt x F) p1).2) d1).2.2) w4 w5 F (nI 32) hfd hF (by omega)) A) (cwV 1 hts gX12_takesClause_X12_takes rfl rfl rfl (by decide +kernel) ⟨Nat.le_of_ble_eq_true rfl, Nat.le_of_ble_eq_true rfl⟩) (z_pV hI hK hN (z_recv hK hI (zo77 hG) rfl)) rfl rfl hl.1 rfl (lv_room (Nat.le_of_ble_eq_true rfl)) dX12_takesClause_58 ⟨Nat.zero_le _, Nat.zero_le _⟩) hI (fun r_58 u H locs hw hI => ?_)
          rw [show zrt (zsI (zsI x 90 c1 (zrhw (zrt x F) p1)) 91 c1 ((znuR (zrt x F) ((zrH x (zrt x F) p1).2) d1).2.2)) F = zrt x F from rfl] at hw
          rcases hw with ⟨hT_58, rfl, rfl⟩ | ⟨hT_58, rfl, rfl⟩
          · skip
            have hp_58 : ((znuR (zrt x F) ((zrH x (zrt x F) p1).2) d1).2.1) + 1 ≤ F := zrt_lt hT_58 (by decide)
            refine lv_if_eq (tgt := 76) hx hb dX12_takesClause_61 (by decide) (fun c_61 => absurd c_61 (by decide)) (fun c_61 => ?_)
            refine lv_aload_n hx hb dX12_takesClause_64 rfl (lv_at hl 0 rfl) ?_
            refine lv_iload_n hx hb dX12_takesClause_65 rfl (lv_at hl 1 rfl) ?_
            refine z_calli (va_runV (As := [.int (nI c1)]) (rest := []) ⟨hx, hb, hml, hown, hts⟩ ((c_X12_takesE l hG (zsI (zsI x 90 c1 (zrhw (zrt x F) p1)) 91 c1 ((znuR (zrt x F) ((zrH x (zrt x F) p1).2) d1).2.2)) c1 (((znuR (zrt x F) ((zrH x (zrt x F) p1).2) d1).2.1) + 1) s1 n1 F o1 ((znuR (zrt x F) ((zrH x (zrt x F) p1).2) d1).2.2) w4 w5 hfd hF (by omega) (by omega) (by omega)) A) (cwV 1 hts gX12_takesClause_X12_takesE rfl rfl rfl (by decide +kernel) ⟨Nat.le_of_ble_eq_true rfl, Nat.le_of_ble_eq_true rfl⟩) (z_pV hI hK hN (z_recv hK hI (zo77 hG) rfl)) rfl rfl hl.1 rfl (lv_room (Nat.le_of_ble_eq_true rfl)) dX12_takesClause_66 ⟨Nat.zero_le _, Nat.zero_le _⟩) hI (fun r_66 u H locs hw hI => ?_)
            rw [show zrt (zsI (zsI x 90 c1 (zrhw (zrt x F) p1)) 91 c1 ((znuR (zrt x F) ((zrH x (zrt x F) p1).2) d1).2.2)) F = zrt x F from rfl] at hw
            obtain ⟨rfl, rfl⟩ := hw
            have hI : zI G (zru (zrCE (zsI (zsI x 90 c1 (zrhw (zrt x F) p1)) 91 c1 ((znuR (zrt x F) ((zrH x (zrt x F) p1).2) d1).2.2)) (zrt x F) F c1 (((znuR (zrt x F) ((zrH x (zrt x F) p1).2) d1).2.1) + 1) s1 n1 o1 ((znuR (zrt x F) ((zrH x (zrt x F) p1).2) d1).2.2) w4 w5).2.1 (zrCE (zsI (zsI x 90 c1 (zrhw (zrt x F) p1)) 91 c1 ((znuR (zrt x F) ((zrH x (zrt x F) p1).2) d1).2.2)) (zrt x F) F c1 (((znuR (zrt x F) ((zrH x (zrt x F) p1).2) d1).2.1) + 1) s1 n1 o1 ((znuR (zrt x F) ((zrH x (zrt x F) p1).2) d1).2.2) w4 w5).2.2) A s.heap H locs := hI
            refine lv_if_eq (tgt := 76) hx hb dX12_takesClause_69 (by decide) (fun c_69 => ?_) (fun c_69 => ?_)
            · skip
              rw [zb_0] at c_69
              refine lv_iconst (v := (nI 0)) hx hb dX12_takesClause_76 rfl ?_
              exact z_zret hx hb hr hlocks hI (Or.inl rfl) ((by rw [show (zrC x (zrt x F) F c1 p1 s1 n1 o1 d1 w4 w5) = _ from ((if_pos c_5).trans ((if_neg c_17).trans ((if_pos c_30).trans ((if_neg c_52).trans ((if_pos hT_58))))))]; exact ⟨rfl, if_neg c_69⟩)) dX12_takesClause_77
            · skip
              rw [zb_0, Classical.not_not] at c_69
              refine lv_iconst (v := (nI 1)) hx hb dX12_takesClause_72 rfl ?_
              refine lv_goto (tgt := 77) hx hb dX12_takesClause_73 (by decide) ?_
              exact z_zret hx hb hr hlocks hI (Or.inr rfl) ((by rw [show (zrC x (zrt x F) F c1 p1 s1 n1 o1 d1 w4 w5) = _ from ((if_pos c_5).trans ((if_neg c_17).trans ((if_pos c_30).trans ((if_neg c_52).trans ((if_pos hT_58))))))]; exact ⟨rfl, if_pos c_69⟩)) dX12_takesClause_77
          · skip
            refine lv_if_eq (tgt := 76) hx hb dX12_takesClause_61 (by decide) (fun c_61 => ?_) (fun c_61 => absurd c_61 (by decide))
            refine lv_iconst (v := (nI 0)) hx hb dX12_takesClause_76 rfl ?_
            exact z_zret hx hb hr hlocks hI (Or.inl rfl) ((by rw [show (zrC x (zrt x F) F c1 p1 s1 n1 o1 d1 w4 w5) = _ from ((if_pos c_5).trans ((if_neg c_17).trans ((if_pos c_30).trans ((if_neg c_52).trans ((if_neg hT_58))))))]; exact ⟨rfl, rfl⟩)) dX12_takesClause_77
      · skip
        rw [zb_0] at c_30
        have hI : zI G (zrr (zsI x 90 c1 (zrhw (zrt x F) p1)) (zrH x (zrt x F) p1).2 s1 n1 o1 d1 w4 w5) A s.heap H locs := by rw [show (znuR (zrt x F) (zrH x (zrt x F) p1).2 d1) = _ from znuR_f c_30] at hI; exact hI
        refine lv_iconst (v := (nI 0)) hx hb dX12_takesClause_33 rfl ?_
        exact z_zret hx hb hr hlocks hI (Or.inl rfl) ((by rw [show (zrC x (zrt x F) F c1 p1 s1 n1 o1 d1 w4 w5) = _ from ((if_pos c_5).trans ((if_neg c_17).trans ((if_neg c_30))))]; exact ⟨rfl, rfl⟩)) dX12_takesClause_34
    · skip
      refine lv_aload_n hx hb dX12_takesClause_20 rfl (lv_at hl 0 rfl) ?_
      refine lv_iload_n hx hb dX12_takesClause_21 rfl (lv_at hl 1 rfl) ?_
      refine z_calli (va_runV (As := [.int (nI c1)]) (rest := []) ⟨hx, hb, hml, hown, hts⟩ ((c_X12_takesE l hG (zsI x 90 c1 (zrhw (zrt x F) p1)) c1 ((zrH x (zrt x F) p1).2) s1 n1 F o1 d1 w4 w5 hfd hF (by omega) (by omega) (by omega)) A) (cwV 1 hts gX12_takesClause_X12_takesE rfl rfl rfl (by decide +kernel) ⟨Nat.le_of_ble_eq_true rfl, Nat.le_of_ble_eq_true rfl⟩) (z_pV hI hK hN (z_recv hK hI (zo77 hG) rfl)) rfl rfl hl.1 rfl (lv_room (Nat.le_of_ble_eq_true rfl)) dX12_takesClause_22 ⟨Nat.zero_le _, Nat.zero_le _⟩) hI (fun r_22 u H locs hw hI => ?_)
      rw [show zrt (zsI x 90 c1 (zrhw (zrt x F) p1)) F = zrt x F from rfl] at hw
      obtain ⟨rfl, rfl⟩ := hw
      have hI : zI G (zru (zrCE (zsI x 90 c1 (zrhw (zrt x F) p1)) (zrt x F) F c1 ((zrH x (zrt x F) p1).2) s1 n1 o1 d1 w4 w5).2.1 (zrCE (zsI x 90 c1 (zrhw (zrt x F) p1)) (zrt x F) F c1 ((zrH x (zrt x F) p1).2) s1 n1 o1 d1 w4 w5).2.2) A s.heap H locs := hI
      exact z_zret hx hb hr hlocks hI (zb01 _) ((by rw [show (zrC x (zrt x F) F c1 p1 s1 n1 o1 d1 w4 w5) = _ from ((if_pos c_5).trans ((if_pos c_17)))]; exact ⟨rfl, rfl⟩)) dX12_takesClause_25
  · skip
    rw [zb_0] at c_5
    refine lv_iconst (v := (nI 0)) hx hb dX12_takesClause_8 rfl ?_
    exact z_zret hx hb hr hlocks hI (Or.inl rfl) ((by rw [show (zrC x (zrt x F) F c1 p1 s1 n1 o1 d1 w4 w5) = _ from ((if_neg c_5))]; exact ⟨rfl, rfl⟩)) dX12_takesClause_9
