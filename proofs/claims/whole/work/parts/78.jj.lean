set_option maxHeartbeats 1000000 in
set_option maxRecDepth 100000 in
theorem c_X5_take (l : Launch) {G : zG} (hG : zOK G) (aK aV : Nat → Nat) (x : zX) (b F : Nat) (hb0 : zRm b) (hF : F ≤ 100) (htx : zTx x b) (htx9 : ∀ k, k < 100 → ∃ q, q < 128 ∧ x.1 9 k = nI q) : zMiS l yX5_take wsX5_take { frames := 21, cells := 0, slots := 0, locals := 501 } G aK aV [.ref (za G b), .ref (za G 9), .int (nI F)] x (fun (r : Int32) (u : zX) => zrd (zby (zt0 x b F) b F) F b 10 0 (zt0 x b F) 0 [] = (r, u)) := by
  intro A
  refine zBodyS (cc := cX5_take) (maxL := 4) (ret := (some .int)) (by decide) rfl (Nat.le_of_ble_eq_true rfl) ?_
  intro p e s m below meth c hx hb hml hown hts hr hlocks hK hN hSS hI ls hl
  have hown : s.vm.findClass RX5 = some m.cls := hown
  have hl : lv_has ls 4 [(0, .ref (za G b)), (1, .ref (za G 9)), (2, .int (nI F))] := hl
  have hin5 : ∀ w ∈ wsX50, w ∈ wsX5_take := (fun _ h => List.mem_cons_of_mem _ (List.mem_append_right _ (h)))
  have wF28 := hts (.fieldLink RX5 28 "WhoSitsBy$Room" "source" "[B") (z_mem 1 rfl)
  have wM35 := hts (.methodLink RX5 35 Lib.Math.min.name) (z_mem 2 rfl)
  have wMs35 := hts (.static Lib.Math.min.name) (z_mem 3 rfl)
  have wMi := hts (.initialized "java/lang/Math") (z_mem 4 rfl)
  have wMc35 := hts (.code Lib.Math.min.name Lib.Math.min.code 2 (some .int)) (z_mem 5 rfl)
  have wM41 := hts (.methodLink RX5 41 Lib.Math.max.name) (z_mem 6 rfl)
  have wMs41 := hts (.static Lib.Math.max.name) (z_mem 7 rfl)
  have wMc41 := hts (.code Lib.Math.max.name Lib.Math.max.code 2 (some .int)) (z_mem 8 rfl)
  have wF44 := hts (.fieldLink RX5 44 "WhoSitsBy$Room" "length" "I") (z_mem 9 rfl)
  have wA1 := hts (.methodLink RX5 47 arraycopyName) (z_mem 10 rfl)
  have wA2 := hts (.native arraycopyName) (z_mem 11 rfl)
  have wA3 := hts (.static arraycopyName) (z_mem 12 rfl)
  have wA4 := hts (.initialized "java/lang/System") (z_mem 13 rfl)
  have wF53 := hts (.fieldLink RX5 53 "WhoSitsBy$Room" "at" "I") (z_mem 14 rfl)
  have wF56 := hts (.fieldLink RX5 56 "WhoSitsBy$Room" "clauseCount" "I") (z_mem 15 rfl)
  have wF59 := hts (.fieldLink RX5 59 "WhoSitsBy$Room" "codeCount" "I") (z_mem 16 rfl)
  have wF24 := hts (.fieldLink RX5 24 "WhoSitsBy$Room" "hushing" "I") (z_mem 17 rfl)
  have hbb := zRm_b hb0
  refine lv_aload_n hx hb dX5_take_0 rfl (lv_at hl 0 rfl) ?_
  refine lv_iconst (v := (nI 0)) hx hb dX5_take_1 rfl ?_
  refine lv_iload_n hx hb dX5_take_2 rfl (lv_at hl 2 rfl) ?_
  refine lv_aload_n hx hb dX5_take_3 rfl (lv_at hl 1 rfl) ?_
  refine z_alen (v := nI 100) hx hb hK hI 2 (zo9 hG).1 ((zo9 hG).2 _) rfl rfl dX5_take_4 ?_
  refine lv_aload_n hx hb dX5_take_5 rfl (lv_at hl 0 rfl) ?_
  refine z_get (C := RX5) (T := TX5) (N := 11) (ci := 5) (v := .ref (za G (b + 5))) hx hb hts hin5 hown hK hI (zor hG hb0) rfl 7 (by decide) wF28 (fun _ h9 => h9) rfl dX5_take_6 ?_
  refine z_alen (v := nI 100) hx hb hK hI 2 (zor5 hG hb0).1 ((zor5 hG hb0).2 _) rfl rfl dX5_take_9 ?_
  refine va_mmin hx hb (hml.trans hl.1.symm) hown wM35 wMs35 wMi wMc35 (Nat.le_of_ble_eq_true rfl) (Nat.le_of_ble_eq_true rfl) (Nat.zero_le _) (Nat.zero_le _) dX5_take_10 ?_
  rw [show (if nI 100 < nI 100 then nI 100 else nI 100) = nI 100 from rfl]
  refine va_mmin hx hb (hml.trans hl.1.symm) hown wM35 wMs35 wMi wMc35 (Nat.le_of_ble_eq_true rfl) (Nat.le_of_ble_eq_true rfl) (Nat.zero_le _) (Nat.zero_le _) dX5_take_13 ?_
  rw [show (if nI 100 < nI F then nI 100 else nI F) = nI F from if_neg (fun h9 => absurd ((zqL (by omega) (by omega)).mp h9) (by omega))]
  refine va_mmax hx hb (hml.trans hl.1.symm) hown wM41 wMs41 wMi wMc41 (Nat.le_of_ble_eq_true rfl) (Nat.le_of_ble_eq_true rfl) (Nat.zero_le _) (Nat.zero_le _) dX5_take_16 ?_
  rw [show (if nI 0 < nI F then nI F else nI 0) = nI F from z_max0 (by omega)]
  refine z_putI (C := RX5) (T := TX5) (N := 11) (ci := 5) (ty := .int) hx hb hts hin5 tyX5 tyX5_ok nmX5 hown hK hI (zor hG hb0) rfl 8 (by decide) wF44 (fun _ h9 => h9) rfl (fun _ _ => rfl) (by decide +kernel) rfl rfl (fun _ _ => Nat.le_of_ble_eq_true rfl) dX5_take_19 (fun H locs hI => ?_)
  refine lv_aload_n hx hb dX5_take_22 rfl (lv_at hl 1 rfl) ?_
  refine lv_iconst (v := (nI 0)) hx hb dX5_take_23 rfl ?_
  refine lv_aload_n hx hb dX5_take_24 rfl (lv_at hl 0 rfl) ?_
  refine z_get (C := RX5) (T := TX5) (N := 11) (ci := 5) (v := .ref (za G (b + 5))) hx hb hts hin5 hown hK hI (zor hG hb0) rfl 7 (by decide) wF28 (fun _ h9 => h9) rfl dX5_take_25 ?_
  refine lv_iconst (v := (nI 0)) hx hb dX5_take_28 rfl ?_
  refine lv_aload_n hx hb dX5_take_29 rfl (lv_at hl 0 rfl) ?_
  refine z_get (C := RX5) (T := TX5) (N := 11) (ci := 5) (v := .int (nI F)) hx hb hts hin5 hown hK hI (zor hG hb0) rfl 8 (by decide) wF44 (fun _ h9 => h9) (congrArg (fun q => some (Value.int q)) (by rw [zsI_u]; rfl)) dX5_take_30 ?_
  refine z_copyi hx hb (hml.trans hl.1.symm) hown wA1 wA2 wA3 wA4 hK hI 2 .byte rfl rfl (zo9 hG) (zor5 hG hb0) (sp := 0) (dp := 0) (n := F) (by omega) (by omega) (by decide) (by decide) (fun i hi => by rw [zsI_n (show 9 ≠ b by omega), Nat.zero_add]; obtain ⟨q, hq, e⟩ := htx9 i (by omega); rw [e]; exact zfitb hq) (Nat.le_of_ble_eq_true rfl) (Nat.le_of_ble_eq_true rfl) dX5_take_33 (fun H locs hI => ?_)
  rw [zsI_n (show 9 ≠ b by omega), zsI_n (show b + 5 ≠ b by omega)] at hI
  refine lv_aload_n hx hb dX5_take_36 rfl (lv_at hl 0 rfl) ?_
  refine lv_iconst (v := (nI 0)) hx hb dX5_take_37 rfl ?_
  refine z_putI (C := RX5) (T := TX5) (N := 11) (ci := 5) (ty := .int) hx hb hts hin5 tyX5 tyX5_ok nmX5 hown hK hI (zor hG hb0) rfl 9 (by decide) wF53 (fun _ h9 => h9) rfl (fun _ _ => rfl) (by decide +kernel) rfl rfl (fun _ _ => Nat.le_of_ble_eq_true rfl) dX5_take_38 (fun H locs hI => ?_)
  refine lv_aload_n hx hb dX5_take_41 rfl (lv_at hl 0 rfl) ?_
  refine lv_iconst (v := (nI 0)) hx hb dX5_take_42 rfl ?_
  refine z_putI (C := RX5) (T := TX5) (N := 11) (ci := 5) (ty := .int) hx hb hts hin5 tyX5 tyX5_ok nmX5 hown hK hI (zor hG hb0) rfl 4 (by decide) wF56 (fun _ h9 => h9) rfl (fun _ _ => rfl) (by decide +kernel) rfl rfl (fun _ _ => Nat.le_of_ble_eq_true rfl) dX5_take_43 (fun H locs hI => ?_)
  refine lv_aload_n hx hb dX5_take_46 rfl (lv_at hl 0 rfl) ?_
  refine lv_iconst (v := (nI 0)) hx hb dX5_take_47 rfl ?_
  refine z_putI (C := RX5) (T := TX5) (N := 11) (ci := 5) (ty := .int) hx hb hts hin5 tyX5 tyX5_ok nmX5 hown hK hI (zor hG hb0) rfl 5 (by decide) wF59 (fun _ h9 => h9) rfl (fun _ _ => rfl) (by decide +kernel) rfl rfl (fun _ _ => Nat.le_of_ble_eq_true rfl) dX5_take_48 (fun H locs hI => ?_)
  refine lv_aload_n hx hb dX5_take_51 rfl (lv_at hl 0 rfl) ?_
  refine lv_iconst (v := (nI 5)) hx hb dX5_take_52 rfl ?_
  refine z_putI (C := RX5) (T := TX5) (N := 11) (ci := 5) (ty := .int) hx hb hts hin5 tyX5 tyX5_ok nmX5 hown hK hI (zor hG hb0) rfl 6 (by decide) wF24 (fun _ h9 => h9) rfl (fun _ _ => rfl) (by decide +kernel) rfl rfl (fun _ _ => Nat.le_of_ble_eq_true rfl) dX5_take_53 (fun H locs hI => ?_)
  have hI : zI G (zpz (zt0 x b F) b 0 []) A s.heap H locs := by rw [zpz_e (by rw [zt0_b]; rfl) (by rw [zt0_b]; rfl)]; exact hI
  refine lv_iconst (v := (nI 0)) hx hb dX5_take_56 rfl ?_
  refine lv_istore_n (lv' := [(3, .int (nI 0)), (0, .ref (za G b)), (1, .ref (za G 9)), (2, .int (nI F))]) hx hb dX5_take_57 rfl hl (by decide) rfl (fun ls hl => ?_)
  have L58 : ∀ (f : Nat) (cq : Nat) (y : zX) (p1 : Nat) (cs : List Int32), (cq ≤ 9) → (zrd (zby (zt0 x b F) b F) F b (10 - cq) cq y p1 cs = zrd (zby (zt0 x b F) b F) F b 10 0 (zt0 x b F) 0 []) → (y.1 b 8 = nI F) → (y.1 b 4 = nI cq) → (zTx y b) → (zby y b F = (zby (zt0 x b F) b F)) → (p1 ≤ F) → (cs.length ≤ 100) → 10 ≤ cq + f → ∀ (H : Heap) (locs : List Loc), zI G (zpz y b p1 cs) A s.heap H locs → ∀ ls : Array Slot, lv_has ls 4 [(0, .ref (za G b)), (1, .ref (za G 9)), (2, .int (nI F)), (3, .int (nI cq))] → W p l e { frames := 21, cells := 0, slots := 0, locals := 501 } s m ([.ref (za G b), .ref (za G 9), .int (nI F)] : List Value).toArray below meth c H locs 0 0 (MQ below (va_Qi (fun (r : Int32) (u : zX) => zrd (zby (zt0 x b F) b F) F b 10 0 (zt0 x b F) 0 [] = (r, u)) (fun u t => zJ G u A t.heap) A) ([.ref (za G b), .ref (za G 9), .int (nI F)] : List Value).toArray s 0 0 A) (F0 m 58 ls []) := by
    intro f
    induction f with
    | zero =>
      intro cq y p1 cs h1 h2 hy8 hy4 hyx hyT hpL hcs hf
      exact absurd hf (by omega)
    | succ f ih =>
      intro cq y p1 cs h1 h2 hy8 hy4 hyx hyT hpL hcs hf H locs hI ls hl
      have ih58 := ih
      refine lv_iload_n hx hb dX5_take_58 rfl (lv_at hl 3 rfl) ?_
      refine lv_bipush (v := (nI 10)) hx hb dX5_take_59 rfl ?_
      refine lv_icmp_ge (tgt := 115) hx hb dX5_take_61 (by decide) (fun c_61 => ?_) (fun c_61 => ?_)
      · skip
        rw [zqG (by omega) (by omega)] at c_61
        exact absurd c_61 (by omega)
      · skip
        rw [zqG (by omega) (by omega)] at c_61
        refine lv_aload_n hx hb dX5_take_64 rfl (lv_at hl 0 rfl) ?_
        refine z_calli (va_runV (As := []) (rest := []) ⟨hx, hb, hml, hown, hts⟩ ((c_X5_takeClause l hG aK aV y b F p1 cq cs hb0 hy8 hF hyx hpL hcs hy4 (by omega)) A) (cwV 0 hts gX5_take_X5_takeClause rfl rfl rfl (by decide +kernel) ⟨Nat.le_of_ble_eq_true rfl, Nat.le_of_ble_eq_true rfl⟩) (z_pVS hI hK hN hSS (z_recv hK hI (zor hG hb0) rfl)) rfl rfl hl.1 rfl (lv_room (Nat.le_of_ble_eq_true rfl)) dX5_take_65 ⟨Nat.zero_le _, Nat.zero_le _⟩) hI (fun r_65 u H locs hw hI => ?_)
        rw [hyT] at hw
        obtain ⟨rfl, rfl⟩ := hw
        have hin : (zcla (zby (zt0 x b F) b F) p1 cs).2.1 ≤ F ∧ (zcla (zby (zt0 x b F) b F) p1 cs).2.2.length ≤ 100 := zcla_in zby_e hpL hcs
        refine lv_if_ne (tgt := 76) hx hb dX5_take_68 (by decide) (fun c_68 => ?_) (fun c_68 => ?_)
        · skip
          rw [zb_0, Classical.not_not] at c_68
          refine lv_aload_n hx hb dX5_take_76 rfl (lv_at hl 0 rfl) ?_
          refine z_get (C := RX5) (T := TX5) (N := 11) (ci := 5) (v := .int (nI ((zcla (zby (zt0 x b F) b F) p1 cs).2.1))) hx hb hts hin5 hown hK hI (zor hG hb0) rfl 9 (by decide) wF53 (fun _ h9 => h9) (congrArg (fun q => some (Value.int q)) zpz_at) dX5_take_77 ?_
          refine lv_aload_n hx hb dX5_take_80 rfl (lv_at hl 0 rfl) ?_
          refine z_get (C := RX5) (T := TX5) (N := 11) (ci := 5) (v := .int (nI F)) hx hb hts hin5 hown hK hI (zor hG hb0) rfl 8 (by decide) wF44 (fun _ h9 => h9) (congrArg (fun q => some (Value.int q)) (by rw [zpz_k (by decide) (by decide), zkq_k (by decide) (by decide)]; exact hy8)) dX5_take_81 ?_
          refine lv_icmp_lt (tgt := 89) hx hb dX5_take_84 (by decide) (fun c_84 => ?_) (fun c_84 => ?_)
          · skip
            rw [zqL (by omega) (by omega)] at c_84
            refine lv_iload_n hx hb dX5_take_89 rfl (lv_at hl 3 rfl) ?_
            refine lv_bipush (v := (nI 9)) hx hb dX5_take_90 rfl ?_
            refine lv_icmp_eq (tgt := 104) hx hb dX5_take_92 (by decide) (fun c_92 => ?_) (fun c_92 => ?_)
            · skip
              rw [zqE (by omega) (by omega)] at c_92
              refine lv_aload_n hx hb dX5_take_104 rfl (lv_at hl 0 rfl) ?_
              refine z_get (C := RX5) (T := TX5) (N := 11) (ci := 5) (v := .int (nI ((zcla (zby (zt0 x b F) b F) p1 cs).2.1))) hx hb hts hin5 hown hK hI (zor hG hb0) rfl 9 (by decide) wF53 (fun _ h9 => h9) (congrArg (fun q => some (Value.int q)) zpz_at) dX5_take_105 ?_
              exact z_iret hx hb hr hlocks hI (by rw [← h2, show 10 - cq = (9 - cq) + 1 by omega, zrd, if_pos c_68, if_neg (by omega), if_pos (by omega)]) dX5_take_108
            · skip
              rw [zqE (by omega) (by omega)] at c_92
              refine lv_aload_n hx hb dX5_take_95 rfl (lv_at hl 0 rfl) ?_
              refine lv_bipush (v := (nI 59)) hx hb dX5_take_96 rfl ?_
              refine z_calli (va_runV (As := [.int (nI 59)]) (rest := []) ⟨hx, hb, hml, hown, hts⟩ ((c_X5_takesZ l hG (zkq y b cq (zcla (zby (zt0 x b F) b F) p1 cs)) b F (zcla (zby (zt0 x b F) b F) p1 cs).2.1 (zcla (zby (zt0 x b F) b F) p1 cs).2.2 (nI 59) hb0 ((zkq_k (by decide) (by decide)).trans hy8) hF hin.1) A) (cwV 1 hts gX5_take_X5_takes rfl rfl rfl (by decide +kernel) ⟨Nat.le_of_ble_eq_true rfl, Nat.le_of_ble_eq_true rfl⟩) (z_pV hI hK hN (z_recv hK hI (zor hG hb0) rfl)) rfl rfl hl.1 rfl (lv_room (Nat.le_of_ble_eq_true rfl)) dX5_take_98 ⟨Nat.zero_le _, Nat.zero_le _⟩) hI (fun r_98 u H locs hw hI => ?_)
              rw [zkq_by, hyT] at hw
              obtain ⟨rfl, rfl⟩ := hw
              have hin2 : zIn F (ztke (zby (zt0 x b F) b F) (nI 59) (zcla (zby (zt0 x b F) b F) p1 cs).2.1 (zcla (zby (zt0 x b F) b F) p1 cs).2.2) := ztke_in zby_e (by decide) hin.1 hin.2
              refine lv_if_ne (tgt := 109) hx hb dX5_take_101 (by decide) (fun c_101 => ?_) (fun c_101 => ?_)
              · skip
                rw [zb_0, Classical.not_not] at c_101
                refine lv_iinc (v := (nI (cq + 1))) (lv' := [(3, .int (nI (cq + 1))), (0, .ref (za G b)), (1, .ref (za G 9)), (2, .int (nI F))]) hx hb dX5_take_109 hl (k := 3) rfl (zinc cq) (by decide) rfl (fun ls hl => ?_)
                refine lv_goto (tgt := 58) hx hb dX5_take_112 (by decide) ?_
                exact ih58 (cq + 1) (zkq y b cq (zcla (zby (zt0 x b F) b F) p1 cs)) ((ztke (zby (zt0 x b F) b F) (nI 59) (zcla (zby (zt0 x b F) b F) p1 cs).2.1 (zcla (zby (zt0 x b F) b F) p1 cs).2.2).2.1) ((ztke (zby (zt0 x b F) b F) (nI 59) (zcla (zby (zt0 x b F) b F) p1 cs).2.1 (zcla (zby (zt0 x b F) b F) p1 cs).2.2).2.2) (by omega) (by rw [← h2, show 10 - cq = (10 - (cq + 1)) + 1 by omega]; exact ((if_pos c_68).trans ((if_neg (by omega)).trans ((if_neg (by omega)).trans (if_pos c_101)))).symm) ((zkq_k (by decide) (by decide)).trans hy8) (zkq_4 c_68) (zkq_x hyx) (zkq_by.trans hyT) hin2.1 hin2.2 (by omega) _ _ hI ls (lv_sub hl [1, 2, 3, 0] rfl)
              · skip
                rw [zb_0] at c_101
                have hI : zI G (zpz (zkq y b cq (zcla (zby (zt0 x b F) b F) p1 cs)) b (zcla (zby (zt0 x b F) b F) p1 cs).2.1 (zcla (zby (zt0 x b F) b F) p1 cs).2.2) A s.heap H locs := by rw [ztke_f c_101] at hI; exact hI
                refine lv_aload_n hx hb dX5_take_104 rfl (lv_at hl 0 rfl) ?_
                refine z_get (C := RX5) (T := TX5) (N := 11) (ci := 5) (v := .int (nI ((zcla (zby (zt0 x b F) b F) p1 cs).2.1))) hx hb hts hin5 hown hK hI (zor hG hb0) rfl 9 (by decide) wF53 (fun _ h9 => h9) (congrArg (fun q => some (Value.int q)) zpz_at) dX5_take_105 ?_
                exact z_iret hx hb hr hlocks hI (by rw [← h2, show 10 - cq = (9 - cq) + 1 by omega, zrd, if_pos c_68, if_neg (by omega), if_neg (by omega), if_neg c_101]) dX5_take_108
          · skip
            rw [zqL (by omega) (by omega)] at c_84
            refine lv_iconst (v := (-1)) hx hb dX5_take_87 rfl ?_
            exact z_iret hx hb hr hlocks hI (by rw [← h2, show 10 - cq = (9 - cq) + 1 by omega, zrd, if_pos c_68, if_pos (by omega)]) dX5_take_88
        · skip
          rw [zb_0] at c_68
          refine lv_aload_n hx hb dX5_take_71 rfl (lv_at hl 0 rfl) ?_
          refine z_get (C := RX5) (T := TX5) (N := 11) (ci := 5) (v := .int (nI ((zcla (zby (zt0 x b F) b F) p1 cs).2.1))) hx hb hts hin5 hown hK hI (zor hG hb0) rfl 9 (by decide) wF53 (fun _ h9 => h9) (congrArg (fun q => some (Value.int q)) zpz_at) dX5_take_72 ?_
          exact z_iret hx hb hr hlocks hI (by rw [← h2, show 10 - cq = (9 - cq) + 1 by omega, zrd, if_neg c_68]) dX5_take_75
  exact L58 (10) 0 (zt0 x b F) 0 ([]) (by omega) rfl (by rw [zt0_b]; rfl) (by rw [zt0_b]; rfl) (zt0_x hF htx htx9) rfl (by omega) (by decide) (by omega) _ _ hI ls (lv_sub hl [1, 2, 3, 0] rfl)
