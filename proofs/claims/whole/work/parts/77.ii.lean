set_option maxHeartbeats 1000000 in
set_option maxRecDepth 100000 in
theorem c_X5_takeClause (l : Launch) {G : zG} (hG : zOK G) (aK aV : Nat → Nat) (x : zX) (b L p1 C : Nat) (cs : List Int32) (hb0 : zRm b) (hL : x.1 b 8 = nI L) (hL9 : L ≤ 100) (htx : zTx x b) (hpL : p1 ≤ L) (hcs : cs.length ≤ 100) (hC : x.1 b 4 = nI C) (hC9 : C < 10) : zMiS l yX5_takeClause wsX5_takeClause { frames := 20, cells := 0, slots := 0, locals := 479 } G aK aV [.ref (za G b)] (zpz x b p1 cs) (fun (r : Int32) (u : zX) => zpz (zkq x b C (zcla (zby x b L) p1 cs)) b (zcla (zby x b L) p1 cs).2.1 (zcla (zby x b L) p1 cs).2.2 = u ∧ (if (zcla (zby x b L) p1 cs).1.isSome = true then nI 1 else nI 0) = r) := by
  intro A
  refine zBodyS (cc := cX5_takeClause) (maxL := 3) (ret := (some .boolean)) (by decide) rfl (Nat.le_of_ble_eq_true rfl) ?_
  intro p e s m below meth c hx hb hml hown hts hr hlocks hK hN hSS hI ls hl
  have hown : s.vm.findClass RX5 = some m.cls := hown
  have hl : lv_has ls 3 [(0, .ref (za G b))] := hl
  refine lv_aload_n hx hb dX5_takeClause_0 rfl (lv_at hl 0 rfl) ?_
  refine z_calli (va_runV (As := []) (rest := []) ⟨hx, hb, hml, hown, hts⟩ ((c_X5_wordAheadZ l hG x b L p1 cs hb0 hL hL9 hpL) A) (cwV 0 hts gX5_takeClause_X5_wordAhead rfl rfl rfl (by decide +kernel) ⟨Nat.le_of_ble_eq_true rfl, Nat.le_of_ble_eq_true rfl⟩) (z_pV hI hK hN (z_recv hK hI (zor hG hb0) rfl)) rfl rfl hl.1 rfl (lv_room (Nat.le_of_ble_eq_true rfl)) dX5_takeClause_1 ⟨Nat.zero_le _, Nat.zero_le _⟩) hI (fun r_1 u H locs hw hI => ?_)
  obtain ⟨rfl, rfl⟩ := hw
  refine lv_istore_n (lv' := [(1, .int (zwa2 (zby x b L) p1)), (0, .ref (za G b))]) hx hb dX5_takeClause_4 rfl hl (by decide) rfl (fun ls hl => ?_)
  refine lv_iload_n hx hb dX5_takeClause_5 rfl (lv_at hl 0 rfl) ?_
  refine lv_if_lt (tgt := 20) hx hb dX5_takeClause_6 (by decide) (fun c_6 => ?_) (fun c_6 => ?_)
  · skip
    refine lv_iconst (v := (nI 0)) hx hb dX5_takeClause_20 rfl ?_
    exact z_zret hx hb hr hlocks hI (Or.inl rfl) ((by rw [show zcla (zby x b L) p1 cs = _ from if_pos c_6]; exact ⟨rfl, rfl⟩)) dX5_takeClause_21
  · skip
    refine lv_aload_n hx hb dX5_takeClause_9 rfl (lv_at hl 1 rfl) ?_
    refine lv_iload_n hx hb dX5_takeClause_10 rfl (lv_at hl 0 rfl) ?_
    refine z_calla (va_runS (As := [.int (zwa2 (zby x b L) p1)]) (rest := [.ref (za G b)]) ⟨hx, hb, hml, hown, hts⟩ ((c_X5_spelled l hG aK aV (zpz x b p1 cs) (zwa2 (zby x b L) p1)) A) (va_cwS 1 hts gX5_takeClause_X5_spelled rfl rfl rfl (by decide +kernel) ⟨Nat.le_of_ble_eq_true rfl, Nat.le_of_ble_eq_true rfl⟩) (z_pSS hI hK hN hSS) rfl rfl hl.1 rfl (lv_room (Nat.le_of_ble_eq_true rfl)) dX5_takeClause_11 ⟨Nat.zero_le _, Nat.zero_le _⟩) hI (fun u H locs hw hI => ?_)
    subst hw
    refine z_calli (va_runV (As := [.ref (aK (zsp (zwa2 (zby x b L) p1)))]) (rest := []) ⟨hx, hb, hml, hown, hts⟩ ((c_X5_takesAll l hG aK aV x b L p1 cs (zsp (zwa2 (zby x b L) p1)) hb0 hL hL9 htx hpL hcs (zsp_6 _)) A) (cwV 1 hts gX5_takeClause_X5_takesAll rfl rfl rfl (by decide +kernel) ⟨Nat.le_of_ble_eq_true rfl, Nat.le_of_ble_eq_true rfl⟩) (z_pVS hI hK hN hSS (z_recv hK hI (zor hG hb0) rfl)) rfl rfl hl.1 rfl (lv_room (Nat.le_of_ble_eq_true rfl)) dX5_takeClause_14 ⟨Nat.zero_le _, Nat.zero_le _⟩) hI (fun r_14 u H locs hw hI => ?_)
    obtain ⟨rfl, rfl⟩ := hw
    have hin_14 : zIn L (zwd (zby x b L) (zsp (zwa2 (zby x b L) p1)) p1 cs) := zwd_in zby_e (zsp_6 _) hpL hcs
    refine lv_if_ne (tgt := 22) hx hb dX5_takeClause_17 (by decide) (fun c_17 => ?_) (fun c_17 => ?_)
    · skip
      rw [zb_0, Classical.not_not] at c_17
      have hI : zI G (zpz x b (zwd (zby x b L) (zsp (zwa2 (zby x b L) p1)) p1 cs).2.1 cs) A s.heap H locs := by rw [show (zwd (zby x b L) (zsp (zwa2 (zby x b L) p1)) p1 cs).2.2 = cs from rfl] at hI; exact hI
      refine lv_iconst (v := (nI 1)) hx hb dX5_takeClause_22 rfl ?_
      refine lv_istore_n (lv' := [(2, .int (nI 1)), (1, .int (zwa2 (zby x b L) p1)), (0, .ref (za G b))]) hx hb dX5_takeClause_23 rfl hl (by decide) rfl (fun ls hl => ?_)
      refine lv_iload_n hx hb dX5_takeClause_24 rfl (lv_at hl 1 rfl) ?_
      refine lv_iconst (v := (nI 2)) hx hb dX5_takeClause_25 rfl ?_
      refine lv_icmp_eq (tgt := 47) hx hb dX5_takeClause_26 (by decide) (fun c_26 => ?_) (fun c_26 => ?_)
      · skip
        refine lv_iload_n hx hb dX5_takeClause_47 rfl (lv_at hl 0 rfl) ?_
        refine lv_if_ge (tgt := 53) hx hb dX5_takeClause_48 (by decide) (fun c_48 => ?_) (fun c_48 => absurd c_48 (by decide))
        have ham : (zam (zby x b L) (zwa2 (zby x b L) p1) (zwd (zby x b L) (zsp (zwa2 (zby x b L) p1)) p1 cs).2.1) = (nI 1, (zwd (zby x b L) (zsp (zwa2 (zby x b L) p1)) p1 cs).2.1) := if_pos c_26
        have hnn : ¬ (zam (zby x b L) (zwa2 (zby x b L) p1) (zwd (zby x b L) (zsp (zwa2 (zby x b L) p1)) p1 cs).2.1).1 < 0 := by rw [ham]; exact (by decide : ¬ nI 1 < 0)
        have hI : zI G (zpz x b (zam (zby x b L) (zwa2 (zby x b L) p1) (zwd (zby x b L) (zsp (zwa2 (zby x b L) p1)) p1 cs).2.1).2 cs) A s.heap H locs := by rw [show (zwd (zby x b L) (zsp (zwa2 (zby x b L) p1)) p1 cs).2.1 = (zam (zby x b L) (zwa2 (zby x b L) p1) (zwd (zby x b L) (zsp (zwa2 (zby x b L) p1)) p1 cs).2.1).2 from by rw [ham]] at hI; exact hI
        have hl : lv_has ls 3 [(2, .int ((zam (zby x b L) (zwa2 (zby x b L) p1) (zwd (zby x b L) (zsp (zwa2 (zby x b L) p1)) p1 cs).2.1).1)), (1, .int (zwa2 (zby x b L) p1)), (0, .ref (za G b))] := by rw [show (zam (zby x b L) (zwa2 (zby x b L) p1) (zwd (zby x b L) (zsp (zwa2 (zby x b L) p1)) p1 cs).2.1).1 = (nI 1) from by rw [ham]]; exact hl
        have ham2 : (zam (zby x b L) (zwa2 (zby x b L) p1) (zwd (zby x b L) (zsp (zwa2 (zby x b L) p1)) p1 cs).2.1).2 ≤ L := zam_in zby_e hin_14.1
        refine lv_iload_n hx hb dX5_takeClause_53 rfl (lv_at hl 1 rfl) ?_
        refine lv_iconst (v := (nI 3)) hx hb dX5_takeClause_54 rfl ?_
        refine lv_icmp_eq (tgt := 77) hx hb dX5_takeClause_55 (by decide) (fun c_55 => ?_) (fun c_55 => ?_)
        · skip
          exact absurd (c_26.symm.trans c_55) (by decide)
        · skip
          refine lv_aload_n hx hb dX5_takeClause_58 rfl (lv_at hl 2 rfl) ?_
          refine lv_bipush (v := (nI 32)) hx hb dX5_takeClause_59 rfl ?_
          refine z_calli (va_runV (As := [.int (nI 32)]) (rest := []) ⟨hx, hb, hml, hown, hts⟩ ((c_X5_takesZ l hG x b L (zam (zby x b L) (zwa2 (zby x b L) p1) (zwd (zby x b L) (zsp (zwa2 (zby x b L) p1)) p1 cs).2.1).2 cs (nI 32) hb0 hL hL9 ham2) A) (cwV 1 hts gX5_takeClause_X5_takes rfl rfl rfl (by decide +kernel) ⟨Nat.le_of_ble_eq_true rfl, Nat.le_of_ble_eq_true rfl⟩) (z_pV hI hK hN (z_recv hK hI (zor hG hb0) rfl)) rfl rfl hl.1 rfl (lv_room (Nat.le_of_ble_eq_true rfl)) dX5_takeClause_61 ⟨Nat.zero_le _, Nat.zero_le _⟩) hI (fun r_61 u H locs hw hI => ?_)
          obtain ⟨rfl, rfl⟩ := hw
          have hin_61 : zIn L (ztke (zby x b L) (nI 32) (zam (zby x b L) (zwa2 (zby x b L) p1) (zwd (zby x b L) (zsp (zwa2 (zby x b L) p1)) p1 cs).2.1).2 cs) := ztke_in zby_e (by decide) ham2 hcs
          refine lv_if_eq (tgt := 75) hx hb dX5_takeClause_64 (by decide) (fun c_64 => ?_) (fun c_64 => ?_)
          · skip
            rw [zb_0] at c_64
            have hI : zI G (zpz x b (zam (zby x b L) (zwa2 (zby x b L) p1) (zwd (zby x b L) (zsp (zwa2 (zby x b L) p1)) p1 cs).2.1).2 cs) A s.heap H locs := by rw [ztke_f c_64] at hI; exact hI
            refine lv_iconst (v := (nI 0)) hx hb dX5_takeClause_75 rfl ?_
            exact z_zret hx hb hr hlocks hI (Or.inl rfl) ((by rw [show zcla (zby x b L) p1 cs = _ from (if_neg c_6).trans ((if_pos c_17).trans ((if_neg hnn).trans ((if_neg c_55).trans (if_neg c_64))))]; exact ⟨rfl, rfl⟩)) dX5_takeClause_76
          · skip
            rw [zb_0, Classical.not_not] at c_64
            refine lv_aload_n hx hb dX5_takeClause_67 rfl (lv_at hl 2 rfl) ?_
            refine lv_iconst (v := (nI 0)) hx hb dX5_takeClause_68 rfl ?_
            refine z_calli (va_runV (As := [.int (nI 0)]) (rest := []) ⟨hx, hb, hml, hown, hts⟩ ((c_X5_takeEither4 l hG aK aV x b L (ztke (zby x b L) (nI 32) (zam (zby x b L) (zwa2 (zby x b L) p1) (zwd (zby x b L) (zsp (zwa2 (zby x b L) p1)) p1 cs).2.1).2 cs).2.1 (ztke (zby x b L) (nI 32) (zam (zby x b L) (zwa2 (zby x b L) p1) (zwd (zby x b L) (zsp (zwa2 (zby x b L) p1)) p1 cs).2.1).2 cs).2.2 hb0 hL hL9 htx hin_61.1 hin_61.2) A) (cwV 1 hts gX5_takeClause_X5_takeEither rfl rfl rfl (by decide +kernel) ⟨Nat.le_of_ble_eq_true rfl, Nat.le_of_ble_eq_true rfl⟩) (z_pVS hI hK hN hSS (z_recv hK hI (zor hG hb0) rfl)) rfl rfl hl.1 rfl (lv_room (Nat.le_of_ble_eq_true rfl)) dX5_takeClause_69 ⟨Nat.zero_le _, Nat.zero_le _⟩) hI (fun r_69 u H locs hw hI => ?_)
            obtain ⟨rfl, rfl⟩ := hw
            have hin_69 : zIn L (zEi (zPa (zby x b L) 4) (zby x b L) (ztke (zby x b L) (nI 32) (zam (zby x b L) (zwa2 (zby x b L) p1) (zwd (zby x b L) (zsp (zwa2 (zby x b L) p1)) p1 cs).2.1).2 cs).2.1 (ztke (zby x b L) (nI 32) (zam (zby x b L) (zwa2 (zby x b L) p1) (zwd (zby x b L) (zsp (zwa2 (zby x b L) p1)) p1 cs).2.1).2 cs).2.2) := zEi_in zby_e (fun p cs => zPa_in zby_e 4 p cs) _ _ hin_61.1 hin_61.2
            refine lv_if_ne (tgt := 77) hx hb dX5_takeClause_72 (by decide) (fun c_72 => ?_) (fun c_72 => ?_)
            · skip
              rw [zb_0, Classical.not_not] at c_72
              refine lv_aload_n hx hb dX5_takeClause_77 rfl (lv_at hl 2 rfl) ?_
              refine lv_iload_n hx hb dX5_takeClause_78 rfl (lv_at hl 1 rfl) ?_
              refine lv_iload_n hx hb dX5_takeClause_79 rfl (lv_at hl 0 rfl) ?_
              refine z_callv (va_runV (As := [.int (zwa2 (zby x b L) p1), .int ((zam (zby x b L) (zwa2 (zby x b L) p1) (zwd (zby x b L) (zsp (zwa2 (zby x b L) p1)) p1 cs).2.1).1)]) (rest := []) ⟨hx, hb, hml, hown, hts⟩ ((c_X5_keepZ l hG x b C (zEi (zPa (zby x b L) 4) (zby x b L) (ztke (zby x b L) (nI 32) (zam (zby x b L) (zwa2 (zby x b L) p1) (zwd (zby x b L) (zsp (zwa2 (zby x b L) p1)) p1 cs).2.1).2 cs).2.1 (ztke (zby x b L) (nI 32) (zam (zby x b L) (zwa2 (zby x b L) p1) (zwd (zby x b L) (zsp (zwa2 (zby x b L) p1)) p1 cs).2.1).2 cs).2.2).2.1 (zwa2 (zby x b L) p1) ((zam (zby x b L) (zwa2 (zby x b L) p1) (zwd (zby x b L) (zsp (zwa2 (zby x b L) p1)) p1 cs).2.1).1) (zEi (zPa (zby x b L) 4) (zby x b L) (ztke (zby x b L) (nI 32) (zam (zby x b L) (zwa2 (zby x b L) p1) (zwd (zby x b L) (zsp (zwa2 (zby x b L) p1)) p1 cs).2.1).2 cs).2.1 (ztke (zby x b L) (nI 32) (zam (zby x b L) (zwa2 (zby x b L) p1) (zwd (zby x b L) (zsp (zwa2 (zby x b L) p1)) p1 cs).2.1).2 cs).2.2).2.2 hb0 hC hC9 hin_69.2) A) (cwV 2 hts gX5_takeClause_X5_keep rfl rfl rfl (by decide +kernel) ⟨Nat.le_of_ble_eq_true rfl, Nat.le_of_ble_eq_true rfl⟩) (z_pV hI hK hN (z_recv hK hI (zor hG hb0) rfl)) rfl rfl hl.1 rfl (lv_room (Nat.le_of_ble_eq_true rfl)) dX5_takeClause_80 ⟨Nat.zero_le _, Nat.zero_le _⟩) hI (fun u H locs hw hI => ?_)
              obtain rfl := hw
              refine lv_iconst (v := (nI 1)) hx hb dX5_takeClause_83 rfl ?_
              exact z_zret hx hb hr hlocks hI (Or.inr rfl) ((by rw [show zcla (zby x b L) p1 cs = _ from (if_neg c_6).trans ((if_pos c_17).trans ((if_neg hnn).trans ((if_neg c_55).trans ((if_pos c_64).trans (if_pos c_72)))))]; exact ⟨rfl, rfl⟩)) dX5_takeClause_84
            · skip
              rw [zb_0] at c_72
              refine lv_iconst (v := (nI 0)) hx hb dX5_takeClause_75 rfl ?_
              exact z_zret hx hb hr hlocks hI (Or.inl rfl) ((by rw [show zcla (zby x b L) p1 cs = _ from (if_neg c_6).trans ((if_pos c_17).trans ((if_neg hnn).trans ((if_neg c_55).trans ((if_pos c_64).trans (if_neg c_72)))))]; exact ⟨rfl, rfl⟩)) dX5_takeClause_76
      · skip
        refine lv_aload_n hx hb dX5_takeClause_29 rfl (lv_at hl 2 rfl) ?_
        refine lv_bipush (v := (nI 32)) hx hb dX5_takeClause_30 rfl ?_
        refine z_calli (va_runV (As := [.int (nI 32)]) (rest := []) ⟨hx, hb, hml, hown, hts⟩ ((c_X5_takesZ l hG x b L (zwd (zby x b L) (zsp (zwa2 (zby x b L) p1)) p1 cs).2.1 cs (nI 32) hb0 hL hL9 hin_14.1) A) (cwV 1 hts gX5_takeClause_X5_takes rfl rfl rfl (by decide +kernel) ⟨Nat.le_of_ble_eq_true rfl, Nat.le_of_ble_eq_true rfl⟩) (z_pV hI hK hN (z_recv hK hI (zor hG hb0) rfl)) rfl rfl hl.1 rfl (lv_room (Nat.le_of_ble_eq_true rfl)) dX5_takeClause_32 ⟨Nat.zero_le _, Nat.zero_le _⟩) hI (fun r_32 u H locs hw hI => ?_)
        obtain ⟨rfl, rfl⟩ := hw
        have hin_32 : zIn L (ztke (zby x b L) (nI 32) (zwd (zby x b L) (zsp (zwa2 (zby x b L) p1)) p1 cs).2.1 cs) := ztke_in zby_e (by decide) hin_14.1 hin_14.2
        refine lv_if_eq (tgt := 45) hx hb dX5_takeClause_35 (by decide) (fun c_35 => ?_) (fun c_35 => ?_)
        · skip
          rw [zb_0] at c_35
          have hI : zI G (zpz x b (zwd (zby x b L) (zsp (zwa2 (zby x b L) p1)) p1 cs).2.1 cs) A s.heap H locs := by rw [ztke_f c_35] at hI; exact hI
          refine lv_iconst (v := (-1)) hx hb dX5_takeClause_45 rfl ?_
          refine lv_istore_n (lv' := [(2, .int (-1)), (1, .int (zwa2 (zby x b L) p1)), (0, .ref (za G b))]) hx hb dX5_takeClause_46 rfl hl (by decide) rfl (fun ls hl => ?_)
          refine lv_iload_n hx hb dX5_takeClause_47 rfl (lv_at hl 0 rfl) ?_
          refine lv_if_ge (tgt := 53) hx hb dX5_takeClause_48 (by decide) (fun c_48 => ?_) (fun c_48 => ?_)
          · skip
            exact absurd c_48 (by decide)
          · skip
            have ham : (zam (zby x b L) (zwa2 (zby x b L) p1) (zwd (zby x b L) (zsp (zwa2 (zby x b L) p1)) p1 cs).2.1) = (-1, (zwd (zby x b L) (zsp (zwa2 (zby x b L) p1)) p1 cs).2.1) := (if_neg c_26).trans (if_neg (ztke_d c_35))
            have hneg : (zam (zby x b L) (zwa2 (zby x b L) p1) (zwd (zby x b L) (zsp (zwa2 (zby x b L) p1)) p1 cs).2.1).1 < 0 := by rw [ham]; exact (by decide : (-1 : Int32) < 0)
            have hI : zI G (zpz x b (zam (zby x b L) (zwa2 (zby x b L) p1) (zwd (zby x b L) (zsp (zwa2 (zby x b L) p1)) p1 cs).2.1).2 cs) A s.heap H locs := by rw [show (zwd (zby x b L) (zsp (zwa2 (zby x b L) p1)) p1 cs).2.1 = (zam (zby x b L) (zwa2 (zby x b L) p1) (zwd (zby x b L) (zsp (zwa2 (zby x b L) p1)) p1 cs).2.1).2 from by rw [ham]] at hI; exact hI
            refine lv_iconst (v := (nI 0)) hx hb dX5_takeClause_51 rfl ?_
            exact z_zret hx hb hr hlocks hI (Or.inl rfl) ((by rw [show zcla (zby x b L) p1 cs = _ from (if_neg c_6).trans ((if_pos c_17).trans (if_pos hneg))]; exact ⟨rfl, rfl⟩)) dX5_takeClause_52
        · skip
          rw [zb_0, Classical.not_not] at c_35
          have hI : zI G (zpz x b ((zwd (zby x b L) (zsp (zwa2 (zby x b L) p1)) p1 cs).2.1 + 1) cs) A s.heap H locs := by rw [ztke_p c_35] at hI; exact hI
          have hsp : (zwd (zby x b L) (zsp (zwa2 (zby x b L) p1)) p1 cs).2.1 + 1 ≤ L := by have h9 := hin_32.1; rw [ztke_p c_35] at h9; exact h9
          refine lv_aload_n hx hb dX5_takeClause_38 rfl (lv_at hl 2 rfl) ?_
          refine z_calli (va_runV (As := []) (rest := []) ⟨hx, hb, hml, hown, hts⟩ ((c_X5_takeNumberZ l hG x b L ((zwd (zby x b L) (zsp (zwa2 (zby x b L) p1)) p1 cs).2.1 + 1) cs hb0 hL hL9 hsp) A) (cwV 0 hts gX5_takeClause_X5_takeNumber rfl rfl rfl (by decide +kernel) ⟨Nat.le_of_ble_eq_true rfl, Nat.le_of_ble_eq_true rfl⟩) (z_pV hI hK hN (z_recv hK hI (zor hG hb0) rfl)) rfl rfl hl.1 rfl (lv_room (Nat.le_of_ble_eq_true rfl)) dX5_takeClause_39 ⟨Nat.zero_le _, Nat.zero_le _⟩) hI (fun r_39 u H locs hw hI => ?_)
          obtain ⟨rfl, rfl⟩ := hw
          have hin_39 : zIn L (true, (znum (zby x b L) ((zwd (zby x b L) (zsp (zwa2 (zby x b L) p1)) p1 cs).2.1 + 1)).2, cs) := ⟨znum_in zby_e hsp, hcs⟩
          refine lv_goto (tgt := 46) hx hb dX5_takeClause_42 (by decide) ?_
          refine lv_istore_n (lv' := [(2, .int ((znum (zby x b L) ((zwd (zby x b L) (zsp (zwa2 (zby x b L) p1)) p1 cs).2.1 + 1)).1)), (1, .int (zwa2 (zby x b L) p1)), (0, .ref (za G b))]) hx hb dX5_takeClause_46 rfl hl (by decide) rfl (fun ls hl => ?_)
          refine lv_iload_n hx hb dX5_takeClause_47 rfl (lv_at hl 0 rfl) ?_
          refine lv_if_ge (tgt := 53) hx hb dX5_takeClause_48 (by decide) (fun c_48 => ?_) (fun c_48 => ?_)
          · skip
            have ham : (zam (zby x b L) (zwa2 (zby x b L) p1) (zwd (zby x b L) (zsp (zwa2 (zby x b L) p1)) p1 cs).2.1) = znum (zby x b L) ((zwd (zby x b L) (zsp (zwa2 (zby x b L) p1)) p1 cs).2.1 + 1) := (if_neg c_26).trans (if_pos (ztke_c c_35))
            have hnn : ¬ (zam (zby x b L) (zwa2 (zby x b L) p1) (zwd (zby x b L) (zsp (zwa2 (zby x b L) p1)) p1 cs).2.1).1 < 0 := by rw [ham]; exact Int32.not_lt.mpr c_48
            have hI : zI G (zpz x b (zam (zby x b L) (zwa2 (zby x b L) p1) (zwd (zby x b L) (zsp (zwa2 (zby x b L) p1)) p1 cs).2.1).2 cs) A s.heap H locs := by rw [show (znum (zby x b L) ((zwd (zby x b L) (zsp (zwa2 (zby x b L) p1)) p1 cs).2.1 + 1)).2 = (zam (zby x b L) (zwa2 (zby x b L) p1) (zwd (zby x b L) (zsp (zwa2 (zby x b L) p1)) p1 cs).2.1).2 from by rw [ham]] at hI; exact hI
            have hl : lv_has ls 3 [(2, .int ((zam (zby x b L) (zwa2 (zby x b L) p1) (zwd (zby x b L) (zsp (zwa2 (zby x b L) p1)) p1 cs).2.1).1)), (1, .int (zwa2 (zby x b L) p1)), (0, .ref (za G b))] := by rw [show (zam (zby x b L) (zwa2 (zby x b L) p1) (zwd (zby x b L) (zsp (zwa2 (zby x b L) p1)) p1 cs).2.1).1 = ((znum (zby x b L) ((zwd (zby x b L) (zsp (zwa2 (zby x b L) p1)) p1 cs).2.1 + 1)).1) from by rw [ham]]; exact hl
            have ham2 : (zam (zby x b L) (zwa2 (zby x b L) p1) (zwd (zby x b L) (zsp (zwa2 (zby x b L) p1)) p1 cs).2.1).2 ≤ L := zam_in zby_e hin_14.1
            refine lv_iload_n hx hb dX5_takeClause_53 rfl (lv_at hl 1 rfl) ?_
            refine lv_iconst (v := (nI 3)) hx hb dX5_takeClause_54 rfl ?_
            refine lv_icmp_eq (tgt := 77) hx hb dX5_takeClause_55 (by decide) (fun c_55 => ?_) (fun c_55 => ?_)
            · skip
              refine lv_aload_n hx hb dX5_takeClause_77 rfl (lv_at hl 2 rfl) ?_
              refine lv_iload_n hx hb dX5_takeClause_78 rfl (lv_at hl 1 rfl) ?_
              refine lv_iload_n hx hb dX5_takeClause_79 rfl (lv_at hl 0 rfl) ?_
              refine z_callv (va_runV (As := [.int (zwa2 (zby x b L) p1), .int ((zam (zby x b L) (zwa2 (zby x b L) p1) (zwd (zby x b L) (zsp (zwa2 (zby x b L) p1)) p1 cs).2.1).1)]) (rest := []) ⟨hx, hb, hml, hown, hts⟩ ((c_X5_keepZ l hG x b C (zam (zby x b L) (zwa2 (zby x b L) p1) (zwd (zby x b L) (zsp (zwa2 (zby x b L) p1)) p1 cs).2.1).2 (zwa2 (zby x b L) p1) ((zam (zby x b L) (zwa2 (zby x b L) p1) (zwd (zby x b L) (zsp (zwa2 (zby x b L) p1)) p1 cs).2.1).1) cs hb0 hC hC9 hcs) A) (cwV 2 hts gX5_takeClause_X5_keep rfl rfl rfl (by decide +kernel) ⟨Nat.le_of_ble_eq_true rfl, Nat.le_of_ble_eq_true rfl⟩) (z_pV hI hK hN (z_recv hK hI (zor hG hb0) rfl)) rfl rfl hl.1 rfl (lv_room (Nat.le_of_ble_eq_true rfl)) dX5_takeClause_80 ⟨Nat.zero_le _, Nat.zero_le _⟩) hI (fun u H locs hw hI => ?_)
              obtain rfl := hw
              refine lv_iconst (v := (nI 1)) hx hb dX5_takeClause_83 rfl ?_
              exact z_zret hx hb hr hlocks hI (Or.inr rfl) ((by rw [show zcla (zby x b L) p1 cs = _ from (if_neg c_6).trans ((if_pos c_17).trans ((if_neg hnn).trans (if_pos c_55)))]; exact ⟨rfl, rfl⟩)) dX5_takeClause_84
            · skip
              refine lv_aload_n hx hb dX5_takeClause_58 rfl (lv_at hl 2 rfl) ?_
              refine lv_bipush (v := (nI 32)) hx hb dX5_takeClause_59 rfl ?_
              refine z_calli (va_runV (As := [.int (nI 32)]) (rest := []) ⟨hx, hb, hml, hown, hts⟩ ((c_X5_takesZ l hG x b L (zam (zby x b L) (zwa2 (zby x b L) p1) (zwd (zby x b L) (zsp (zwa2 (zby x b L) p1)) p1 cs).2.1).2 cs (nI 32) hb0 hL hL9 ham2) A) (cwV 1 hts gX5_takeClause_X5_takes rfl rfl rfl (by decide +kernel) ⟨Nat.le_of_ble_eq_true rfl, Nat.le_of_ble_eq_true rfl⟩) (z_pV hI hK hN (z_recv hK hI (zor hG hb0) rfl)) rfl rfl hl.1 rfl (lv_room (Nat.le_of_ble_eq_true rfl)) dX5_takeClause_61 ⟨Nat.zero_le _, Nat.zero_le _⟩) hI (fun r_61 u H locs hw hI => ?_)
              obtain ⟨rfl, rfl⟩ := hw
              have hin_61 : zIn L (ztke (zby x b L) (nI 32) (zam (zby x b L) (zwa2 (zby x b L) p1) (zwd (zby x b L) (zsp (zwa2 (zby x b L) p1)) p1 cs).2.1).2 cs) := ztke_in zby_e (by decide) ham2 hcs
              refine lv_if_eq (tgt := 75) hx hb dX5_takeClause_64 (by decide) (fun c_64 => ?_) (fun c_64 => ?_)
              · skip
                rw [zb_0] at c_64
                have hI : zI G (zpz x b (zam (zby x b L) (zwa2 (zby x b L) p1) (zwd (zby x b L) (zsp (zwa2 (zby x b L) p1)) p1 cs).2.1).2 cs) A s.heap H locs := by rw [ztke_f c_64] at hI; exact hI
                refine lv_iconst (v := (nI 0)) hx hb dX5_takeClause_75 rfl ?_
                exact z_zret hx hb hr hlocks hI (Or.inl rfl) ((by rw [show zcla (zby x b L) p1 cs = _ from (if_neg c_6).trans ((if_pos c_17).trans ((if_neg hnn).trans ((if_neg c_55).trans (if_neg c_64))))]; exact ⟨rfl, rfl⟩)) dX5_takeClause_76
              · skip
                rw [zb_0, Classical.not_not] at c_64
                refine lv_aload_n hx hb dX5_takeClause_67 rfl (lv_at hl 2 rfl) ?_
                refine lv_iconst (v := (nI 0)) hx hb dX5_takeClause_68 rfl ?_
                refine z_calli (va_runV (As := [.int (nI 0)]) (rest := []) ⟨hx, hb, hml, hown, hts⟩ ((c_X5_takeEither4 l hG aK aV x b L (ztke (zby x b L) (nI 32) (zam (zby x b L) (zwa2 (zby x b L) p1) (zwd (zby x b L) (zsp (zwa2 (zby x b L) p1)) p1 cs).2.1).2 cs).2.1 (ztke (zby x b L) (nI 32) (zam (zby x b L) (zwa2 (zby x b L) p1) (zwd (zby x b L) (zsp (zwa2 (zby x b L) p1)) p1 cs).2.1).2 cs).2.2 hb0 hL hL9 htx hin_61.1 hin_61.2) A) (cwV 1 hts gX5_takeClause_X5_takeEither rfl rfl rfl (by decide +kernel) ⟨Nat.le_of_ble_eq_true rfl, Nat.le_of_ble_eq_true rfl⟩) (z_pVS hI hK hN hSS (z_recv hK hI (zor hG hb0) rfl)) rfl rfl hl.1 rfl (lv_room (Nat.le_of_ble_eq_true rfl)) dX5_takeClause_69 ⟨Nat.zero_le _, Nat.zero_le _⟩) hI (fun r_69 u H locs hw hI => ?_)
                obtain ⟨rfl, rfl⟩ := hw
                have hin_69 : zIn L (zEi (zPa (zby x b L) 4) (zby x b L) (ztke (zby x b L) (nI 32) (zam (zby x b L) (zwa2 (zby x b L) p1) (zwd (zby x b L) (zsp (zwa2 (zby x b L) p1)) p1 cs).2.1).2 cs).2.1 (ztke (zby x b L) (nI 32) (zam (zby x b L) (zwa2 (zby x b L) p1) (zwd (zby x b L) (zsp (zwa2 (zby x b L) p1)) p1 cs).2.1).2 cs).2.2) := zEi_in zby_e (fun p cs => zPa_in zby_e 4 p cs) _ _ hin_61.1 hin_61.2
                refine lv_if_ne (tgt := 77) hx hb dX5_takeClause_72 (by decide) (fun c_72 => ?_) (fun c_72 => ?_)
                · skip
                  rw [zb_0, Classical.not_not] at c_72
                  refine lv_aload_n hx hb dX5_takeClause_77 rfl (lv_at hl 2 rfl) ?_
                  refine lv_iload_n hx hb dX5_takeClause_78 rfl (lv_at hl 1 rfl) ?_
                  refine lv_iload_n hx hb dX5_takeClause_79 rfl (lv_at hl 0 rfl) ?_
                  refine z_callv (va_runV (As := [.int (zwa2 (zby x b L) p1), .int ((zam (zby x b L) (zwa2 (zby x b L) p1) (zwd (zby x b L) (zsp (zwa2 (zby x b L) p1)) p1 cs).2.1).1)]) (rest := []) ⟨hx, hb, hml, hown, hts⟩ ((c_X5_keepZ l hG x b C (zEi (zPa (zby x b L) 4) (zby x b L) (ztke (zby x b L) (nI 32) (zam (zby x b L) (zwa2 (zby x b L) p1) (zwd (zby x b L) (zsp (zwa2 (zby x b L) p1)) p1 cs).2.1).2 cs).2.1 (ztke (zby x b L) (nI 32) (zam (zby x b L) (zwa2 (zby x b L) p1) (zwd (zby x b L) (zsp (zwa2 (zby x b L) p1)) p1 cs).2.1).2 cs).2.2).2.1 (zwa2 (zby x b L) p1) ((zam (zby x b L) (zwa2 (zby x b L) p1) (zwd (zby x b L) (zsp (zwa2 (zby x b L) p1)) p1 cs).2.1).1) (zEi (zPa (zby x b L) 4) (zby x b L) (ztke (zby x b L) (nI 32) (zam (zby x b L) (zwa2 (zby x b L) p1) (zwd (zby x b L) (zsp (zwa2 (zby x b L) p1)) p1 cs).2.1).2 cs).2.1 (ztke (zby x b L) (nI 32) (zam (zby x b L) (zwa2 (zby x b L) p1) (zwd (zby x b L) (zsp (zwa2 (zby x b L) p1)) p1 cs).2.1).2 cs).2.2).2.2 hb0 hC hC9 hin_69.2) A) (cwV 2 hts gX5_takeClause_X5_keep rfl rfl rfl (by decide +kernel) ⟨Nat.le_of_ble_eq_true rfl, Nat.le_of_ble_eq_true rfl⟩) (z_pV hI hK hN (z_recv hK hI (zor hG hb0) rfl)) rfl rfl hl.1 rfl (lv_room (Nat.le_of_ble_eq_true rfl)) dX5_takeClause_80 ⟨Nat.zero_le _, Nat.zero_le _⟩) hI (fun u H locs hw hI => ?_)
                  obtain rfl := hw
                  refine lv_iconst (v := (nI 1)) hx hb dX5_takeClause_83 rfl ?_
                  exact z_zret hx hb hr hlocks hI (Or.inr rfl) ((by rw [show zcla (zby x b L) p1 cs = _ from (if_neg c_6).trans ((if_pos c_17).trans ((if_neg hnn).trans ((if_neg c_55).trans ((if_pos c_64).trans (if_pos c_72)))))]; exact ⟨rfl, rfl⟩)) dX5_takeClause_84
                · skip
                  rw [zb_0] at c_72
                  refine lv_iconst (v := (nI 0)) hx hb dX5_takeClause_75 rfl ?_
                  exact z_zret hx hb hr hlocks hI (Or.inl rfl) ((by rw [show zcla (zby x b L) p1 cs = _ from (if_neg c_6).trans ((if_pos c_17).trans ((if_neg hnn).trans ((if_neg c_55).trans ((if_pos c_64).trans (if_neg c_72)))))]; exact ⟨rfl, rfl⟩)) dX5_takeClause_76
          · skip
            have ham : (zam (zby x b L) (zwa2 (zby x b L) p1) (zwd (zby x b L) (zsp (zwa2 (zby x b L) p1)) p1 cs).2.1) = znum (zby x b L) ((zwd (zby x b L) (zsp (zwa2 (zby x b L) p1)) p1 cs).2.1 + 1) := (if_neg c_26).trans (if_pos (ztke_c c_35))
            have hneg : (zam (zby x b L) (zwa2 (zby x b L) p1) (zwd (zby x b L) (zsp (zwa2 (zby x b L) p1)) p1 cs).2.1).1 < 0 := by rw [ham]; exact Int32.not_le.mp c_48
            have hI : zI G (zpz x b (zam (zby x b L) (zwa2 (zby x b L) p1) (zwd (zby x b L) (zsp (zwa2 (zby x b L) p1)) p1 cs).2.1).2 cs) A s.heap H locs := by rw [show (znum (zby x b L) ((zwd (zby x b L) (zsp (zwa2 (zby x b L) p1)) p1 cs).2.1 + 1)).2 = (zam (zby x b L) (zwa2 (zby x b L) p1) (zwd (zby x b L) (zsp (zwa2 (zby x b L) p1)) p1 cs).2.1).2 from by rw [ham]] at hI; exact hI
            refine lv_iconst (v := (nI 0)) hx hb dX5_takeClause_51 rfl ?_
            exact z_zret hx hb hr hlocks hI (Or.inl rfl) ((by rw [show zcla (zby x b L) p1 cs = _ from (if_neg c_6).trans ((if_pos c_17).trans (if_pos hneg))]; exact ⟨rfl, rfl⟩)) dX5_takeClause_52
    · skip
      rw [zb_0] at c_17
      refine lv_iconst (v := (nI 0)) hx hb dX5_takeClause_20 rfl ?_
      exact z_zret hx hb hr hlocks hI (Or.inl rfl) ((by rw [show zcla (zby x b L) p1 cs = _ from (if_neg c_6).trans (if_neg c_17)]; exact ⟨rfl, rfl⟩)) dX5_takeClause_21
