set_option maxHeartbeats 1000000 in
set_option maxRecDepth 100000 in
theorem c_X5_takePart0 (l : Launch) {G : zG} (hG : zOK G) (aK aV : Nat → Nat) (x : zX) (b L p1 : Nat) (cs : List Int32) (hb0 : zRm b) (hL : x.1 b 8 = nI L) (hL9 : L ≤ 100) (htx : zTx x b) (hpL : p1 ≤ L) (hcs : cs.length ≤ 100) : zMiS l yX5_takePart wsX5_takePart { frames := 5, cells := 0, slots := 0, locals := 129 } G aK aV [.ref (za G b), .int (nI 4)] (zpz x b p1 cs) (fun (r : Int32) (u : zX) => zr3 x b (zPa (zby x b L) 0 p1 cs) r u) := by
  intro A
  refine zBodyS (cc := cX5_takePart) (maxL := 5) (ret := (some .boolean)) (by decide) rfl (Nat.le_of_ble_eq_true rfl) ?_
  intro p e s m below meth c hx hb hml hown hts hr hlocks hK hN hSS hI ls hl
  have hown : s.vm.findClass RX5 = some m.cls := hown
  have hl : lv_has ls 5 [(0, .ref (za G b)), (1, .int (nI 4))] := hl
  refine lv_iload_n hx hb dX5_takePart_0 rfl (lv_at hl 1 rfl) ?_
  refine lv_iconst (v := (nI 4)) hx hb dX5_takePart_1 rfl ?_
  refine lv_icmp_ge (tgt := 22) hx hb dX5_takePart_2 (by decide) (fun c_2 => ?_) (fun c_2 => absurd c_2 (by decide))
  refine lv_iload_n hx hb dX5_takePart_22 rfl (lv_at hl 1 rfl) ?_
  refine lv_iconst (v := (nI 4)) hx hb dX5_takePart_23 rfl ?_
  refine lv_icmp_ge (tgt := 61) hx hb dX5_takePart_24 (by decide) (fun c_24 => ?_) (fun c_24 => absurd c_24 (by decide))
  refine lv_aload_n hx hb dX5_takePart_61 rfl (lv_at hl 0 rfl) ?_
  refine va_ldcS hx hb hown (hSS.1 4 (131, "abkjtwr") rfl) dX5_takePart_62 ?_
  refine z_calli (va_runV (As := [.ref (aK 4)]) (rest := []) ⟨hx, hb, hml, hown, hts⟩ ((c_X5_takeOneOfZ l hG aK aV x b L p1 4 cs hb0 hL hL9 htx (by decide) hpL) A) (cwV 1 hts gX5_takePart_X5_takeOneOf rfl rfl rfl (by decide +kernel) ⟨Nat.le_of_ble_eq_true rfl, Nat.le_of_ble_eq_true rfl⟩) (z_pVS hI hK hN hSS (z_recv hK hI (zor hG hb0) rfl)) rfl rfl hl.1 rfl (lv_room (Nat.le_of_ble_eq_true rfl)) dX5_takePart_64 ⟨Nat.zero_le _, Nat.zero_le _⟩) hI (fun r_64 u H locs hw hI => ?_)
  obtain ⟨rfl, rfl⟩ := hw
  refine lv_istore_n (lv' := [(2, .int (zone 4 ((zby x b L) p1))), (0, .ref (za G b)), (1, .int (nI 4))]) hx hb dX5_takePart_67 rfl hl (by decide) rfl (fun ls hl => ?_)
  refine lv_iload_n hx hb dX5_takePart_68 rfl (lv_at hl 0 rfl) ?_
  refine lv_if_ge (tgt := 76) hx hb dX5_takePart_69 (by decide) (fun c_69 => ?_) (fun c_69 => ?_)
  · skip
    have hI : zI G (zpz x b (p1 + 1) cs) A s.heap H locs := by rw [if_neg (Int32.not_lt.mpr c_69)] at hI; exact hI
    have hp6 : p1 + 1 ≤ L := zone_n zby_e (Int32.not_lt.mpr c_69)
    refine lv_aload_n hx hb dX5_takePart_76 rfl (lv_at hl 1 rfl) ?_
    refine va_ldcS hx hb hown (hSS.1 5 (137, "<=>") rfl) dX5_takePart_77 ?_
    refine z_calli (va_runV (As := [.ref (aK 5)]) (rest := []) ⟨hx, hb, hml, hown, hts⟩ ((c_X5_takeOneOfZ l hG aK aV x b L (p1 + 1) 5 cs hb0 hL hL9 htx (by decide) hp6) A) (cwV 1 hts gX5_takePart_X5_takeOneOf rfl rfl rfl (by decide +kernel) ⟨Nat.le_of_ble_eq_true rfl, Nat.le_of_ble_eq_true rfl⟩) (z_pVS hI hK hN hSS (z_recv hK hI (zor hG hb0) rfl)) rfl rfl hl.1 rfl (lv_room (Nat.le_of_ble_eq_true rfl)) dX5_takePart_79 ⟨Nat.zero_le _, Nat.zero_le _⟩) hI (fun r_79 u H locs hw hI => ?_)
    obtain ⟨rfl, rfl⟩ := hw
    refine lv_istore_n (lv' := [(3, .int (zone 5 ((zby x b L) (p1 + 1)))), (2, .int (zone 4 ((zby x b L) p1))), (0, .ref (za G b)), (1, .int (nI 4))]) hx hb dX5_takePart_82 rfl hl (by decide) rfl (fun ls hl => ?_)
    refine lv_iload_n hx hb dX5_takePart_83 rfl (lv_at hl 0 rfl) ?_
    refine lv_if_ge (tgt := 91) hx hb dX5_takePart_84 (by decide) (fun c_84 => ?_) (fun c_84 => ?_)
    · skip
      have hI : zI G (zpz x b (p1 + 2) cs) A s.heap H locs := by rw [if_neg (Int32.not_lt.mpr c_84)] at hI; exact hI
      have hp8 : p1 + 2 ≤ L := zone_n zby_e (Int32.not_lt.mpr c_84)
      refine lv_aload_n hx hb dX5_takePart_91 rfl (lv_at hl 2 rfl) ?_
      refine z_calli (va_runV (As := []) (rest := []) ⟨hx, hb, hml, hown, hts⟩ ((c_X5_takeNumberZ l hG x b L (p1 + 2) cs hb0 hL hL9 hp8) A) (cwV 0 hts gX5_takePart_X5_takeNumber rfl rfl rfl (by decide +kernel) ⟨Nat.le_of_ble_eq_true rfl, Nat.le_of_ble_eq_true rfl⟩) (z_pV hI hK hN (z_recv hK hI (zor hG hb0) rfl)) rfl rfl hl.1 rfl (lv_room (Nat.le_of_ble_eq_true rfl)) dX5_takePart_92 ⟨Nat.zero_le _, Nat.zero_le _⟩) hI (fun r_92 u H locs hw hI => ?_)
      obtain ⟨rfl, rfl⟩ := hw
      have hin_92 : zIn L (true, (znum (zby x b L) (p1 + 2)).2, cs) := ⟨znum_in zby_e hp8, hcs⟩
      refine lv_istore (lv' := [(4, .int ((znum (zby x b L) (p1 + 2)).1)), (3, .int (zone 5 ((zby x b L) (p1 + 1)))), (2, .int (zone 4 ((zby x b L) p1))), (0, .ref (za G b)), (1, .int (nI 4))]) hx hb dX5_takePart_95 hl (by decide) rfl (fun ls hl => ?_)
      refine lv_iload hx hb dX5_takePart_97 (lv_at hl 0 rfl) ?_
      refine lv_if_lt (tgt := 124) hx hb dX5_takePart_99 (by decide) (fun c_99 => ?_) (fun c_99 => ?_)
      · skip
        have hI : zI G (zpz x b (p1 + 2) cs) A s.heap H locs := by rw [znum_n c_99] at hI; exact hI
        refine lv_iconst (v := (nI 0)) hx hb dX5_takePart_124 rfl ?_
        exact z_zret hx hb hr hlocks hI (Or.inl rfl) ((by rw [show zPa (zby x b L) 0 p1 cs = _ from (if_neg (Int32.not_lt.mpr c_69)).trans ((if_neg (Int32.not_lt.mpr c_84)).trans (if_pos c_99))]; exact ⟨rfl, rfl⟩)) dX5_takePart_125
      · skip
        refine lv_aload_n hx hb dX5_takePart_102 rfl (lv_at hl 3 rfl) ?_
        refine lv_iload_n hx hb dX5_takePart_103 rfl (lv_at hl 2 rfl) ?_
        refine lv_iconst (v := (nI 3)) hx hb dX5_takePart_104 rfl ?_
        refine z_imul (v := (zone 4 ((zby x b L) p1) * nI 3)) hx hb rfl dX5_takePart_105 ?_
        refine lv_iload_n hx hb dX5_takePart_106 rfl (lv_at hl 1 rfl) ?_
        refine lv_iadd hx hb dX5_takePart_107 ?_
        refine lv_bipush (v := (nI 100)) hx hb dX5_takePart_108 rfl ?_
        refine lv_imul hx hb dX5_takePart_110 ?_
        refine lv_iload hx hb dX5_takePart_111 (lv_at hl 0 rfl) ?_
        refine lv_iadd hx hb dX5_takePart_113 ?_
        refine z_calli (va_runV (As := [.int ((((zone 4 ((zby x b L) p1) * nI 3) + (zone 5 ((zby x b L) (p1 + 1)))) * (nI 100)) + ((znum (zby x b L) (p1 + 2)).1))]) (rest := []) ⟨hx, hb, hml, hown, hts⟩ ((c_X5_putsZ l hG x b L (znum (zby x b L) (p1 + 2)).2 cs ((((zone 4 ((zby x b L) p1) * nI 3) + (zone 5 ((zby x b L) (p1 + 1)))) * (nI 100)) + ((znum (zby x b L) (p1 + 2)).1)) hb0 hin_92.2) A) (cwV 1 hts gX5_takePart_X5_puts rfl rfl rfl (by decide +kernel) ⟨Nat.le_of_ble_eq_true rfl, Nat.le_of_ble_eq_true rfl⟩) (z_pV hI hK hN (z_recv hK hI (zor hG hb0) rfl)) rfl rfl hl.1 rfl (lv_room (Nat.le_of_ble_eq_true rfl)) dX5_takePart_114 ⟨Nat.zero_le _, Nat.zero_le _⟩) hI (fun r_114 u H locs hw hI => ?_)
        obtain ⟨rfl, rfl⟩ := hw
        have hin_114 : zIn L (zpt ((((zone 4 ((zby x b L) p1) * nI 3) + (zone 5 ((zby x b L) (p1 + 1)))) * (nI 100)) + ((znum (zby x b L) (p1 + 2)).1)) (znum (zby x b L) (p1 + 2)).2 cs) := zpt_in hin_92.1 hin_92.2
        refine lv_if_eq (tgt := 124) hx hb dX5_takePart_117 (by decide) (fun c_117 => ?_) (fun c_117 => ?_)
        · skip
          rw [zb_0] at c_117
          refine lv_iconst (v := (nI 0)) hx hb dX5_takePart_124 rfl ?_
          exact z_zret hx hb hr hlocks hI (Or.inl rfl) ((by rw [show zPa (zby x b L) 0 p1 cs = _ from (if_neg (Int32.not_lt.mpr c_69)).trans ((if_neg (Int32.not_lt.mpr c_84)).trans (if_neg c_99))]; exact ⟨rfl, if_neg c_117⟩)) dX5_takePart_125
        · skip
          rw [zb_0, Classical.not_not] at c_117
          refine lv_iconst (v := (nI 1)) hx hb dX5_takePart_120 rfl ?_
          refine lv_goto (tgt := 125) hx hb dX5_takePart_121 (by decide) ?_
          exact z_zret hx hb hr hlocks hI (Or.inr rfl) ((by rw [show zPa (zby x b L) 0 p1 cs = _ from (if_neg (Int32.not_lt.mpr c_69)).trans ((if_neg (Int32.not_lt.mpr c_84)).trans (if_neg c_99))]; exact ⟨rfl, if_pos c_117⟩)) dX5_takePart_125
    · skip
      have hI : zI G (zpz x b (p1 + 1) cs) A s.heap H locs := by rw [if_pos (Int32.not_le.mp c_84)] at hI; exact hI
      refine lv_iconst (v := (-1)) hx hb dX5_takePart_87 rfl ?_
      refine lv_goto (tgt := 95) hx hb dX5_takePart_88 (by decide) ?_
      refine lv_istore (lv' := [(4, .int (-1)), (3, .int (zone 5 ((zby x b L) (p1 + 1)))), (2, .int (zone 4 ((zby x b L) p1))), (0, .ref (za G b)), (1, .int (nI 4))]) hx hb dX5_takePart_95 hl (by decide) rfl (fun ls hl => ?_)
      refine lv_iload hx hb dX5_takePart_97 (lv_at hl 0 rfl) ?_
      refine lv_if_lt (tgt := 124) hx hb dX5_takePart_99 (by decide) (fun c_99 => ?_) (fun c_99 => ?_)
      · skip
        refine lv_iconst (v := (nI 0)) hx hb dX5_takePart_124 rfl ?_
        exact z_zret hx hb hr hlocks hI (Or.inl rfl) ((by rw [show zPa (zby x b L) 0 p1 cs = _ from (if_neg (Int32.not_lt.mpr c_69)).trans (if_pos (Int32.not_le.mp c_84))]; exact ⟨rfl, rfl⟩)) dX5_takePart_125
      · skip
        exact absurd (by decide) c_99
  · skip
    have hI : zI G (zpz x b p1 cs) A s.heap H locs := by rw [if_pos (Int32.not_le.mp c_69)] at hI; exact hI
    refine lv_iconst (v := (-1)) hx hb dX5_takePart_72 rfl ?_
    refine lv_goto (tgt := 82) hx hb dX5_takePart_73 (by decide) ?_
    refine lv_istore_n (lv' := [(3, .int (-1)), (2, .int (zone 4 ((zby x b L) p1))), (0, .ref (za G b)), (1, .int (nI 4))]) hx hb dX5_takePart_82 rfl hl (by decide) rfl (fun ls hl => ?_)
    refine lv_iload_n hx hb dX5_takePart_83 rfl (lv_at hl 0 rfl) ?_
    refine lv_if_ge (tgt := 91) hx hb dX5_takePart_84 (by decide) (fun c_84 => ?_) (fun c_84 => ?_)
    · skip
      exact absurd c_84 (by decide)
    · skip
      refine lv_iconst (v := (-1)) hx hb dX5_takePart_87 rfl ?_
      refine lv_goto (tgt := 95) hx hb dX5_takePart_88 (by decide) ?_
      refine lv_istore (lv' := [(4, .int (-1)), (3, .int (-1)), (2, .int (zone 4 ((zby x b L) p1))), (0, .ref (za G b)), (1, .int (nI 4))]) hx hb dX5_takePart_95 hl (by decide) rfl (fun ls hl => ?_)
      refine lv_iload hx hb dX5_takePart_97 (lv_at hl 0 rfl) ?_
      refine lv_if_lt (tgt := 124) hx hb dX5_takePart_99 (by decide) (fun c_99 => ?_) (fun c_99 => ?_)
      · skip
        refine lv_iconst (v := (nI 0)) hx hb dX5_takePart_124 rfl ?_
        exact z_zret hx hb hr hlocks hI (Or.inl rfl) ((by rw [show zPa (zby x b L) 0 p1 cs = _ from if_pos (Int32.not_le.mp c_69)]; exact ⟨rfl, rfl⟩)) dX5_takePart_125
      · skip
        exact absurd (by decide) c_99
set_option maxHeartbeats 1000000 in
set_option maxRecDepth 100000 in
theorem c_X5_takeEach0 (l : Launch) {G : zG} (hG : zOK G) (aK aV : Nat → Nat) (x : zX) (b L p1 : Nat) (cs : List Int32) (hb0 : zRm b) (hL : x.1 b 8 = nI L) (hL9 : L ≤ 100) (htx : zTx x b) (hpL : p1 ≤ L) (hcs : cs.length ≤ 100) : zMiS l yX5_takeEach wsX5_takeEach { frames := 6, cells := 0, slots := 0, locals := 153 } G aK aV [.ref (za G b), .int (nI 4)] (zpz x b p1 cs) (fun (r : Int32) (u : zX) => zr3 x b (zEa (zPa (zby x b L) 0) (zby x b L) p1 cs) r u) := by
  intro A
  refine zBodyS (cc := cX5_takeEach) (maxL := 4) (ret := (some .boolean)) (by decide) rfl (Nat.le_of_ble_eq_true rfl) ?_
  intro p e s m below meth c hx hb hml hown hts hr hlocks hK hN hSS hI ls hl
  have hown : s.vm.findClass RX5 = some m.cls := hown
  have hl : lv_has ls 4 [(0, .ref (za G b)), (1, .int (nI 4))] := hl
  refine lv_aload_n hx hb dX5_takeEach_0 rfl (lv_at hl 0 rfl) ?_
  refine lv_iload_n hx hb dX5_takeEach_1 rfl (lv_at hl 1 rfl) ?_
  refine z_calli (va_runV (As := [.int (nI 4)]) (rest := []) ⟨hx, hb, hml, hown, hts⟩ ((c_X5_takePart0 l hG aK aV x b L p1 cs hb0 hL hL9 htx hpL hcs) A) (cwV 1 hts gX5_takeEach_X5_takePart rfl rfl rfl (by decide +kernel) ⟨Nat.le_of_ble_eq_true rfl, Nat.le_of_ble_eq_true rfl⟩) (z_pVS hI hK hN hSS (z_recv hK hI (zor hG hb0) rfl)) rfl rfl hl.1 rfl (lv_room (Nat.le_of_ble_eq_true rfl)) dX5_takeEach_2 ⟨Nat.zero_le _, Nat.zero_le _⟩) hI (fun r_2 u H locs hw hI => ?_)
  obtain ⟨rfl, rfl⟩ := hw
  have hin_2 : zIn L (zPa (zby x b L) 0 p1 cs) := zPa_in zby_e 0 _ _ hpL hcs
  refine lv_istore_n (lv' := [(2, .int (if (zPa (zby x b L) 0 p1 cs).1 = true then nI 1 else nI 0)), (0, .ref (za G b)), (1, .int (nI 4))]) hx hb dX5_takeEach_5 rfl hl (by decide) rfl (fun ls hl => ?_)
  refine lv_iconst (v := (nI 0)) hx hb dX5_takeEach_6 rfl ?_
  refine lv_istore_n (lv' := [(3, .int (nI 0)), (2, .int (if (zPa (zby x b L) 0 p1 cs).1 = true then nI 1 else nI 0)), (0, .ref (za G b)), (1, .int (nI 4))]) hx hb dX5_takeEach_7 rfl hl (by decide) rfl (fun ls hl => ?_)
  have L8 : ∀ (f : Nat) (i : Nat) (r : zPR), (i ≤ 100) → (zLp (zPa (zby x b L) 0) (zby x b L) (nI 38) (-2) (100 - i) r = zEa (zPa (zby x b L) 0) (zby x b L) p1 cs) → (zIn L r) → 101 ≤ i + f → ∀ (H : Heap) (locs : List Loc), zI G (zpz x b r.2.1 r.2.2) A s.heap H locs → ∀ ls : Array Slot, lv_has ls 4 [(0, .ref (za G b)), (1, .int (nI 4)), (2, .int (if r.1 = true then nI 1 else nI 0)), (3, .int (nI i))] → W p l e { frames := 6, cells := 0, slots := 0, locals := 153 } s m ([.ref (za G b), .int (nI 4)] : List Value).toArray below meth c H locs 0 0 (MQ below (va_Qi (fun (r : Int32) (u : zX) => zr3 x b (zEa (zPa (zby x b L) 0) (zby x b L) p1 cs) r u) (fun u t => zJ G u A t.heap) A) ([.ref (za G b), .int (nI 4)] : List Value).toArray s 0 0 A) (F0 m 8 ls []) := by
    intro f
    induction f with
    | zero =>
      intro i r h1 h2 h3 hf
      exact absurd hf (by omega)
    | succ f ih =>
      intro i r h1 h2 h3 hf H locs hI ls hl
      have ih8 := ih
      refine lv_iload_n hx hb dX5_takeEach_8 rfl (lv_at hl 3 rfl) ?_
      refine lv_bipush (v := (nI 100)) hx hb dX5_takeEach_9 rfl ?_
      refine lv_icmp_ge (tgt := 56) hx hb dX5_takeEach_11 (by decide) (fun c_11 => ?_) (fun c_11 => ?_)
      · skip
        rw [zqG (by omega) (by omega)] at c_11
        have hzx : zLp (zPa (zby x b L) 0) (zby x b L) (nI 38) (-2) (100 - i) r = r := by rw [show 100 - i = 0 by omega]; rfl
        have hfin : zEa (zPa (zby x b L) 0) (zby x b L) p1 cs = r := h2.symm.trans hzx
        refine lv_iload_n hx hb dX5_takeEach_56 rfl (lv_at hl 2 rfl) ?_
        exact z_zret hx hb hr hlocks hI (zb01 _) (by rw [hfin]; exact ⟨rfl, rfl⟩) dX5_takeEach_57
      · skip
        rw [zqG (by omega) (by omega)] at c_11
        refine lv_iload_n hx hb dX5_takeEach_14 rfl (lv_at hl 2 rfl) ?_
        refine lv_if_eq (tgt := 56) hx hb dX5_takeEach_15 (by decide) (fun c_15 => ?_) (fun c_15 => ?_)
        · skip
          rw [zb_0] at c_15
          have hzx : zLp (zPa (zby x b L) 0) (zby x b L) (nI 38) (-2) (100 - i) r = r := zLp_x (fun h9 => c_15 h9.1) _
          have hfin : zEa (zPa (zby x b L) 0) (zby x b L) p1 cs = r := h2.symm.trans hzx
          refine lv_iload_n hx hb dX5_takeEach_56 rfl (lv_at hl 2 rfl) ?_
          exact z_zret hx hb hr hlocks hI (zb01 _) (by rw [hfin]; exact ⟨rfl, rfl⟩) dX5_takeEach_57
        · skip
          rw [zb_0, Classical.not_not] at c_15
          refine lv_aload_n hx hb dX5_takeEach_18 rfl (lv_at hl 0 rfl) ?_
          refine lv_bipush (v := (nI 38)) hx hb dX5_takeEach_19 rfl ?_
          refine z_calli (va_runV (As := [.int (nI 38)]) (rest := []) ⟨hx, hb, hml, hown, hts⟩ ((c_X5_takesZ l hG x b L r.2.1 r.2.2 (nI 38) hb0 hL hL9 h3.1) A) (cwV 1 hts gX5_takeEach_X5_takes rfl rfl rfl (by decide +kernel) ⟨Nat.le_of_ble_eq_true rfl, Nat.le_of_ble_eq_true rfl⟩) (z_pV hI hK hN (z_recv hK hI (zor hG hb0) rfl)) rfl rfl hl.1 rfl (lv_room (Nat.le_of_ble_eq_true rfl)) dX5_takeEach_21 ⟨Nat.zero_le _, Nat.zero_le _⟩) hI (fun r_21 u H locs hw hI => ?_)
          obtain ⟨rfl, rfl⟩ := hw
          have hin_21 : zIn L (ztke (zby x b L) (nI 38) r.2.1 r.2.2) := ztke_in zby_e (by decide) h3.1 h3.2
          refine lv_if_eq (tgt := 56) hx hb dX5_takeEach_24 (by decide) (fun c_24 => ?_) (fun c_24 => ?_)
          · skip
            rw [zb_0] at c_24
            have hI : zI G (zpz x b r.2.1 r.2.2) A s.heap H locs := by rw [ztke_f c_24] at hI; exact hI
            have hzx : zLp (zPa (zby x b L) 0) (zby x b L) (nI 38) (-2) (100 - i) r = r := zLp_x (fun h9 => c_24 h9.2) _
            have hfin : zEa (zPa (zby x b L) 0) (zby x b L) p1 cs = r := h2.symm.trans hzx
            refine lv_iload_n hx hb dX5_takeEach_56 rfl (lv_at hl 2 rfl) ?_
            exact z_zret hx hb hr hlocks hI (zb01 _) (by rw [hfin]; exact ⟨rfl, rfl⟩) dX5_takeEach_57
          · skip
            rw [zb_0, Classical.not_not] at c_24
            refine lv_aload_n hx hb dX5_takeEach_27 rfl (lv_at hl 0 rfl) ?_
            refine lv_iload_n hx hb dX5_takeEach_28 rfl (lv_at hl 1 rfl) ?_
            refine z_calli (va_runV (As := [.int (nI 4)]) (rest := []) ⟨hx, hb, hml, hown, hts⟩ ((c_X5_takePart0 l hG aK aV x b L (ztke (zby x b L) (nI 38) r.2.1 r.2.2).2.1 (ztke (zby x b L) (nI 38) r.2.1 r.2.2).2.2 hb0 hL hL9 htx hin_21.1 hin_21.2) A) (cwV 1 hts gX5_takeEach_X5_takePart rfl rfl rfl (by decide +kernel) ⟨Nat.le_of_ble_eq_true rfl, Nat.le_of_ble_eq_true rfl⟩) (z_pVS hI hK hN hSS (z_recv hK hI (zor hG hb0) rfl)) rfl rfl hl.1 rfl (lv_room (Nat.le_of_ble_eq_true rfl)) dX5_takeEach_29 ⟨Nat.zero_le _, Nat.zero_le _⟩) hI (fun r_29 u H locs hw hI => ?_)
            obtain ⟨rfl, rfl⟩ := hw
            have hin_29 : zIn L (zPa (zby x b L) 0 (ztke (zby x b L) (nI 38) r.2.1 r.2.2).2.1 (ztke (zby x b L) (nI 38) r.2.1 r.2.2).2.2) := zPa_in zby_e 0 _ _ hin_21.1 hin_21.2
            refine lv_if_eq (tgt := 48) hx hb dX5_takeEach_32 (by decide) (fun c_32 => ?_) (fun c_32 => ?_)
            · skip
              rw [zb_0] at c_32
              refine lv_iconst (v := (nI 0)) hx hb dX5_takeEach_48 rfl ?_
              refine lv_istore_n (lv' := [(2, .int (nI 0)), (0, .ref (za G b)), (1, .int (nI 4)), (3, .int (nI i))]) hx hb dX5_takeEach_49 rfl hl (by decide) rfl (fun ls hl => ?_)
              refine lv_iinc (v := (nI (i + 1))) (lv' := [(3, .int (nI (i + 1))), (2, .int (nI 0)), (0, .ref (za G b)), (1, .int (nI 4))]) hx hb dX5_takeEach_50 hl (k := 3) rfl (zinc i) (by decide) rfl (fun ls hl => ?_)
              refine lv_goto (tgt := 8) hx hb dX5_takeEach_53 (by decide) ?_
              exact ih8 (i + 1) (zth (zPa (zby x b L) 0 (ztke (zby x b L) (nI 38) r.2.1 r.2.2).2.1 (ztke (zby x b L) (nI 38) r.2.1 r.2.2).2.2) (zpt (-2))) (by omega) (by rw [← h2, show 100 - i = 100 - (i + 1) + 1 by omega, zLp, if_pos ⟨c_15, c_24⟩]) (zth_in hin_29 (fun h9 => zpt_in h9.1 h9.2)) (by omega) _ _ (by rw [show (zth (zPa (zby x b L) 0 (ztke (zby x b L) (nI 38) r.2.1 r.2.2).2.1 (ztke (zby x b L) (nI 38) r.2.1 r.2.2).2.2) (zpt (-2))) = (zPa (zby x b L) 0 (ztke (zby x b L) (nI 38) r.2.1 r.2.2).2.1 (ztke (zby x b L) (nI 38) r.2.1 r.2.2).2.2) from if_neg c_32]; exact hI) ls (by rw [show (zth (zPa (zby x b L) 0 (ztke (zby x b L) (nI 38) r.2.1 r.2.2).2.1 (ztke (zby x b L) (nI 38) r.2.1 r.2.2).2.2) (zpt (-2))) = (zPa (zby x b L) 0 (ztke (zby x b L) (nI 38) r.2.1 r.2.2).2.1 (ztke (zby x b L) (nI 38) r.2.1 r.2.2).2.2) from if_neg c_32, if_neg c_32]; exact lv_sub hl [2, 3, 1, 0] rfl)
            · skip
              rw [zb_0, Classical.not_not] at c_32
              refine lv_aload_n hx hb dX5_takeEach_35 rfl (lv_at hl 0 rfl) ?_
              refine lv_bipush (v := (-2)) hx hb dX5_takeEach_36 rfl ?_
              refine z_calli (va_runV (As := [.int (-2)]) (rest := []) ⟨hx, hb, hml, hown, hts⟩ ((c_X5_putsZ l hG x b L (zPa (zby x b L) 0 (ztke (zby x b L) (nI 38) r.2.1 r.2.2).2.1 (ztke (zby x b L) (nI 38) r.2.1 r.2.2).2.2).2.1 (zPa (zby x b L) 0 (ztke (zby x b L) (nI 38) r.2.1 r.2.2).2.1 (ztke (zby x b L) (nI 38) r.2.1 r.2.2).2.2).2.2 (-2) hb0 hin_29.2) A) (cwV 1 hts gX5_takeEach_X5_puts rfl rfl rfl (by decide +kernel) ⟨Nat.le_of_ble_eq_true rfl, Nat.le_of_ble_eq_true rfl⟩) (z_pV hI hK hN (z_recv hK hI (zor hG hb0) rfl)) rfl rfl hl.1 rfl (lv_room (Nat.le_of_ble_eq_true rfl)) dX5_takeEach_38 ⟨Nat.zero_le _, Nat.zero_le _⟩) hI (fun r_38 u H locs hw hI => ?_)
              obtain ⟨rfl, rfl⟩ := hw
              have hin_38 : zIn L (zpt (-2) (zPa (zby x b L) 0 (ztke (zby x b L) (nI 38) r.2.1 r.2.2).2.1 (ztke (zby x b L) (nI 38) r.2.1 r.2.2).2.2).2.1 (zPa (zby x b L) 0 (ztke (zby x b L) (nI 38) r.2.1 r.2.2).2.1 (ztke (zby x b L) (nI 38) r.2.1 r.2.2).2.2).2.2) := zpt_in hin_29.1 hin_29.2
              refine lv_if_eq (tgt := 48) hx hb dX5_takeEach_41 (by decide) (fun c_41 => ?_) (fun c_41 => ?_)
              · skip
                rw [zb_0] at c_41
                refine lv_iconst (v := (nI 0)) hx hb dX5_takeEach_48 rfl ?_
                refine lv_istore_n (lv' := [(2, .int (nI 0)), (0, .ref (za G b)), (1, .int (nI 4)), (3, .int (nI i))]) hx hb dX5_takeEach_49 rfl hl (by decide) rfl (fun ls hl => ?_)
                refine lv_iinc (v := (nI (i + 1))) (lv' := [(3, .int (nI (i + 1))), (2, .int (nI 0)), (0, .ref (za G b)), (1, .int (nI 4))]) hx hb dX5_takeEach_50 hl (k := 3) rfl (zinc i) (by decide) rfl (fun ls hl => ?_)
                refine lv_goto (tgt := 8) hx hb dX5_takeEach_53 (by decide) ?_
                exact ih8 (i + 1) (zth (zPa (zby x b L) 0 (ztke (zby x b L) (nI 38) r.2.1 r.2.2).2.1 (ztke (zby x b L) (nI 38) r.2.1 r.2.2).2.2) (zpt (-2))) (by omega) (by rw [← h2, show 100 - i = 100 - (i + 1) + 1 by omega, zLp, if_pos ⟨c_15, c_24⟩]) (zth_in hin_29 (fun h9 => zpt_in h9.1 h9.2)) (by omega) _ _ (by rw [show (zth (zPa (zby x b L) 0 (ztke (zby x b L) (nI 38) r.2.1 r.2.2).2.1 (ztke (zby x b L) (nI 38) r.2.1 r.2.2).2.2) (zpt (-2))) = (zpt (-2) (zPa (zby x b L) 0 (ztke (zby x b L) (nI 38) r.2.1 r.2.2).2.1 (ztke (zby x b L) (nI 38) r.2.1 r.2.2).2.2).2.1 (zPa (zby x b L) 0 (ztke (zby x b L) (nI 38) r.2.1 r.2.2).2.1 (ztke (zby x b L) (nI 38) r.2.1 r.2.2).2.2).2.2) from if_pos c_32]; exact hI) ls (by rw [show (zth (zPa (zby x b L) 0 (ztke (zby x b L) (nI 38) r.2.1 r.2.2).2.1 (ztke (zby x b L) (nI 38) r.2.1 r.2.2).2.2) (zpt (-2))) = (zpt (-2) (zPa (zby x b L) 0 (ztke (zby x b L) (nI 38) r.2.1 r.2.2).2.1 (ztke (zby x b L) (nI 38) r.2.1 r.2.2).2.2).2.1 (zPa (zby x b L) 0 (ztke (zby x b L) (nI 38) r.2.1 r.2.2).2.1 (ztke (zby x b L) (nI 38) r.2.1 r.2.2).2.2).2.2) from if_pos c_32, if_neg c_41]; exact lv_sub hl [2, 3, 1, 0] rfl)
              · skip
                rw [zb_0, Classical.not_not] at c_41
                refine lv_iconst (v := (nI 1)) hx hb dX5_takeEach_44 rfl ?_
                refine lv_goto (tgt := 49) hx hb dX5_takeEach_45 (by decide) ?_
                refine lv_istore_n (lv' := [(2, .int (nI 1)), (0, .ref (za G b)), (1, .int (nI 4)), (3, .int (nI i))]) hx hb dX5_takeEach_49 rfl hl (by decide) rfl (fun ls hl => ?_)
                refine lv_iinc (v := (nI (i + 1))) (lv' := [(3, .int (nI (i + 1))), (2, .int (nI 1)), (0, .ref (za G b)), (1, .int (nI 4))]) hx hb dX5_takeEach_50 hl (k := 3) rfl (zinc i) (by decide) rfl (fun ls hl => ?_)
                refine lv_goto (tgt := 8) hx hb dX5_takeEach_53 (by decide) ?_
                exact ih8 (i + 1) (zth (zPa (zby x b L) 0 (ztke (zby x b L) (nI 38) r.2.1 r.2.2).2.1 (ztke (zby x b L) (nI 38) r.2.1 r.2.2).2.2) (zpt (-2))) (by omega) (by rw [← h2, show 100 - i = 100 - (i + 1) + 1 by omega, zLp, if_pos ⟨c_15, c_24⟩]) (zth_in hin_29 (fun h9 => zpt_in h9.1 h9.2)) (by omega) _ _ (by rw [show (zth (zPa (zby x b L) 0 (ztke (zby x b L) (nI 38) r.2.1 r.2.2).2.1 (ztke (zby x b L) (nI 38) r.2.1 r.2.2).2.2) (zpt (-2))) = (zpt (-2) (zPa (zby x b L) 0 (ztke (zby x b L) (nI 38) r.2.1 r.2.2).2.1 (ztke (zby x b L) (nI 38) r.2.1 r.2.2).2.2).2.1 (zPa (zby x b L) 0 (ztke (zby x b L) (nI 38) r.2.1 r.2.2).2.1 (ztke (zby x b L) (nI 38) r.2.1 r.2.2).2.2).2.2) from if_pos c_32]; exact hI) ls (by rw [show (zth (zPa (zby x b L) 0 (ztke (zby x b L) (nI 38) r.2.1 r.2.2).2.1 (ztke (zby x b L) (nI 38) r.2.1 r.2.2).2.2) (zpt (-2))) = (zpt (-2) (zPa (zby x b L) 0 (ztke (zby x b L) (nI 38) r.2.1 r.2.2).2.1 (ztke (zby x b L) (nI 38) r.2.1 r.2.2).2.2).2.1 (zPa (zby x b L) 0 (ztke (zby x b L) (nI 38) r.2.1 r.2.2).2.1 (ztke (zby x b L) (nI 38) r.2.1 r.2.2).2.2).2.2) from if_pos c_32, if_pos c_41]; exact lv_sub hl [2, 3, 1, 0] rfl)
  exact L8 (101) 0 (zPa (zby x b L) 0 p1 cs) (by omega) rfl hin_2 (by omega) _ _ hI ls (lv_sub hl [2, 3, 1, 0] rfl)
set_option maxHeartbeats 1000000 in
set_option maxRecDepth 100000 in
theorem c_X5_takeEither0 (l : Launch) {G : zG} (hG : zOK G) (aK aV : Nat → Nat) (x : zX) (b L p1 : Nat) (cs : List Int32) (hb0 : zRm b) (hL : x.1 b 8 = nI L) (hL9 : L ≤ 100) (htx : zTx x b) (hpL : p1 ≤ L) (hcs : cs.length ≤ 100) : zMiS l yX5_takeEither wsX5_takeEither { frames := 7, cells := 0, slots := 0, locals := 176 } G aK aV [.ref (za G b), .int (nI 4)] (zpz x b p1 cs) (fun (r : Int32) (u : zX) => zr3 x b (zEi (zPa (zby x b L) 0) (zby x b L) p1 cs) r u) := by
  intro A
  refine zBodyS (cc := cX5_takeEither) (maxL := 4) (ret := (some .boolean)) (by decide) rfl (Nat.le_of_ble_eq_true rfl) ?_
  intro p e s m below meth c hx hb hml hown hts hr hlocks hK hN hSS hI ls hl
  have hown : s.vm.findClass RX5 = some m.cls := hown
  have hl : lv_has ls 4 [(0, .ref (za G b)), (1, .int (nI 4))] := hl
  refine lv_aload_n hx hb dX5_takeEither_0 rfl (lv_at hl 0 rfl) ?_
  refine lv_iload_n hx hb dX5_takeEither_1 rfl (lv_at hl 1 rfl) ?_
  refine z_calli (va_runV (As := [.int (nI 4)]) (rest := []) ⟨hx, hb, hml, hown, hts⟩ ((c_X5_takeEach0 l hG aK aV x b L p1 cs hb0 hL hL9 htx hpL hcs) A) (cwV 1 hts gX5_takeEither_X5_takeEach rfl rfl rfl (by decide +kernel) ⟨Nat.le_of_ble_eq_true rfl, Nat.le_of_ble_eq_true rfl⟩) (z_pVS hI hK hN hSS (z_recv hK hI (zor hG hb0) rfl)) rfl rfl hl.1 rfl (lv_room (Nat.le_of_ble_eq_true rfl)) dX5_takeEither_2 ⟨Nat.zero_le _, Nat.zero_le _⟩) hI (fun r_2 u H locs hw hI => ?_)
  obtain ⟨rfl, rfl⟩ := hw
  have hin_2 : zIn L (zEa (zPa (zby x b L) 0) (zby x b L) p1 cs) := zEa_in zby_e (fun p cs => zPa_in zby_e 0 p cs) _ _ hpL hcs
  refine lv_istore_n (lv' := [(2, .int (if (zEa (zPa (zby x b L) 0) (zby x b L) p1 cs).1 = true then nI 1 else nI 0)), (0, .ref (za G b)), (1, .int (nI 4))]) hx hb dX5_takeEither_5 rfl hl (by decide) rfl (fun ls hl => ?_)
  refine lv_iconst (v := (nI 0)) hx hb dX5_takeEither_6 rfl ?_
  refine lv_istore_n (lv' := [(3, .int (nI 0)), (2, .int (if (zEa (zPa (zby x b L) 0) (zby x b L) p1 cs).1 = true then nI 1 else nI 0)), (0, .ref (za G b)), (1, .int (nI 4))]) hx hb dX5_takeEither_7 rfl hl (by decide) rfl (fun ls hl => ?_)
  have L8 : ∀ (f : Nat) (i : Nat) (r : zPR), (i ≤ 100) → (zLp (zEa (zPa (zby x b L) 0) (zby x b L)) (zby x b L) (nI 124) (-3) (100 - i) r = zEi (zPa (zby x b L) 0) (zby x b L) p1 cs) → (zIn L r) → 101 ≤ i + f → ∀ (H : Heap) (locs : List Loc), zI G (zpz x b r.2.1 r.2.2) A s.heap H locs → ∀ ls : Array Slot, lv_has ls 4 [(0, .ref (za G b)), (1, .int (nI 4)), (2, .int (if r.1 = true then nI 1 else nI 0)), (3, .int (nI i))] → W p l e { frames := 7, cells := 0, slots := 0, locals := 176 } s m ([.ref (za G b), .int (nI 4)] : List Value).toArray below meth c H locs 0 0 (MQ below (va_Qi (fun (r : Int32) (u : zX) => zr3 x b (zEi (zPa (zby x b L) 0) (zby x b L) p1 cs) r u) (fun u t => zJ G u A t.heap) A) ([.ref (za G b), .int (nI 4)] : List Value).toArray s 0 0 A) (F0 m 8 ls []) := by
    intro f
    induction f with
    | zero =>
      intro i r h1 h2 h3 hf
      exact absurd hf (by omega)
    | succ f ih =>
      intro i r h1 h2 h3 hf H locs hI ls hl
      have ih8 := ih
      refine lv_iload_n hx hb dX5_takeEither_8 rfl (lv_at hl 3 rfl) ?_
      refine lv_bipush (v := (nI 100)) hx hb dX5_takeEither_9 rfl ?_
      refine lv_icmp_ge (tgt := 56) hx hb dX5_takeEither_11 (by decide) (fun c_11 => ?_) (fun c_11 => ?_)
      · skip
        rw [zqG (by omega) (by omega)] at c_11
        have hzx : zLp (zEa (zPa (zby x b L) 0) (zby x b L)) (zby x b L) (nI 124) (-3) (100 - i) r = r := by rw [show 100 - i = 0 by omega]; rfl
        have hfin : zEi (zPa (zby x b L) 0) (zby x b L) p1 cs = r := h2.symm.trans hzx
        refine lv_iload_n hx hb dX5_takeEither_56 rfl (lv_at hl 2 rfl) ?_
        exact z_zret hx hb hr hlocks hI (zb01 _) (by rw [hfin]; exact ⟨rfl, rfl⟩) dX5_takeEither_57
      · skip
        rw [zqG (by omega) (by omega)] at c_11
        refine lv_iload_n hx hb dX5_takeEither_14 rfl (lv_at hl 2 rfl) ?_
        refine lv_if_eq (tgt := 56) hx hb dX5_takeEither_15 (by decide) (fun c_15 => ?_) (fun c_15 => ?_)
        · skip
          rw [zb_0] at c_15
          have hzx : zLp (zEa (zPa (zby x b L) 0) (zby x b L)) (zby x b L) (nI 124) (-3) (100 - i) r = r := zLp_x (fun h9 => c_15 h9.1) _
          have hfin : zEi (zPa (zby x b L) 0) (zby x b L) p1 cs = r := h2.symm.trans hzx
          refine lv_iload_n hx hb dX5_takeEither_56 rfl (lv_at hl 2 rfl) ?_
          exact z_zret hx hb hr hlocks hI (zb01 _) (by rw [hfin]; exact ⟨rfl, rfl⟩) dX5_takeEither_57
        · skip
          rw [zb_0, Classical.not_not] at c_15
          refine lv_aload_n hx hb dX5_takeEither_18 rfl (lv_at hl 0 rfl) ?_
          refine lv_bipush (v := (nI 124)) hx hb dX5_takeEither_19 rfl ?_
          refine z_calli (va_runV (As := [.int (nI 124)]) (rest := []) ⟨hx, hb, hml, hown, hts⟩ ((c_X5_takesZ l hG x b L r.2.1 r.2.2 (nI 124) hb0 hL hL9 h3.1) A) (cwV 1 hts gX5_takeEither_X5_takes rfl rfl rfl (by decide +kernel) ⟨Nat.le_of_ble_eq_true rfl, Nat.le_of_ble_eq_true rfl⟩) (z_pV hI hK hN (z_recv hK hI (zor hG hb0) rfl)) rfl rfl hl.1 rfl (lv_room (Nat.le_of_ble_eq_true rfl)) dX5_takeEither_21 ⟨Nat.zero_le _, Nat.zero_le _⟩) hI (fun r_21 u H locs hw hI => ?_)
          obtain ⟨rfl, rfl⟩ := hw
          have hin_21 : zIn L (ztke (zby x b L) (nI 124) r.2.1 r.2.2) := ztke_in zby_e (by decide) h3.1 h3.2
          refine lv_if_eq (tgt := 56) hx hb dX5_takeEither_24 (by decide) (fun c_24 => ?_) (fun c_24 => ?_)
          · skip
            rw [zb_0] at c_24
            have hI : zI G (zpz x b r.2.1 r.2.2) A s.heap H locs := by rw [ztke_f c_24] at hI; exact hI
            have hzx : zLp (zEa (zPa (zby x b L) 0) (zby x b L)) (zby x b L) (nI 124) (-3) (100 - i) r = r := zLp_x (fun h9 => c_24 h9.2) _
            have hfin : zEi (zPa (zby x b L) 0) (zby x b L) p1 cs = r := h2.symm.trans hzx
            refine lv_iload_n hx hb dX5_takeEither_56 rfl (lv_at hl 2 rfl) ?_
            exact z_zret hx hb hr hlocks hI (zb01 _) (by rw [hfin]; exact ⟨rfl, rfl⟩) dX5_takeEither_57
          · skip
            rw [zb_0, Classical.not_not] at c_24
            refine lv_aload_n hx hb dX5_takeEither_27 rfl (lv_at hl 0 rfl) ?_
            refine lv_iload_n hx hb dX5_takeEither_28 rfl (lv_at hl 1 rfl) ?_
            refine z_calli (va_runV (As := [.int (nI 4)]) (rest := []) ⟨hx, hb, hml, hown, hts⟩ ((c_X5_takeEach0 l hG aK aV x b L (ztke (zby x b L) (nI 124) r.2.1 r.2.2).2.1 (ztke (zby x b L) (nI 124) r.2.1 r.2.2).2.2 hb0 hL hL9 htx hin_21.1 hin_21.2) A) (cwV 1 hts gX5_takeEither_X5_takeEach rfl rfl rfl (by decide +kernel) ⟨Nat.le_of_ble_eq_true rfl, Nat.le_of_ble_eq_true rfl⟩) (z_pVS hI hK hN hSS (z_recv hK hI (zor hG hb0) rfl)) rfl rfl hl.1 rfl (lv_room (Nat.le_of_ble_eq_true rfl)) dX5_takeEither_29 ⟨Nat.zero_le _, Nat.zero_le _⟩) hI (fun r_29 u H locs hw hI => ?_)
            obtain ⟨rfl, rfl⟩ := hw
            have hin_29 : zIn L (zEa (zPa (zby x b L) 0) (zby x b L) (ztke (zby x b L) (nI 124) r.2.1 r.2.2).2.1 (ztke (zby x b L) (nI 124) r.2.1 r.2.2).2.2) := zEa_in zby_e (fun p cs => zPa_in zby_e 0 p cs) _ _ hin_21.1 hin_21.2
            refine lv_if_eq (tgt := 48) hx hb dX5_takeEither_32 (by decide) (fun c_32 => ?_) (fun c_32 => ?_)
            · skip
              rw [zb_0] at c_32
              refine lv_iconst (v := (nI 0)) hx hb dX5_takeEither_48 rfl ?_
              refine lv_istore_n (lv' := [(2, .int (nI 0)), (0, .ref (za G b)), (1, .int (nI 4)), (3, .int (nI i))]) hx hb dX5_takeEither_49 rfl hl (by decide) rfl (fun ls hl => ?_)
              refine lv_iinc (v := (nI (i + 1))) (lv' := [(3, .int (nI (i + 1))), (2, .int (nI 0)), (0, .ref (za G b)), (1, .int (nI 4))]) hx hb dX5_takeEither_50 hl (k := 3) rfl (zinc i) (by decide) rfl (fun ls hl => ?_)
              refine lv_goto (tgt := 8) hx hb dX5_takeEither_53 (by decide) ?_
              exact ih8 (i + 1) (zth (zEa (zPa (zby x b L) 0) (zby x b L) (ztke (zby x b L) (nI 124) r.2.1 r.2.2).2.1 (ztke (zby x b L) (nI 124) r.2.1 r.2.2).2.2) (zpt (-3))) (by omega) (by rw [← h2, show 100 - i = 100 - (i + 1) + 1 by omega, zLp, if_pos ⟨c_15, c_24⟩]) (zth_in hin_29 (fun h9 => zpt_in h9.1 h9.2)) (by omega) _ _ (by rw [show (zth (zEa (zPa (zby x b L) 0) (zby x b L) (ztke (zby x b L) (nI 124) r.2.1 r.2.2).2.1 (ztke (zby x b L) (nI 124) r.2.1 r.2.2).2.2) (zpt (-3))) = (zEa (zPa (zby x b L) 0) (zby x b L) (ztke (zby x b L) (nI 124) r.2.1 r.2.2).2.1 (ztke (zby x b L) (nI 124) r.2.1 r.2.2).2.2) from if_neg c_32]; exact hI) ls (by rw [show (zth (zEa (zPa (zby x b L) 0) (zby x b L) (ztke (zby x b L) (nI 124) r.2.1 r.2.2).2.1 (ztke (zby x b L) (nI 124) r.2.1 r.2.2).2.2) (zpt (-3))) = (zEa (zPa (zby x b L) 0) (zby x b L) (ztke (zby x b L) (nI 124) r.2.1 r.2.2).2.1 (ztke (zby x b L) (nI 124) r.2.1 r.2.2).2.2) from if_neg c_32, if_neg c_32]; exact lv_sub hl [2, 3, 1, 0] rfl)
            · skip
              rw [zb_0, Classical.not_not] at c_32
              refine lv_aload_n hx hb dX5_takeEither_35 rfl (lv_at hl 0 rfl) ?_
              refine lv_bipush (v := (-3)) hx hb dX5_takeEither_36 rfl ?_
              refine z_calli (va_runV (As := [.int (-3)]) (rest := []) ⟨hx, hb, hml, hown, hts⟩ ((c_X5_putsZ l hG x b L (zEa (zPa (zby x b L) 0) (zby x b L) (ztke (zby x b L) (nI 124) r.2.1 r.2.2).2.1 (ztke (zby x b L) (nI 124) r.2.1 r.2.2).2.2).2.1 (zEa (zPa (zby x b L) 0) (zby x b L) (ztke (zby x b L) (nI 124) r.2.1 r.2.2).2.1 (ztke (zby x b L) (nI 124) r.2.1 r.2.2).2.2).2.2 (-3) hb0 hin_29.2) A) (cwV 1 hts gX5_takeEither_X5_puts rfl rfl rfl (by decide +kernel) ⟨Nat.le_of_ble_eq_true rfl, Nat.le_of_ble_eq_true rfl⟩) (z_pV hI hK hN (z_recv hK hI (zor hG hb0) rfl)) rfl rfl hl.1 rfl (lv_room (Nat.le_of_ble_eq_true rfl)) dX5_takeEither_38 ⟨Nat.zero_le _, Nat.zero_le _⟩) hI (fun r_38 u H locs hw hI => ?_)
              obtain ⟨rfl, rfl⟩ := hw
              have hin_38 : zIn L (zpt (-3) (zEa (zPa (zby x b L) 0) (zby x b L) (ztke (zby x b L) (nI 124) r.2.1 r.2.2).2.1 (ztke (zby x b L) (nI 124) r.2.1 r.2.2).2.2).2.1 (zEa (zPa (zby x b L) 0) (zby x b L) (ztke (zby x b L) (nI 124) r.2.1 r.2.2).2.1 (ztke (zby x b L) (nI 124) r.2.1 r.2.2).2.2).2.2) := zpt_in hin_29.1 hin_29.2
              refine lv_if_eq (tgt := 48) hx hb dX5_takeEither_41 (by decide) (fun c_41 => ?_) (fun c_41 => ?_)
              · skip
                rw [zb_0] at c_41
                refine lv_iconst (v := (nI 0)) hx hb dX5_takeEither_48 rfl ?_
                refine lv_istore_n (lv' := [(2, .int (nI 0)), (0, .ref (za G b)), (1, .int (nI 4)), (3, .int (nI i))]) hx hb dX5_takeEither_49 rfl hl (by decide) rfl (fun ls hl => ?_)
                refine lv_iinc (v := (nI (i + 1))) (lv' := [(3, .int (nI (i + 1))), (2, .int (nI 0)), (0, .ref (za G b)), (1, .int (nI 4))]) hx hb dX5_takeEither_50 hl (k := 3) rfl (zinc i) (by decide) rfl (fun ls hl => ?_)
                refine lv_goto (tgt := 8) hx hb dX5_takeEither_53 (by decide) ?_
                exact ih8 (i + 1) (zth (zEa (zPa (zby x b L) 0) (zby x b L) (ztke (zby x b L) (nI 124) r.2.1 r.2.2).2.1 (ztke (zby x b L) (nI 124) r.2.1 r.2.2).2.2) (zpt (-3))) (by omega) (by rw [← h2, show 100 - i = 100 - (i + 1) + 1 by omega, zLp, if_pos ⟨c_15, c_24⟩]) (zth_in hin_29 (fun h9 => zpt_in h9.1 h9.2)) (by omega) _ _ (by rw [show (zth (zEa (zPa (zby x b L) 0) (zby x b L) (ztke (zby x b L) (nI 124) r.2.1 r.2.2).2.1 (ztke (zby x b L) (nI 124) r.2.1 r.2.2).2.2) (zpt (-3))) = (zpt (-3) (zEa (zPa (zby x b L) 0) (zby x b L) (ztke (zby x b L) (nI 124) r.2.1 r.2.2).2.1 (ztke (zby x b L) (nI 124) r.2.1 r.2.2).2.2).2.1 (zEa (zPa (zby x b L) 0) (zby x b L) (ztke (zby x b L) (nI 124) r.2.1 r.2.2).2.1 (ztke (zby x b L) (nI 124) r.2.1 r.2.2).2.2).2.2) from if_pos c_32]; exact hI) ls (by rw [show (zth (zEa (zPa (zby x b L) 0) (zby x b L) (ztke (zby x b L) (nI 124) r.2.1 r.2.2).2.1 (ztke (zby x b L) (nI 124) r.2.1 r.2.2).2.2) (zpt (-3))) = (zpt (-3) (zEa (zPa (zby x b L) 0) (zby x b L) (ztke (zby x b L) (nI 124) r.2.1 r.2.2).2.1 (ztke (zby x b L) (nI 124) r.2.1 r.2.2).2.2).2.1 (zEa (zPa (zby x b L) 0) (zby x b L) (ztke (zby x b L) (nI 124) r.2.1 r.2.2).2.1 (ztke (zby x b L) (nI 124) r.2.1 r.2.2).2.2).2.2) from if_pos c_32, if_neg c_41]; exact lv_sub hl [2, 3, 1, 0] rfl)
              · skip
                rw [zb_0, Classical.not_not] at c_41
                refine lv_iconst (v := (nI 1)) hx hb dX5_takeEither_44 rfl ?_
                refine lv_goto (tgt := 49) hx hb dX5_takeEither_45 (by decide) ?_
                refine lv_istore_n (lv' := [(2, .int (nI 1)), (0, .ref (za G b)), (1, .int (nI 4)), (3, .int (nI i))]) hx hb dX5_takeEither_49 rfl hl (by decide) rfl (fun ls hl => ?_)
                refine lv_iinc (v := (nI (i + 1))) (lv' := [(3, .int (nI (i + 1))), (2, .int (nI 1)), (0, .ref (za G b)), (1, .int (nI 4))]) hx hb dX5_takeEither_50 hl (k := 3) rfl (zinc i) (by decide) rfl (fun ls hl => ?_)
                refine lv_goto (tgt := 8) hx hb dX5_takeEither_53 (by decide) ?_
                exact ih8 (i + 1) (zth (zEa (zPa (zby x b L) 0) (zby x b L) (ztke (zby x b L) (nI 124) r.2.1 r.2.2).2.1 (ztke (zby x b L) (nI 124) r.2.1 r.2.2).2.2) (zpt (-3))) (by omega) (by rw [← h2, show 100 - i = 100 - (i + 1) + 1 by omega, zLp, if_pos ⟨c_15, c_24⟩]) (zth_in hin_29 (fun h9 => zpt_in h9.1 h9.2)) (by omega) _ _ (by rw [show (zth (zEa (zPa (zby x b L) 0) (zby x b L) (ztke (zby x b L) (nI 124) r.2.1 r.2.2).2.1 (ztke (zby x b L) (nI 124) r.2.1 r.2.2).2.2) (zpt (-3))) = (zpt (-3) (zEa (zPa (zby x b L) 0) (zby x b L) (ztke (zby x b L) (nI 124) r.2.1 r.2.2).2.1 (ztke (zby x b L) (nI 124) r.2.1 r.2.2).2.2).2.1 (zEa (zPa (zby x b L) 0) (zby x b L) (ztke (zby x b L) (nI 124) r.2.1 r.2.2).2.1 (ztke (zby x b L) (nI 124) r.2.1 r.2.2).2.2).2.2) from if_pos c_32]; exact hI) ls (by rw [show (zth (zEa (zPa (zby x b L) 0) (zby x b L) (ztke (zby x b L) (nI 124) r.2.1 r.2.2).2.1 (ztke (zby x b L) (nI 124) r.2.1 r.2.2).2.2) (zpt (-3))) = (zpt (-3) (zEa (zPa (zby x b L) 0) (zby x b L) (ztke (zby x b L) (nI 124) r.2.1 r.2.2).2.1 (ztke (zby x b L) (nI 124) r.2.1 r.2.2).2.2).2.1 (zEa (zPa (zby x b L) 0) (zby x b L) (ztke (zby x b L) (nI 124) r.2.1 r.2.2).2.1 (ztke (zby x b L) (nI 124) r.2.1 r.2.2).2.2).2.2) from if_pos c_32, if_pos c_41]; exact lv_sub hl [2, 3, 1, 0] rfl)
  exact L8 (101) 0 (zEa (zPa (zby x b L) 0) (zby x b L) p1 cs) (by omega) rfl hin_2 (by omega) _ _ hI ls (lv_sub hl [2, 3, 1, 0] rfl)
set_option maxHeartbeats 1000000 in
set_option maxRecDepth 100000 in
theorem c_X5_takeNot0 (l : Launch) {G : zG} (hG : zOK G) (aK aV : Nat → Nat) (x : zX) (b L p1 : Nat) (cs : List Int32) (hb0 : zRm b) (hL : x.1 b 8 = nI L) (hL9 : L ≤ 100) (htx : zTx x b) (hpL : p1 ≤ L) (hcs : cs.length ≤ 100) : zMiS l yX5_takeNot wsX5_takeNot { frames := 6, cells := 0, slots := 0, locals := 153 } G aK aV [.ref (za G b), .int (nI 4)] (zpz x b p1 cs) (fun (r : Int32) (u : zX) => zr3 x b (zNt (zPa (zby x b L) 0) p1 cs) r u) := by
  intro A
  refine zBodyS (cc := cX5_takeNot) (maxL := 2) (ret := (some .boolean)) (by decide) rfl (Nat.le_of_ble_eq_true rfl) ?_
  intro p e s m below meth c hx hb hml hown hts hr hlocks hK hN hSS hI ls hl
  have hown : s.vm.findClass RX5 = some m.cls := hown
  have hl : lv_has ls 2 [(0, .ref (za G b)), (1, .int (nI 4))] := hl
  refine lv_aload_n hx hb dX5_takeNot_0 rfl (lv_at hl 0 rfl) ?_
  refine lv_iload_n hx hb dX5_takeNot_1 rfl (lv_at hl 1 rfl) ?_
  refine z_calli (va_runV (As := [.int (nI 4)]) (rest := []) ⟨hx, hb, hml, hown, hts⟩ ((c_X5_takePart0 l hG aK aV x b L p1 cs hb0 hL hL9 htx hpL hcs) A) (cwV 1 hts gX5_takeNot_X5_takePart rfl rfl rfl (by decide +kernel) ⟨Nat.le_of_ble_eq_true rfl, Nat.le_of_ble_eq_true rfl⟩) (z_pVS hI hK hN hSS (z_recv hK hI (zor hG hb0) rfl)) rfl rfl hl.1 rfl (lv_room (Nat.le_of_ble_eq_true rfl)) dX5_takeNot_2 ⟨Nat.zero_le _, Nat.zero_le _⟩) hI (fun r_2 u H locs hw hI => ?_)
  obtain ⟨rfl, rfl⟩ := hw
  have hin_2 : zIn L (zPa (zby x b L) 0 p1 cs) := zPa_in zby_e 0 _ _ hpL hcs
  refine lv_if_eq (tgt := 20) hx hb dX5_takeNot_5 (by decide) (fun c_5 => ?_) (fun c_5 => ?_)
  · skip
    rw [zb_0] at c_5
    refine lv_iconst (v := (nI 0)) hx hb dX5_takeNot_20 rfl ?_
    exact z_zret hx hb hr hlocks hI (Or.inl rfl) ((by rw [show zNt (zPa (zby x b L) 0) p1 cs = _ from if_neg c_5]; exact ⟨rfl, if_neg c_5⟩)) dX5_takeNot_21
  · skip
    rw [zb_0, Classical.not_not] at c_5
    refine lv_aload_n hx hb dX5_takeNot_8 rfl (lv_at hl 0 rfl) ?_
    refine lv_iconst (v := (-1)) hx hb dX5_takeNot_9 rfl ?_
    refine z_calli (va_runV (As := [.int (-1)]) (rest := []) ⟨hx, hb, hml, hown, hts⟩ ((c_X5_putsZ l hG x b L (zPa (zby x b L) 0 p1 cs).2.1 (zPa (zby x b L) 0 p1 cs).2.2 (-1) hb0 hin_2.2) A) (cwV 1 hts gX5_takeNot_X5_puts rfl rfl rfl (by decide +kernel) ⟨Nat.le_of_ble_eq_true rfl, Nat.le_of_ble_eq_true rfl⟩) (z_pV hI hK hN (z_recv hK hI (zor hG hb0) rfl)) rfl rfl hl.1 rfl (lv_room (Nat.le_of_ble_eq_true rfl)) dX5_takeNot_10 ⟨Nat.zero_le _, Nat.zero_le _⟩) hI (fun r_10 u H locs hw hI => ?_)
    obtain ⟨rfl, rfl⟩ := hw
    have hin_10 : zIn L (zpt (-1) (zPa (zby x b L) 0 p1 cs).2.1 (zPa (zby x b L) 0 p1 cs).2.2) := zpt_in hin_2.1 hin_2.2
    refine lv_if_eq (tgt := 20) hx hb dX5_takeNot_13 (by decide) (fun c_13 => ?_) (fun c_13 => ?_)
    · skip
      rw [zb_0] at c_13
      refine lv_iconst (v := (nI 0)) hx hb dX5_takeNot_20 rfl ?_
      exact z_zret hx hb hr hlocks hI (Or.inl rfl) ((by rw [show zNt (zPa (zby x b L) 0) p1 cs = _ from if_pos c_5]; exact ⟨rfl, if_neg c_13⟩)) dX5_takeNot_21
    · skip
      rw [zb_0, Classical.not_not] at c_13
      refine lv_iconst (v := (nI 1)) hx hb dX5_takeNot_16 rfl ?_
      refine lv_goto (tgt := 21) hx hb dX5_takeNot_17 (by decide) ?_
      exact z_zret hx hb hr hlocks hI (Or.inr rfl) ((by rw [show zNt (zPa (zby x b L) 0) p1 cs = _ from if_pos c_5]; exact ⟨rfl, if_pos c_13⟩)) dX5_takeNot_21
set_option maxHeartbeats 1000000 in
set_option maxRecDepth 100000 in
theorem c_X5_takePart1 (l : Launch) {G : zG} (hG : zOK G) (aK aV : Nat → Nat) (x : zX) (b L p1 : Nat) (cs : List Int32) (hb0 : zRm b) (hL : x.1 b 8 = nI L) (hL9 : L ≤ 100) (htx : zTx x b) (hpL : p1 ≤ L) (hcs : cs.length ≤ 100) : zMiS l yX5_takePart wsX5_takePart { frames := 8, cells := 0, slots := 0, locals := 199 } G aK aV [.ref (za G b), .int (nI 3)] (zpz x b p1 cs) (fun (r : Int32) (u : zX) => zr3 x b (zPa (zby x b L) 1 p1 cs) r u) := by
  intro A
  refine zBodyS (cc := cX5_takePart) (maxL := 5) (ret := (some .boolean)) (by decide) rfl (Nat.le_of_ble_eq_true rfl) ?_
  intro p e s m below meth c hx hb hml hown hts hr hlocks hK hN hSS hI ls hl
  have hown : s.vm.findClass RX5 = some m.cls := hown
  have hl : lv_has ls 5 [(0, .ref (za G b)), (1, .int (nI 3))] := hl
  refine lv_iload_n hx hb dX5_takePart_0 rfl (lv_at hl 1 rfl) ?_
  refine lv_iconst (v := (nI 4)) hx hb dX5_takePart_1 rfl ?_
  refine lv_icmp_ge (tgt := 22) hx hb dX5_takePart_2 (by decide) (fun c_2 => absurd c_2 (by decide)) (fun c_2 => ?_)
  refine lv_aload_n hx hb dX5_takePart_5 rfl (lv_at hl 0 rfl) ?_
  refine lv_bipush (v := (nI 33)) hx hb dX5_takePart_6 rfl ?_
  refine z_calli (va_runV (As := [.int (nI 33)]) (rest := []) ⟨hx, hb, hml, hown, hts⟩ ((c_X5_takesZ l hG x b L p1 cs (nI 33) hb0 hL hL9 hpL) A) (cwV 1 hts gX5_takePart_X5_takes rfl rfl rfl (by decide +kernel) ⟨Nat.le_of_ble_eq_true rfl, Nat.le_of_ble_eq_true rfl⟩) (z_pV hI hK hN (z_recv hK hI (zor hG hb0) rfl)) rfl rfl hl.1 rfl (lv_room (Nat.le_of_ble_eq_true rfl)) dX5_takePart_8 ⟨Nat.zero_le _, Nat.zero_le _⟩) hI (fun r_8 u H locs hw hI => ?_)
  obtain ⟨rfl, rfl⟩ := hw
  have hin_8 : zIn L (ztke (zby x b L) (nI 33) p1 cs) := ztke_in zby_e (by decide) hpL hcs
  refine lv_if_eq (tgt := 22) hx hb dX5_takePart_11 (by decide) (fun c_11 => ?_) (fun c_11 => ?_)
  · skip
    rw [zb_0] at c_11
    have hI : zI G (zpz x b p1 cs) A s.heap H locs := by rw [ztke_f c_11] at hI; exact hI
    refine lv_iload_n hx hb dX5_takePart_22 rfl (lv_at hl 1 rfl) ?_
    refine lv_iconst (v := (nI 4)) hx hb dX5_takePart_23 rfl ?_
    refine lv_icmp_ge (tgt := 61) hx hb dX5_takePart_24 (by decide) (fun c_24 => absurd c_24 (by decide)) (fun c_24 => ?_)
    refine lv_aload_n hx hb dX5_takePart_27 rfl (lv_at hl 0 rfl) ?_
    refine lv_bipush (v := (nI 40)) hx hb dX5_takePart_28 rfl ?_
    refine z_calli (va_runV (As := [.int (nI 40)]) (rest := []) ⟨hx, hb, hml, hown, hts⟩ ((c_X5_takesZ l hG x b L p1 cs (nI 40) hb0 hL hL9 hpL) A) (cwV 1 hts gX5_takePart_X5_takes rfl rfl rfl (by decide +kernel) ⟨Nat.le_of_ble_eq_true rfl, Nat.le_of_ble_eq_true rfl⟩) (z_pV hI hK hN (z_recv hK hI (zor hG hb0) rfl)) rfl rfl hl.1 rfl (lv_room (Nat.le_of_ble_eq_true rfl)) dX5_takePart_30 ⟨Nat.zero_le _, Nat.zero_le _⟩) hI (fun r_30 u H locs hw hI => ?_)
    obtain ⟨rfl, rfl⟩ := hw
    have hin_30 : zIn L (ztke (zby x b L) (nI 40) p1 cs) := ztke_in zby_e (by decide) hpL hcs
    refine lv_if_eq (tgt := 61) hx hb dX5_takePart_33 (by decide) (fun c_33 => ?_) (fun c_33 => ?_)
    · skip
      rw [zb_0] at c_33
      have hI : zI G (zpz x b p1 cs) A s.heap H locs := by rw [ztke_f c_33] at hI; exact hI
      refine lv_aload_n hx hb dX5_takePart_61 rfl (lv_at hl 0 rfl) ?_
      refine va_ldcS hx hb hown (hSS.1 4 (131, "abkjtwr") rfl) dX5_takePart_62 ?_
      refine z_calli (va_runV (As := [.ref (aK 4)]) (rest := []) ⟨hx, hb, hml, hown, hts⟩ ((c_X5_takeOneOfZ l hG aK aV x b L p1 4 cs hb0 hL hL9 htx (by decide) hpL) A) (cwV 1 hts gX5_takePart_X5_takeOneOf rfl rfl rfl (by decide +kernel) ⟨Nat.le_of_ble_eq_true rfl, Nat.le_of_ble_eq_true rfl⟩) (z_pVS hI hK hN hSS (z_recv hK hI (zor hG hb0) rfl)) rfl rfl hl.1 rfl (lv_room (Nat.le_of_ble_eq_true rfl)) dX5_takePart_64 ⟨Nat.zero_le _, Nat.zero_le _⟩) hI (fun r_64 u H locs hw hI => ?_)
      obtain ⟨rfl, rfl⟩ := hw
      refine lv_istore_n (lv' := [(2, .int (zone 4 ((zby x b L) p1))), (0, .ref (za G b)), (1, .int (nI 3))]) hx hb dX5_takePart_67 rfl hl (by decide) rfl (fun ls hl => ?_)
      refine lv_iload_n hx hb dX5_takePart_68 rfl (lv_at hl 0 rfl) ?_
      refine lv_if_ge (tgt := 76) hx hb dX5_takePart_69 (by decide) (fun c_69 => ?_) (fun c_69 => ?_)
      · skip
        have hI : zI G (zpz x b (p1 + 1) cs) A s.heap H locs := by rw [if_neg (Int32.not_lt.mpr c_69)] at hI; exact hI
        have hp6 : p1 + 1 ≤ L := zone_n zby_e (Int32.not_lt.mpr c_69)
        refine lv_aload_n hx hb dX5_takePart_76 rfl (lv_at hl 1 rfl) ?_
        refine va_ldcS hx hb hown (hSS.1 5 (137, "<=>") rfl) dX5_takePart_77 ?_
        refine z_calli (va_runV (As := [.ref (aK 5)]) (rest := []) ⟨hx, hb, hml, hown, hts⟩ ((c_X5_takeOneOfZ l hG aK aV x b L (p1 + 1) 5 cs hb0 hL hL9 htx (by decide) hp6) A) (cwV 1 hts gX5_takePart_X5_takeOneOf rfl rfl rfl (by decide +kernel) ⟨Nat.le_of_ble_eq_true rfl, Nat.le_of_ble_eq_true rfl⟩) (z_pVS hI hK hN hSS (z_recv hK hI (zor hG hb0) rfl)) rfl rfl hl.1 rfl (lv_room (Nat.le_of_ble_eq_true rfl)) dX5_takePart_79 ⟨Nat.zero_le _, Nat.zero_le _⟩) hI (fun r_79 u H locs hw hI => ?_)
        obtain ⟨rfl, rfl⟩ := hw
        refine lv_istore_n (lv' := [(3, .int (zone 5 ((zby x b L) (p1 + 1)))), (2, .int (zone 4 ((zby x b L) p1))), (0, .ref (za G b)), (1, .int (nI 3))]) hx hb dX5_takePart_82 rfl hl (by decide) rfl (fun ls hl => ?_)
        refine lv_iload_n hx hb dX5_takePart_83 rfl (lv_at hl 0 rfl) ?_
        refine lv_if_ge (tgt := 91) hx hb dX5_takePart_84 (by decide) (fun c_84 => ?_) (fun c_84 => ?_)
        · skip
          have hI : zI G (zpz x b (p1 + 2) cs) A s.heap H locs := by rw [if_neg (Int32.not_lt.mpr c_84)] at hI; exact hI
          have hp8 : p1 + 2 ≤ L := zone_n zby_e (Int32.not_lt.mpr c_84)
          refine lv_aload_n hx hb dX5_takePart_91 rfl (lv_at hl 2 rfl) ?_
          refine z_calli (va_runV (As := []) (rest := []) ⟨hx, hb, hml, hown, hts⟩ ((c_X5_takeNumberZ l hG x b L (p1 + 2) cs hb0 hL hL9 hp8) A) (cwV 0 hts gX5_takePart_X5_takeNumber rfl rfl rfl (by decide +kernel) ⟨Nat.le_of_ble_eq_true rfl, Nat.le_of_ble_eq_true rfl⟩) (z_pV hI hK hN (z_recv hK hI (zor hG hb0) rfl)) rfl rfl hl.1 rfl (lv_room (Nat.le_of_ble_eq_true rfl)) dX5_takePart_92 ⟨Nat.zero_le _, Nat.zero_le _⟩) hI (fun r_92 u H locs hw hI => ?_)
          obtain ⟨rfl, rfl⟩ := hw
          have hin_92 : zIn L (true, (znum (zby x b L) (p1 + 2)).2, cs) := ⟨znum_in zby_e hp8, hcs⟩
          refine lv_istore (lv' := [(4, .int ((znum (zby x b L) (p1 + 2)).1)), (3, .int (zone 5 ((zby x b L) (p1 + 1)))), (2, .int (zone 4 ((zby x b L) p1))), (0, .ref (za G b)), (1, .int (nI 3))]) hx hb dX5_takePart_95 hl (by decide) rfl (fun ls hl => ?_)
          refine lv_iload hx hb dX5_takePart_97 (lv_at hl 0 rfl) ?_
          refine lv_if_lt (tgt := 124) hx hb dX5_takePart_99 (by decide) (fun c_99 => ?_) (fun c_99 => ?_)
          · skip
            have hI : zI G (zpz x b (p1 + 2) cs) A s.heap H locs := by rw [znum_n c_99] at hI; exact hI
            refine lv_iconst (v := (nI 0)) hx hb dX5_takePart_124 rfl ?_
            exact z_zret hx hb hr hlocks hI (Or.inl rfl) ((by rw [show zPa (zby x b L) 1 p1 cs = _ from (if_neg c_11).trans ((if_neg c_33).trans ((if_neg (Int32.not_lt.mpr c_69)).trans ((if_neg (Int32.not_lt.mpr c_84)).trans (if_pos c_99))))]; exact ⟨rfl, rfl⟩)) dX5_takePart_125
          · skip
            refine lv_aload_n hx hb dX5_takePart_102 rfl (lv_at hl 3 rfl) ?_
            refine lv_iload_n hx hb dX5_takePart_103 rfl (lv_at hl 2 rfl) ?_
            refine lv_iconst (v := (nI 3)) hx hb dX5_takePart_104 rfl ?_
            refine z_imul (v := (zone 4 ((zby x b L) p1) * nI 3)) hx hb rfl dX5_takePart_105 ?_
            refine lv_iload_n hx hb dX5_takePart_106 rfl (lv_at hl 1 rfl) ?_
            refine lv_iadd hx hb dX5_takePart_107 ?_
            refine lv_bipush (v := (nI 100)) hx hb dX5_takePart_108 rfl ?_
            refine lv_imul hx hb dX5_takePart_110 ?_
            refine lv_iload hx hb dX5_takePart_111 (lv_at hl 0 rfl) ?_
            refine lv_iadd hx hb dX5_takePart_113 ?_
            refine z_calli (va_runV (As := [.int ((((zone 4 ((zby x b L) p1) * nI 3) + (zone 5 ((zby x b L) (p1 + 1)))) * (nI 100)) + ((znum (zby x b L) (p1 + 2)).1))]) (rest := []) ⟨hx, hb, hml, hown, hts⟩ ((c_X5_putsZ l hG x b L (znum (zby x b L) (p1 + 2)).2 cs ((((zone 4 ((zby x b L) p1) * nI 3) + (zone 5 ((zby x b L) (p1 + 1)))) * (nI 100)) + ((znum (zby x b L) (p1 + 2)).1)) hb0 hin_92.2) A) (cwV 1 hts gX5_takePart_X5_puts rfl rfl rfl (by decide +kernel) ⟨Nat.le_of_ble_eq_true rfl, Nat.le_of_ble_eq_true rfl⟩) (z_pV hI hK hN (z_recv hK hI (zor hG hb0) rfl)) rfl rfl hl.1 rfl (lv_room (Nat.le_of_ble_eq_true rfl)) dX5_takePart_114 ⟨Nat.zero_le _, Nat.zero_le _⟩) hI (fun r_114 u H locs hw hI => ?_)
            obtain ⟨rfl, rfl⟩ := hw
            have hin_114 : zIn L (zpt ((((zone 4 ((zby x b L) p1) * nI 3) + (zone 5 ((zby x b L) (p1 + 1)))) * (nI 100)) + ((znum (zby x b L) (p1 + 2)).1)) (znum (zby x b L) (p1 + 2)).2 cs) := zpt_in hin_92.1 hin_92.2
            refine lv_if_eq (tgt := 124) hx hb dX5_takePart_117 (by decide) (fun c_117 => ?_) (fun c_117 => ?_)
            · skip
              rw [zb_0] at c_117
              refine lv_iconst (v := (nI 0)) hx hb dX5_takePart_124 rfl ?_
              exact z_zret hx hb hr hlocks hI (Or.inl rfl) ((by rw [show zPa (zby x b L) 1 p1 cs = _ from (if_neg c_11).trans ((if_neg c_33).trans ((if_neg (Int32.not_lt.mpr c_69)).trans ((if_neg (Int32.not_lt.mpr c_84)).trans (if_neg c_99))))]; exact ⟨rfl, if_neg c_117⟩)) dX5_takePart_125
            · skip
              rw [zb_0, Classical.not_not] at c_117
              refine lv_iconst (v := (nI 1)) hx hb dX5_takePart_120 rfl ?_
              refine lv_goto (tgt := 125) hx hb dX5_takePart_121 (by decide) ?_
              exact z_zret hx hb hr hlocks hI (Or.inr rfl) ((by rw [show zPa (zby x b L) 1 p1 cs = _ from (if_neg c_11).trans ((if_neg c_33).trans ((if_neg (Int32.not_lt.mpr c_69)).trans ((if_neg (Int32.not_lt.mpr c_84)).trans (if_neg c_99))))]; exact ⟨rfl, if_pos c_117⟩)) dX5_takePart_125
        · skip
          have hI : zI G (zpz x b (p1 + 1) cs) A s.heap H locs := by rw [if_pos (Int32.not_le.mp c_84)] at hI; exact hI
          refine lv_iconst (v := (-1)) hx hb dX5_takePart_87 rfl ?_
          refine lv_goto (tgt := 95) hx hb dX5_takePart_88 (by decide) ?_
          refine lv_istore (lv' := [(4, .int (-1)), (3, .int (zone 5 ((zby x b L) (p1 + 1)))), (2, .int (zone 4 ((zby x b L) p1))), (0, .ref (za G b)), (1, .int (nI 3))]) hx hb dX5_takePart_95 hl (by decide) rfl (fun ls hl => ?_)
          refine lv_iload hx hb dX5_takePart_97 (lv_at hl 0 rfl) ?_
          refine lv_if_lt (tgt := 124) hx hb dX5_takePart_99 (by decide) (fun c_99 => ?_) (fun c_99 => ?_)
          · skip
            refine lv_iconst (v := (nI 0)) hx hb dX5_takePart_124 rfl ?_
            exact z_zret hx hb hr hlocks hI (Or.inl rfl) ((by rw [show zPa (zby x b L) 1 p1 cs = _ from (if_neg c_11).trans ((if_neg c_33).trans ((if_neg (Int32.not_lt.mpr c_69)).trans (if_pos (Int32.not_le.mp c_84))))]; exact ⟨rfl, rfl⟩)) dX5_takePart_125
          · skip
            exact absurd (by decide) c_99
      · skip
        have hI : zI G (zpz x b p1 cs) A s.heap H locs := by rw [if_pos (Int32.not_le.mp c_69)] at hI; exact hI
        refine lv_iconst (v := (-1)) hx hb dX5_takePart_72 rfl ?_
        refine lv_goto (tgt := 82) hx hb dX5_takePart_73 (by decide) ?_
        refine lv_istore_n (lv' := [(3, .int (-1)), (2, .int (zone 4 ((zby x b L) p1))), (0, .ref (za G b)), (1, .int (nI 3))]) hx hb dX5_takePart_82 rfl hl (by decide) rfl (fun ls hl => ?_)
        refine lv_iload_n hx hb dX5_takePart_83 rfl (lv_at hl 0 rfl) ?_
        refine lv_if_ge (tgt := 91) hx hb dX5_takePart_84 (by decide) (fun c_84 => ?_) (fun c_84 => ?_)
        · skip
          exact absurd c_84 (by decide)
        · skip
          refine lv_iconst (v := (-1)) hx hb dX5_takePart_87 rfl ?_
          refine lv_goto (tgt := 95) hx hb dX5_takePart_88 (by decide) ?_
          refine lv_istore (lv' := [(4, .int (-1)), (3, .int (-1)), (2, .int (zone 4 ((zby x b L) p1))), (0, .ref (za G b)), (1, .int (nI 3))]) hx hb dX5_takePart_95 hl (by decide) rfl (fun ls hl => ?_)
          refine lv_iload hx hb dX5_takePart_97 (lv_at hl 0 rfl) ?_
          refine lv_if_lt (tgt := 124) hx hb dX5_takePart_99 (by decide) (fun c_99 => ?_) (fun c_99 => ?_)
          · skip
            refine lv_iconst (v := (nI 0)) hx hb dX5_takePart_124 rfl ?_
            exact z_zret hx hb hr hlocks hI (Or.inl rfl) ((by rw [show zPa (zby x b L) 1 p1 cs = _ from (if_neg c_11).trans ((if_neg c_33).trans (if_pos (Int32.not_le.mp c_69)))]; exact ⟨rfl, rfl⟩)) dX5_takePart_125
          · skip
            exact absurd (by decide) c_99
    · skip
      rw [zb_0, Classical.not_not] at c_33
      refine lv_aload_n hx hb dX5_takePart_36 rfl (lv_at hl 0 rfl) ?_
      refine lv_iload_n hx hb dX5_takePart_37 rfl (lv_at hl 1 rfl) ?_
      refine lv_iconst (v := (nI 1)) hx hb dX5_takePart_38 rfl ?_
      refine z_iadd (v := (nI 4)) hx hb (nI_add 3 1) dX5_takePart_39 ?_
      refine z_calli (va_runV (As := [.int (nI 4)]) (rest := []) ⟨hx, hb, hml, hown, hts⟩ ((c_X5_takeEither0 l hG aK aV x b L (ztke (zby x b L) (nI 40) p1 cs).2.1 (ztke (zby x b L) (nI 40) p1 cs).2.2 hb0 hL hL9 htx hin_30.1 hin_30.2) A) (cwV 1 hts gX5_takePart_X5_takeEither rfl rfl rfl (by decide +kernel) ⟨Nat.le_of_ble_eq_true rfl, Nat.le_of_ble_eq_true rfl⟩) (z_pVS hI hK hN hSS (z_recv hK hI (zor hG hb0) rfl)) rfl rfl hl.1 rfl (lv_room (Nat.le_of_ble_eq_true rfl)) dX5_takePart_40 ⟨Nat.zero_le _, Nat.zero_le _⟩) hI (fun r_40 u H locs hw hI => ?_)
      obtain ⟨rfl, rfl⟩ := hw
      have hin_40 : zIn L (zEi (zPa (zby x b L) 0) (zby x b L) (ztke (zby x b L) (nI 40) p1 cs).2.1 (ztke (zby x b L) (nI 40) p1 cs).2.2) := zEi_in zby_e (fun p cs => zPa_in zby_e 0 p cs) _ _ hin_30.1 hin_30.2
      refine lv_if_eq (tgt := 59) hx hb dX5_takePart_43 (by decide) (fun c_43 => ?_) (fun c_43 => ?_)
      · skip
        rw [zb_0] at c_43
        refine lv_iconst (v := (nI 0)) hx hb dX5_takePart_59 rfl ?_
        exact z_zret hx hb hr hlocks hI (Or.inl rfl) ((by rw [show zPa (zby x b L) 1 p1 cs = _ from (if_neg c_11).trans ((if_pos c_33).trans (if_neg c_43))]; exact ⟨rfl, if_neg c_43⟩)) dX5_takePart_60
      · skip
        rw [zb_0, Classical.not_not] at c_43
        refine lv_aload_n hx hb dX5_takePart_46 rfl (lv_at hl 0 rfl) ?_
        refine lv_bipush (v := (nI 41)) hx hb dX5_takePart_47 rfl ?_
        refine z_calli (va_runV (As := [.int (nI 41)]) (rest := []) ⟨hx, hb, hml, hown, hts⟩ ((c_X5_takesZ l hG x b L (zEi (zPa (zby x b L) 0) (zby x b L) (ztke (zby x b L) (nI 40) p1 cs).2.1 (ztke (zby x b L) (nI 40) p1 cs).2.2).2.1 (zEi (zPa (zby x b L) 0) (zby x b L) (ztke (zby x b L) (nI 40) p1 cs).2.1 (ztke (zby x b L) (nI 40) p1 cs).2.2).2.2 (nI 41) hb0 hL hL9 hin_40.1) A) (cwV 1 hts gX5_takePart_X5_takes rfl rfl rfl (by decide +kernel) ⟨Nat.le_of_ble_eq_true rfl, Nat.le_of_ble_eq_true rfl⟩) (z_pV hI hK hN (z_recv hK hI (zor hG hb0) rfl)) rfl rfl hl.1 rfl (lv_room (Nat.le_of_ble_eq_true rfl)) dX5_takePart_49 ⟨Nat.zero_le _, Nat.zero_le _⟩) hI (fun r_49 u H locs hw hI => ?_)
        obtain ⟨rfl, rfl⟩ := hw
        have hin_49 : zIn L (ztke (zby x b L) (nI 41) (zEi (zPa (zby x b L) 0) (zby x b L) (ztke (zby x b L) (nI 40) p1 cs).2.1 (ztke (zby x b L) (nI 40) p1 cs).2.2).2.1 (zEi (zPa (zby x b L) 0) (zby x b L) (ztke (zby x b L) (nI 40) p1 cs).2.1 (ztke (zby x b L) (nI 40) p1 cs).2.2).2.2) := ztke_in zby_e (by decide) hin_40.1 hin_40.2
        refine lv_if_eq (tgt := 59) hx hb dX5_takePart_52 (by decide) (fun c_52 => ?_) (fun c_52 => ?_)
        · skip
          rw [zb_0] at c_52
          refine lv_iconst (v := (nI 0)) hx hb dX5_takePart_59 rfl ?_
          exact z_zret hx hb hr hlocks hI (Or.inl rfl) ((by rw [show zPa (zby x b L) 1 p1 cs = _ from (if_neg c_11).trans ((if_pos c_33).trans (if_pos c_43))]; exact ⟨rfl, if_neg c_52⟩)) dX5_takePart_60
        · skip
          rw [zb_0, Classical.not_not] at c_52
          refine lv_iconst (v := (nI 1)) hx hb dX5_takePart_55 rfl ?_
          refine lv_goto (tgt := 60) hx hb dX5_takePart_56 (by decide) ?_
          exact z_zret hx hb hr hlocks hI (Or.inr rfl) ((by rw [show zPa (zby x b L) 1 p1 cs = _ from (if_neg c_11).trans ((if_pos c_33).trans (if_pos c_43))]; exact ⟨rfl, if_pos c_52⟩)) dX5_takePart_60
  · skip
    rw [zb_0, Classical.not_not] at c_11
    refine lv_aload_n hx hb dX5_takePart_14 rfl (lv_at hl 0 rfl) ?_
    refine lv_iload_n hx hb dX5_takePart_15 rfl (lv_at hl 1 rfl) ?_
    refine lv_iconst (v := (nI 1)) hx hb dX5_takePart_16 rfl ?_
    refine z_iadd (v := (nI 4)) hx hb (nI_add 3 1) dX5_takePart_17 ?_
    refine z_calli (va_runV (As := [.int (nI 4)]) (rest := []) ⟨hx, hb, hml, hown, hts⟩ ((c_X5_takeNot0 l hG aK aV x b L (ztke (zby x b L) (nI 33) p1 cs).2.1 (ztke (zby x b L) (nI 33) p1 cs).2.2 hb0 hL hL9 htx hin_8.1 hin_8.2) A) (cwV 1 hts gX5_takePart_X5_takeNot rfl rfl rfl (by decide +kernel) ⟨Nat.le_of_ble_eq_true rfl, Nat.le_of_ble_eq_true rfl⟩) (z_pVS hI hK hN hSS (z_recv hK hI (zor hG hb0) rfl)) rfl rfl hl.1 rfl (lv_room (Nat.le_of_ble_eq_true rfl)) dX5_takePart_18 ⟨Nat.zero_le _, Nat.zero_le _⟩) hI (fun r_18 u H locs hw hI => ?_)
    obtain ⟨rfl, rfl⟩ := hw
    have hin_18 : zIn L (zNt (zPa (zby x b L) 0) (ztke (zby x b L) (nI 33) p1 cs).2.1 (ztke (zby x b L) (nI 33) p1 cs).2.2) := zNt_in (fun p cs => zPa_in zby_e 0 p cs) _ _ hin_8.1 hin_8.2
    exact z_zret hx hb hr hlocks hI (zb01 _) ((by rw [show zPa (zby x b L) 1 p1 cs = _ from if_pos (Classical.not_not.mp (fun h9 => h9 c_11))]; exact ⟨rfl, rfl⟩)) dX5_takePart_21
set_option maxHeartbeats 1000000 in
set_option maxRecDepth 100000 in
theorem c_X5_takeEach1 (l : Launch) {G : zG} (hG : zOK G) (aK aV : Nat → Nat) (x : zX) (b L p1 : Nat) (cs : List Int32) (hb0 : zRm b) (hL : x.1 b 8 = nI L) (hL9 : L ≤ 100) (htx : zTx x b) (hpL : p1 ≤ L) (hcs : cs.length ≤ 100) : zMiS l yX5_takeEach wsX5_takeEach { frames := 9, cells := 0, slots := 0, locals := 223 } G aK aV [.ref (za G b), .int (nI 3)] (zpz x b p1 cs) (fun (r : Int32) (u : zX) => zr3 x b (zEa (zPa (zby x b L) 1) (zby x b L) p1 cs) r u) := by
  intro A
  refine zBodyS (cc := cX5_takeEach) (maxL := 4) (ret := (some .boolean)) (by decide) rfl (Nat.le_of_ble_eq_true rfl) ?_
  intro p e s m below meth c hx hb hml hown hts hr hlocks hK hN hSS hI ls hl
  have hown : s.vm.findClass RX5 = some m.cls := hown
  have hl : lv_has ls 4 [(0, .ref (za G b)), (1, .int (nI 3))] := hl
  refine lv_aload_n hx hb dX5_takeEach_0 rfl (lv_at hl 0 rfl) ?_
  refine lv_iload_n hx hb dX5_takeEach_1 rfl (lv_at hl 1 rfl) ?_
  refine z_calli (va_runV (As := [.int (nI 3)]) (rest := []) ⟨hx, hb, hml, hown, hts⟩ ((c_X5_takePart1 l hG aK aV x b L p1 cs hb0 hL hL9 htx hpL hcs) A) (cwV 1 hts gX5_takeEach_X5_takePart rfl rfl rfl (by decide +kernel) ⟨Nat.le_of_ble_eq_true rfl, Nat.le_of_ble_eq_true rfl⟩) (z_pVS hI hK hN hSS (z_recv hK hI (zor hG hb0) rfl)) rfl rfl hl.1 rfl (lv_room (Nat.le_of_ble_eq_true rfl)) dX5_takeEach_2 ⟨Nat.zero_le _, Nat.zero_le _⟩) hI (fun r_2 u H locs hw hI => ?_)
  obtain ⟨rfl, rfl⟩ := hw
  have hin_2 : zIn L (zPa (zby x b L) 1 p1 cs) := zPa_in zby_e 1 _ _ hpL hcs
  refine lv_istore_n (lv' := [(2, .int (if (zPa (zby x b L) 1 p1 cs).1 = true then nI 1 else nI 0)), (0, .ref (za G b)), (1, .int (nI 3))]) hx hb dX5_takeEach_5 rfl hl (by decide) rfl (fun ls hl => ?_)
  refine lv_iconst (v := (nI 0)) hx hb dX5_takeEach_6 rfl ?_
  refine lv_istore_n (lv' := [(3, .int (nI 0)), (2, .int (if (zPa (zby x b L) 1 p1 cs).1 = true then nI 1 else nI 0)), (0, .ref (za G b)), (1, .int (nI 3))]) hx hb dX5_takeEach_7 rfl hl (by decide) rfl (fun ls hl => ?_)
  have L8 : ∀ (f : Nat) (i : Nat) (r : zPR), (i ≤ 100) → (zLp (zPa (zby x b L) 1) (zby x b L) (nI 38) (-2) (100 - i) r = zEa (zPa (zby x b L) 1) (zby x b L) p1 cs) → (zIn L r) → 101 ≤ i + f → ∀ (H : Heap) (locs : List Loc), zI G (zpz x b r.2.1 r.2.2) A s.heap H locs → ∀ ls : Array Slot, lv_has ls 4 [(0, .ref (za G b)), (1, .int (nI 3)), (2, .int (if r.1 = true then nI 1 else nI 0)), (3, .int (nI i))] → W p l e { frames := 9, cells := 0, slots := 0, locals := 223 } s m ([.ref (za G b), .int (nI 3)] : List Value).toArray below meth c H locs 0 0 (MQ below (va_Qi (fun (r : Int32) (u : zX) => zr3 x b (zEa (zPa (zby x b L) 1) (zby x b L) p1 cs) r u) (fun u t => zJ G u A t.heap) A) ([.ref (za G b), .int (nI 3)] : List Value).toArray s 0 0 A) (F0 m 8 ls []) := by
    intro f
    induction f with
    | zero =>
      intro i r h1 h2 h3 hf
      exact absurd hf (by omega)
    | succ f ih =>
      intro i r h1 h2 h3 hf H locs hI ls hl
      have ih8 := ih
      refine lv_iload_n hx hb dX5_takeEach_8 rfl (lv_at hl 3 rfl) ?_
      refine lv_bipush (v := (nI 100)) hx hb dX5_takeEach_9 rfl ?_
      refine lv_icmp_ge (tgt := 56) hx hb dX5_takeEach_11 (by decide) (fun c_11 => ?_) (fun c_11 => ?_)
      · skip
        rw [zqG (by omega) (by omega)] at c_11
        have hzx : zLp (zPa (zby x b L) 1) (zby x b L) (nI 38) (-2) (100 - i) r = r := by rw [show 100 - i = 0 by omega]; rfl
        have hfin : zEa (zPa (zby x b L) 1) (zby x b L) p1 cs = r := h2.symm.trans hzx
        refine lv_iload_n hx hb dX5_takeEach_56 rfl (lv_at hl 2 rfl) ?_
        exact z_zret hx hb hr hlocks hI (zb01 _) (by rw [hfin]; exact ⟨rfl, rfl⟩) dX5_takeEach_57
      · skip
        rw [zqG (by omega) (by omega)] at c_11
        refine lv_iload_n hx hb dX5_takeEach_14 rfl (lv_at hl 2 rfl) ?_
        refine lv_if_eq (tgt := 56) hx hb dX5_takeEach_15 (by decide) (fun c_15 => ?_) (fun c_15 => ?_)
        · skip
          rw [zb_0] at c_15
          have hzx : zLp (zPa (zby x b L) 1) (zby x b L) (nI 38) (-2) (100 - i) r = r := zLp_x (fun h9 => c_15 h9.1) _
          have hfin : zEa (zPa (zby x b L) 1) (zby x b L) p1 cs = r := h2.symm.trans hzx
          refine lv_iload_n hx hb dX5_takeEach_56 rfl (lv_at hl 2 rfl) ?_
          exact z_zret hx hb hr hlocks hI (zb01 _) (by rw [hfin]; exact ⟨rfl, rfl⟩) dX5_takeEach_57
        · skip
          rw [zb_0, Classical.not_not] at c_15
          refine lv_aload_n hx hb dX5_takeEach_18 rfl (lv_at hl 0 rfl) ?_
          refine lv_bipush (v := (nI 38)) hx hb dX5_takeEach_19 rfl ?_
          refine z_calli (va_runV (As := [.int (nI 38)]) (rest := []) ⟨hx, hb, hml, hown, hts⟩ ((c_X5_takesZ l hG x b L r.2.1 r.2.2 (nI 38) hb0 hL hL9 h3.1) A) (cwV 1 hts gX5_takeEach_X5_takes rfl rfl rfl (by decide +kernel) ⟨Nat.le_of_ble_eq_true rfl, Nat.le_of_ble_eq_true rfl⟩) (z_pV hI hK hN (z_recv hK hI (zor hG hb0) rfl)) rfl rfl hl.1 rfl (lv_room (Nat.le_of_ble_eq_true rfl)) dX5_takeEach_21 ⟨Nat.zero_le _, Nat.zero_le _⟩) hI (fun r_21 u H locs hw hI => ?_)
          obtain ⟨rfl, rfl⟩ := hw
          have hin_21 : zIn L (ztke (zby x b L) (nI 38) r.2.1 r.2.2) := ztke_in zby_e (by decide) h3.1 h3.2
          refine lv_if_eq (tgt := 56) hx hb dX5_takeEach_24 (by decide) (fun c_24 => ?_) (fun c_24 => ?_)
          · skip
            rw [zb_0] at c_24
            have hI : zI G (zpz x b r.2.1 r.2.2) A s.heap H locs := by rw [ztke_f c_24] at hI; exact hI
            have hzx : zLp (zPa (zby x b L) 1) (zby x b L) (nI 38) (-2) (100 - i) r = r := zLp_x (fun h9 => c_24 h9.2) _
            have hfin : zEa (zPa (zby x b L) 1) (zby x b L) p1 cs = r := h2.symm.trans hzx
            refine lv_iload_n hx hb dX5_takeEach_56 rfl (lv_at hl 2 rfl) ?_
            exact z_zret hx hb hr hlocks hI (zb01 _) (by rw [hfin]; exact ⟨rfl, rfl⟩) dX5_takeEach_57
          · skip
            rw [zb_0, Classical.not_not] at c_24
            refine lv_aload_n hx hb dX5_takeEach_27 rfl (lv_at hl 0 rfl) ?_
            refine lv_iload_n hx hb dX5_takeEach_28 rfl (lv_at hl 1 rfl) ?_
            refine z_calli (va_runV (As := [.int (nI 3)]) (rest := []) ⟨hx, hb, hml, hown, hts⟩ ((c_X5_takePart1 l hG aK aV x b L (ztke (zby x b L) (nI 38) r.2.1 r.2.2).2.1 (ztke (zby x b L) (nI 38) r.2.1 r.2.2).2.2 hb0 hL hL9 htx hin_21.1 hin_21.2) A) (cwV 1 hts gX5_takeEach_X5_takePart rfl rfl rfl (by decide +kernel) ⟨Nat.le_of_ble_eq_true rfl, Nat.le_of_ble_eq_true rfl⟩) (z_pVS hI hK hN hSS (z_recv hK hI (zor hG hb0) rfl)) rfl rfl hl.1 rfl (lv_room (Nat.le_of_ble_eq_true rfl)) dX5_takeEach_29 ⟨Nat.zero_le _, Nat.zero_le _⟩) hI (fun r_29 u H locs hw hI => ?_)
            obtain ⟨rfl, rfl⟩ := hw
            have hin_29 : zIn L (zPa (zby x b L) 1 (ztke (zby x b L) (nI 38) r.2.1 r.2.2).2.1 (ztke (zby x b L) (nI 38) r.2.1 r.2.2).2.2) := zPa_in zby_e 1 _ _ hin_21.1 hin_21.2
            refine lv_if_eq (tgt := 48) hx hb dX5_takeEach_32 (by decide) (fun c_32 => ?_) (fun c_32 => ?_)
            · skip
              rw [zb_0] at c_32
              refine lv_iconst (v := (nI 0)) hx hb dX5_takeEach_48 rfl ?_
              refine lv_istore_n (lv' := [(2, .int (nI 0)), (0, .ref (za G b)), (1, .int (nI 3)), (3, .int (nI i))]) hx hb dX5_takeEach_49 rfl hl (by decide) rfl (fun ls hl => ?_)
              refine lv_iinc (v := (nI (i + 1))) (lv' := [(3, .int (nI (i + 1))), (2, .int (nI 0)), (0, .ref (za G b)), (1, .int (nI 3))]) hx hb dX5_takeEach_50 hl (k := 3) rfl (zinc i) (by decide) rfl (fun ls hl => ?_)
              refine lv_goto (tgt := 8) hx hb dX5_takeEach_53 (by decide) ?_
              exact ih8 (i + 1) (zth (zPa (zby x b L) 1 (ztke (zby x b L) (nI 38) r.2.1 r.2.2).2.1 (ztke (zby x b L) (nI 38) r.2.1 r.2.2).2.2) (zpt (-2))) (by omega) (by rw [← h2, show 100 - i = 100 - (i + 1) + 1 by omega, zLp, if_pos ⟨c_15, c_24⟩]) (zth_in hin_29 (fun h9 => zpt_in h9.1 h9.2)) (by omega) _ _ (by rw [show (zth (zPa (zby x b L) 1 (ztke (zby x b L) (nI 38) r.2.1 r.2.2).2.1 (ztke (zby x b L) (nI 38) r.2.1 r.2.2).2.2) (zpt (-2))) = (zPa (zby x b L) 1 (ztke (zby x b L) (nI 38) r.2.1 r.2.2).2.1 (ztke (zby x b L) (nI 38) r.2.1 r.2.2).2.2) from if_neg c_32]; exact hI) ls (by rw [show (zth (zPa (zby x b L) 1 (ztke (zby x b L) (nI 38) r.2.1 r.2.2).2.1 (ztke (zby x b L) (nI 38) r.2.1 r.2.2).2.2) (zpt (-2))) = (zPa (zby x b L) 1 (ztke (zby x b L) (nI 38) r.2.1 r.2.2).2.1 (ztke (zby x b L) (nI 38) r.2.1 r.2.2).2.2) from if_neg c_32, if_neg c_32]; exact lv_sub hl [2, 3, 1, 0] rfl)
            · skip
              rw [zb_0, Classical.not_not] at c_32
              refine lv_aload_n hx hb dX5_takeEach_35 rfl (lv_at hl 0 rfl) ?_
              refine lv_bipush (v := (-2)) hx hb dX5_takeEach_36 rfl ?_
              refine z_calli (va_runV (As := [.int (-2)]) (rest := []) ⟨hx, hb, hml, hown, hts⟩ ((c_X5_putsZ l hG x b L (zPa (zby x b L) 1 (ztke (zby x b L) (nI 38) r.2.1 r.2.2).2.1 (ztke (zby x b L) (nI 38) r.2.1 r.2.2).2.2).2.1 (zPa (zby x b L) 1 (ztke (zby x b L) (nI 38) r.2.1 r.2.2).2.1 (ztke (zby x b L) (nI 38) r.2.1 r.2.2).2.2).2.2 (-2) hb0 hin_29.2) A) (cwV 1 hts gX5_takeEach_X5_puts rfl rfl rfl (by decide +kernel) ⟨Nat.le_of_ble_eq_true rfl, Nat.le_of_ble_eq_true rfl⟩) (z_pV hI hK hN (z_recv hK hI (zor hG hb0) rfl)) rfl rfl hl.1 rfl (lv_room (Nat.le_of_ble_eq_true rfl)) dX5_takeEach_38 ⟨Nat.zero_le _, Nat.zero_le _⟩) hI (fun r_38 u H locs hw hI => ?_)
              obtain ⟨rfl, rfl⟩ := hw
              have hin_38 : zIn L (zpt (-2) (zPa (zby x b L) 1 (ztke (zby x b L) (nI 38) r.2.1 r.2.2).2.1 (ztke (zby x b L) (nI 38) r.2.1 r.2.2).2.2).2.1 (zPa (zby x b L) 1 (ztke (zby x b L) (nI 38) r.2.1 r.2.2).2.1 (ztke (zby x b L) (nI 38) r.2.1 r.2.2).2.2).2.2) := zpt_in hin_29.1 hin_29.2
              refine lv_if_eq (tgt := 48) hx hb dX5_takeEach_41 (by decide) (fun c_41 => ?_) (fun c_41 => ?_)
              · skip
                rw [zb_0] at c_41
                refine lv_iconst (v := (nI 0)) hx hb dX5_takeEach_48 rfl ?_
                refine lv_istore_n (lv' := [(2, .int (nI 0)), (0, .ref (za G b)), (1, .int (nI 3)), (3, .int (nI i))]) hx hb dX5_takeEach_49 rfl hl (by decide) rfl (fun ls hl => ?_)
                refine lv_iinc (v := (nI (i + 1))) (lv' := [(3, .int (nI (i + 1))), (2, .int (nI 0)), (0, .ref (za G b)), (1, .int (nI 3))]) hx hb dX5_takeEach_50 hl (k := 3) rfl (zinc i) (by decide) rfl (fun ls hl => ?_)
                refine lv_goto (tgt := 8) hx hb dX5_takeEach_53 (by decide) ?_
                exact ih8 (i + 1) (zth (zPa (zby x b L) 1 (ztke (zby x b L) (nI 38) r.2.1 r.2.2).2.1 (ztke (zby x b L) (nI 38) r.2.1 r.2.2).2.2) (zpt (-2))) (by omega) (by rw [← h2, show 100 - i = 100 - (i + 1) + 1 by omega, zLp, if_pos ⟨c_15, c_24⟩]) (zth_in hin_29 (fun h9 => zpt_in h9.1 h9.2)) (by omega) _ _ (by rw [show (zth (zPa (zby x b L) 1 (ztke (zby x b L) (nI 38) r.2.1 r.2.2).2.1 (ztke (zby x b L) (nI 38) r.2.1 r.2.2).2.2) (zpt (-2))) = (zpt (-2) (zPa (zby x b L) 1 (ztke (zby x b L) (nI 38) r.2.1 r.2.2).2.1 (ztke (zby x b L) (nI 38) r.2.1 r.2.2).2.2).2.1 (zPa (zby x b L) 1 (ztke (zby x b L) (nI 38) r.2.1 r.2.2).2.1 (ztke (zby x b L) (nI 38) r.2.1 r.2.2).2.2).2.2) from if_pos c_32]; exact hI) ls (by rw [show (zth (zPa (zby x b L) 1 (ztke (zby x b L) (nI 38) r.2.1 r.2.2).2.1 (ztke (zby x b L) (nI 38) r.2.1 r.2.2).2.2) (zpt (-2))) = (zpt (-2) (zPa (zby x b L) 1 (ztke (zby x b L) (nI 38) r.2.1 r.2.2).2.1 (ztke (zby x b L) (nI 38) r.2.1 r.2.2).2.2).2.1 (zPa (zby x b L) 1 (ztke (zby x b L) (nI 38) r.2.1 r.2.2).2.1 (ztke (zby x b L) (nI 38) r.2.1 r.2.2).2.2).2.2) from if_pos c_32, if_neg c_41]; exact lv_sub hl [2, 3, 1, 0] rfl)
              · skip
                rw [zb_0, Classical.not_not] at c_41
                refine lv_iconst (v := (nI 1)) hx hb dX5_takeEach_44 rfl ?_
                refine lv_goto (tgt := 49) hx hb dX5_takeEach_45 (by decide) ?_
                refine lv_istore_n (lv' := [(2, .int (nI 1)), (0, .ref (za G b)), (1, .int (nI 3)), (3, .int (nI i))]) hx hb dX5_takeEach_49 rfl hl (by decide) rfl (fun ls hl => ?_)
                refine lv_iinc (v := (nI (i + 1))) (lv' := [(3, .int (nI (i + 1))), (2, .int (nI 1)), (0, .ref (za G b)), (1, .int (nI 3))]) hx hb dX5_takeEach_50 hl (k := 3) rfl (zinc i) (by decide) rfl (fun ls hl => ?_)
                refine lv_goto (tgt := 8) hx hb dX5_takeEach_53 (by decide) ?_
                exact ih8 (i + 1) (zth (zPa (zby x b L) 1 (ztke (zby x b L) (nI 38) r.2.1 r.2.2).2.1 (ztke (zby x b L) (nI 38) r.2.1 r.2.2).2.2) (zpt (-2))) (by omega) (by rw [← h2, show 100 - i = 100 - (i + 1) + 1 by omega, zLp, if_pos ⟨c_15, c_24⟩]) (zth_in hin_29 (fun h9 => zpt_in h9.1 h9.2)) (by omega) _ _ (by rw [show (zth (zPa (zby x b L) 1 (ztke (zby x b L) (nI 38) r.2.1 r.2.2).2.1 (ztke (zby x b L) (nI 38) r.2.1 r.2.2).2.2) (zpt (-2))) = (zpt (-2) (zPa (zby x b L) 1 (ztke (zby x b L) (nI 38) r.2.1 r.2.2).2.1 (ztke (zby x b L) (nI 38) r.2.1 r.2.2).2.2).2.1 (zPa (zby x b L) 1 (ztke (zby x b L) (nI 38) r.2.1 r.2.2).2.1 (ztke (zby x b L) (nI 38) r.2.1 r.2.2).2.2).2.2) from if_pos c_32]; exact hI) ls (by rw [show (zth (zPa (zby x b L) 1 (ztke (zby x b L) (nI 38) r.2.1 r.2.2).2.1 (ztke (zby x b L) (nI 38) r.2.1 r.2.2).2.2) (zpt (-2))) = (zpt (-2) (zPa (zby x b L) 1 (ztke (zby x b L) (nI 38) r.2.1 r.2.2).2.1 (ztke (zby x b L) (nI 38) r.2.1 r.2.2).2.2).2.1 (zPa (zby x b L) 1 (ztke (zby x b L) (nI 38) r.2.1 r.2.2).2.1 (ztke (zby x b L) (nI 38) r.2.1 r.2.2).2.2).2.2) from if_pos c_32, if_pos c_41]; exact lv_sub hl [2, 3, 1, 0] rfl)
  exact L8 (101) 0 (zPa (zby x b L) 1 p1 cs) (by omega) rfl hin_2 (by omega) _ _ hI ls (lv_sub hl [2, 3, 1, 0] rfl)
set_option maxHeartbeats 1000000 in
set_option maxRecDepth 100000 in
theorem c_X5_takeEither1 (l : Launch) {G : zG} (hG : zOK G) (aK aV : Nat → Nat) (x : zX) (b L p1 : Nat) (cs : List Int32) (hb0 : zRm b) (hL : x.1 b 8 = nI L) (hL9 : L ≤ 100) (htx : zTx x b) (hpL : p1 ≤ L) (hcs : cs.length ≤ 100) : zMiS l yX5_takeEither wsX5_takeEither { frames := 10, cells := 0, slots := 0, locals := 246 } G aK aV [.ref (za G b), .int (nI 3)] (zpz x b p1 cs) (fun (r : Int32) (u : zX) => zr3 x b (zEi (zPa (zby x b L) 1) (zby x b L) p1 cs) r u) := by
  intro A
  refine zBodyS (cc := cX5_takeEither) (maxL := 4) (ret := (some .boolean)) (by decide) rfl (Nat.le_of_ble_eq_true rfl) ?_
  intro p e s m below meth c hx hb hml hown hts hr hlocks hK hN hSS hI ls hl
  have hown : s.vm.findClass RX5 = some m.cls := hown
  have hl : lv_has ls 4 [(0, .ref (za G b)), (1, .int (nI 3))] := hl
  refine lv_aload_n hx hb dX5_takeEither_0 rfl (lv_at hl 0 rfl) ?_
  refine lv_iload_n hx hb dX5_takeEither_1 rfl (lv_at hl 1 rfl) ?_
  refine z_calli (va_runV (As := [.int (nI 3)]) (rest := []) ⟨hx, hb, hml, hown, hts⟩ ((c_X5_takeEach1 l hG aK aV x b L p1 cs hb0 hL hL9 htx hpL hcs) A) (cwV 1 hts gX5_takeEither_X5_takeEach rfl rfl rfl (by decide +kernel) ⟨Nat.le_of_ble_eq_true rfl, Nat.le_of_ble_eq_true rfl⟩) (z_pVS hI hK hN hSS (z_recv hK hI (zor hG hb0) rfl)) rfl rfl hl.1 rfl (lv_room (Nat.le_of_ble_eq_true rfl)) dX5_takeEither_2 ⟨Nat.zero_le _, Nat.zero_le _⟩) hI (fun r_2 u H locs hw hI => ?_)
  obtain ⟨rfl, rfl⟩ := hw
  have hin_2 : zIn L (zEa (zPa (zby x b L) 1) (zby x b L) p1 cs) := zEa_in zby_e (fun p cs => zPa_in zby_e 1 p cs) _ _ hpL hcs
  refine lv_istore_n (lv' := [(2, .int (if (zEa (zPa (zby x b L) 1) (zby x b L) p1 cs).1 = true then nI 1 else nI 0)), (0, .ref (za G b)), (1, .int (nI 3))]) hx hb dX5_takeEither_5 rfl hl (by decide) rfl (fun ls hl => ?_)
  refine lv_iconst (v := (nI 0)) hx hb dX5_takeEither_6 rfl ?_
  refine lv_istore_n (lv' := [(3, .int (nI 0)), (2, .int (if (zEa (zPa (zby x b L) 1) (zby x b L) p1 cs).1 = true then nI 1 else nI 0)), (0, .ref (za G b)), (1, .int (nI 3))]) hx hb dX5_takeEither_7 rfl hl (by decide) rfl (fun ls hl => ?_)
  have L8 : ∀ (f : Nat) (i : Nat) (r : zPR), (i ≤ 100) → (zLp (zEa (zPa (zby x b L) 1) (zby x b L)) (zby x b L) (nI 124) (-3) (100 - i) r = zEi (zPa (zby x b L) 1) (zby x b L) p1 cs) → (zIn L r) → 101 ≤ i + f → ∀ (H : Heap) (locs : List Loc), zI G (zpz x b r.2.1 r.2.2) A s.heap H locs → ∀ ls : Array Slot, lv_has ls 4 [(0, .ref (za G b)), (1, .int (nI 3)), (2, .int (if r.1 = true then nI 1 else nI 0)), (3, .int (nI i))] → W p l e { frames := 10, cells := 0, slots := 0, locals := 246 } s m ([.ref (za G b), .int (nI 3)] : List Value).toArray below meth c H locs 0 0 (MQ below (va_Qi (fun (r : Int32) (u : zX) => zr3 x b (zEi (zPa (zby x b L) 1) (zby x b L) p1 cs) r u) (fun u t => zJ G u A t.heap) A) ([.ref (za G b), .int (nI 3)] : List Value).toArray s 0 0 A) (F0 m 8 ls []) := by
    intro f
    induction f with
    | zero =>
      intro i r h1 h2 h3 hf
      exact absurd hf (by omega)
    | succ f ih =>
      intro i r h1 h2 h3 hf H locs hI ls hl
      have ih8 := ih
      refine lv_iload_n hx hb dX5_takeEither_8 rfl (lv_at hl 3 rfl) ?_
      refine lv_bipush (v := (nI 100)) hx hb dX5_takeEither_9 rfl ?_
      refine lv_icmp_ge (tgt := 56) hx hb dX5_takeEither_11 (by decide) (fun c_11 => ?_) (fun c_11 => ?_)
      · skip
        rw [zqG (by omega) (by omega)] at c_11
        have hzx : zLp (zEa (zPa (zby x b L) 1) (zby x b L)) (zby x b L) (nI 124) (-3) (100 - i) r = r := by rw [show 100 - i = 0 by omega]; rfl
        have hfin : zEi (zPa (zby x b L) 1) (zby x b L) p1 cs = r := h2.symm.trans hzx
        refine lv_iload_n hx hb dX5_takeEither_56 rfl (lv_at hl 2 rfl) ?_
        exact z_zret hx hb hr hlocks hI (zb01 _) (by rw [hfin]; exact ⟨rfl, rfl⟩) dX5_takeEither_57
      · skip
        rw [zqG (by omega) (by omega)] at c_11
        refine lv_iload_n hx hb dX5_takeEither_14 rfl (lv_at hl 2 rfl) ?_
        refine lv_if_eq (tgt := 56) hx hb dX5_takeEither_15 (by decide) (fun c_15 => ?_) (fun c_15 => ?_)
        · skip
          rw [zb_0] at c_15
          have hzx : zLp (zEa (zPa (zby x b L) 1) (zby x b L)) (zby x b L) (nI 124) (-3) (100 - i) r = r := zLp_x (fun h9 => c_15 h9.1) _
          have hfin : zEi (zPa (zby x b L) 1) (zby x b L) p1 cs = r := h2.symm.trans hzx
          refine lv_iload_n hx hb dX5_takeEither_56 rfl (lv_at hl 2 rfl) ?_
          exact z_zret hx hb hr hlocks hI (zb01 _) (by rw [hfin]; exact ⟨rfl, rfl⟩) dX5_takeEither_57
        · skip
          rw [zb_0, Classical.not_not] at c_15
          refine lv_aload_n hx hb dX5_takeEither_18 rfl (lv_at hl 0 rfl) ?_
          refine lv_bipush (v := (nI 124)) hx hb dX5_takeEither_19 rfl ?_
          refine z_calli (va_runV (As := [.int (nI 124)]) (rest := []) ⟨hx, hb, hml, hown, hts⟩ ((c_X5_takesZ l hG x b L r.2.1 r.2.2 (nI 124) hb0 hL hL9 h3.1) A) (cwV 1 hts gX5_takeEither_X5_takes rfl rfl rfl (by decide +kernel) ⟨Nat.le_of_ble_eq_true rfl, Nat.le_of_ble_eq_true rfl⟩) (z_pV hI hK hN (z_recv hK hI (zor hG hb0) rfl)) rfl rfl hl.1 rfl (lv_room (Nat.le_of_ble_eq_true rfl)) dX5_takeEither_21 ⟨Nat.zero_le _, Nat.zero_le _⟩) hI (fun r_21 u H locs hw hI => ?_)
          obtain ⟨rfl, rfl⟩ := hw
          have hin_21 : zIn L (ztke (zby x b L) (nI 124) r.2.1 r.2.2) := ztke_in zby_e (by decide) h3.1 h3.2
          refine lv_if_eq (tgt := 56) hx hb dX5_takeEither_24 (by decide) (fun c_24 => ?_) (fun c_24 => ?_)
          · skip
            rw [zb_0] at c_24
            have hI : zI G (zpz x b r.2.1 r.2.2) A s.heap H locs := by rw [ztke_f c_24] at hI; exact hI
            have hzx : zLp (zEa (zPa (zby x b L) 1) (zby x b L)) (zby x b L) (nI 124) (-3) (100 - i) r = r := zLp_x (fun h9 => c_24 h9.2) _
            have hfin : zEi (zPa (zby x b L) 1) (zby x b L) p1 cs = r := h2.symm.trans hzx
            refine lv_iload_n hx hb dX5_takeEither_56 rfl (lv_at hl 2 rfl) ?_
            exact z_zret hx hb hr hlocks hI (zb01 _) (by rw [hfin]; exact ⟨rfl, rfl⟩) dX5_takeEither_57
          · skip
            rw [zb_0, Classical.not_not] at c_24
            refine lv_aload_n hx hb dX5_takeEither_27 rfl (lv_at hl 0 rfl) ?_
            refine lv_iload_n hx hb dX5_takeEither_28 rfl (lv_at hl 1 rfl) ?_
            refine z_calli (va_runV (As := [.int (nI 3)]) (rest := []) ⟨hx, hb, hml, hown, hts⟩ ((c_X5_takeEach1 l hG aK aV x b L (ztke (zby x b L) (nI 124) r.2.1 r.2.2).2.1 (ztke (zby x b L) (nI 124) r.2.1 r.2.2).2.2 hb0 hL hL9 htx hin_21.1 hin_21.2) A) (cwV 1 hts gX5_takeEither_X5_takeEach rfl rfl rfl (by decide +kernel) ⟨Nat.le_of_ble_eq_true rfl, Nat.le_of_ble_eq_true rfl⟩) (z_pVS hI hK hN hSS (z_recv hK hI (zor hG hb0) rfl)) rfl rfl hl.1 rfl (lv_room (Nat.le_of_ble_eq_true rfl)) dX5_takeEither_29 ⟨Nat.zero_le _, Nat.zero_le _⟩) hI (fun r_29 u H locs hw hI => ?_)
            obtain ⟨rfl, rfl⟩ := hw
            have hin_29 : zIn L (zEa (zPa (zby x b L) 1) (zby x b L) (ztke (zby x b L) (nI 124) r.2.1 r.2.2).2.1 (ztke (zby x b L) (nI 124) r.2.1 r.2.2).2.2) := zEa_in zby_e (fun p cs => zPa_in zby_e 1 p cs) _ _ hin_21.1 hin_21.2
            refine lv_if_eq (tgt := 48) hx hb dX5_takeEither_32 (by decide) (fun c_32 => ?_) (fun c_32 => ?_)
            · skip
              rw [zb_0] at c_32
              refine lv_iconst (v := (nI 0)) hx hb dX5_takeEither_48 rfl ?_
              refine lv_istore_n (lv' := [(2, .int (nI 0)), (0, .ref (za G b)), (1, .int (nI 3)), (3, .int (nI i))]) hx hb dX5_takeEither_49 rfl hl (by decide) rfl (fun ls hl => ?_)
              refine lv_iinc (v := (nI (i + 1))) (lv' := [(3, .int (nI (i + 1))), (2, .int (nI 0)), (0, .ref (za G b)), (1, .int (nI 3))]) hx hb dX5_takeEither_50 hl (k := 3) rfl (zinc i) (by decide) rfl (fun ls hl => ?_)
              refine lv_goto (tgt := 8) hx hb dX5_takeEither_53 (by decide) ?_
              exact ih8 (i + 1) (zth (zEa (zPa (zby x b L) 1) (zby x b L) (ztke (zby x b L) (nI 124) r.2.1 r.2.2).2.1 (ztke (zby x b L) (nI 124) r.2.1 r.2.2).2.2) (zpt (-3))) (by omega) (by rw [← h2, show 100 - i = 100 - (i + 1) + 1 by omega, zLp, if_pos ⟨c_15, c_24⟩]) (zth_in hin_29 (fun h9 => zpt_in h9.1 h9.2)) (by omega) _ _ (by rw [show (zth (zEa (zPa (zby x b L) 1) (zby x b L) (ztke (zby x b L) (nI 124) r.2.1 r.2.2).2.1 (ztke (zby x b L) (nI 124) r.2.1 r.2.2).2.2) (zpt (-3))) = (zEa (zPa (zby x b L) 1) (zby x b L) (ztke (zby x b L) (nI 124) r.2.1 r.2.2).2.1 (ztke (zby x b L) (nI 124) r.2.1 r.2.2).2.2) from if_neg c_32]; exact hI) ls (by rw [show (zth (zEa (zPa (zby x b L) 1) (zby x b L) (ztke (zby x b L) (nI 124) r.2.1 r.2.2).2.1 (ztke (zby x b L) (nI 124) r.2.1 r.2.2).2.2) (zpt (-3))) = (zEa (zPa (zby x b L) 1) (zby x b L) (ztke (zby x b L) (nI 124) r.2.1 r.2.2).2.1 (ztke (zby x b L) (nI 124) r.2.1 r.2.2).2.2) from if_neg c_32, if_neg c_32]; exact lv_sub hl [2, 3, 1, 0] rfl)
            · skip
              rw [zb_0, Classical.not_not] at c_32
              refine lv_aload_n hx hb dX5_takeEither_35 rfl (lv_at hl 0 rfl) ?_
              refine lv_bipush (v := (-3)) hx hb dX5_takeEither_36 rfl ?_
              refine z_calli (va_runV (As := [.int (-3)]) (rest := []) ⟨hx, hb, hml, hown, hts⟩ ((c_X5_putsZ l hG x b L (zEa (zPa (zby x b L) 1) (zby x b L) (ztke (zby x b L) (nI 124) r.2.1 r.2.2).2.1 (ztke (zby x b L) (nI 124) r.2.1 r.2.2).2.2).2.1 (zEa (zPa (zby x b L) 1) (zby x b L) (ztke (zby x b L) (nI 124) r.2.1 r.2.2).2.1 (ztke (zby x b L) (nI 124) r.2.1 r.2.2).2.2).2.2 (-3) hb0 hin_29.2) A) (cwV 1 hts gX5_takeEither_X5_puts rfl rfl rfl (by decide +kernel) ⟨Nat.le_of_ble_eq_true rfl, Nat.le_of_ble_eq_true rfl⟩) (z_pV hI hK hN (z_recv hK hI (zor hG hb0) rfl)) rfl rfl hl.1 rfl (lv_room (Nat.le_of_ble_eq_true rfl)) dX5_takeEither_38 ⟨Nat.zero_le _, Nat.zero_le _⟩) hI (fun r_38 u H locs hw hI => ?_)
              obtain ⟨rfl, rfl⟩ := hw
              have hin_38 : zIn L (zpt (-3) (zEa (zPa (zby x b L) 1) (zby x b L) (ztke (zby x b L) (nI 124) r.2.1 r.2.2).2.1 (ztke (zby x b L) (nI 124) r.2.1 r.2.2).2.2).2.1 (zEa (zPa (zby x b L) 1) (zby x b L) (ztke (zby x b L) (nI 124) r.2.1 r.2.2).2.1 (ztke (zby x b L) (nI 124) r.2.1 r.2.2).2.2).2.2) := zpt_in hin_29.1 hin_29.2
              refine lv_if_eq (tgt := 48) hx hb dX5_takeEither_41 (by decide) (fun c_41 => ?_) (fun c_41 => ?_)
              · skip
                rw [zb_0] at c_41
                refine lv_iconst (v := (nI 0)) hx hb dX5_takeEither_48 rfl ?_
                refine lv_istore_n (lv' := [(2, .int (nI 0)), (0, .ref (za G b)), (1, .int (nI 3)), (3, .int (nI i))]) hx hb dX5_takeEither_49 rfl hl (by decide) rfl (fun ls hl => ?_)
                refine lv_iinc (v := (nI (i + 1))) (lv' := [(3, .int (nI (i + 1))), (2, .int (nI 0)), (0, .ref (za G b)), (1, .int (nI 3))]) hx hb dX5_takeEither_50 hl (k := 3) rfl (zinc i) (by decide) rfl (fun ls hl => ?_)
                refine lv_goto (tgt := 8) hx hb dX5_takeEither_53 (by decide) ?_
                exact ih8 (i + 1) (zth (zEa (zPa (zby x b L) 1) (zby x b L) (ztke (zby x b L) (nI 124) r.2.1 r.2.2).2.1 (ztke (zby x b L) (nI 124) r.2.1 r.2.2).2.2) (zpt (-3))) (by omega) (by rw [← h2, show 100 - i = 100 - (i + 1) + 1 by omega, zLp, if_pos ⟨c_15, c_24⟩]) (zth_in hin_29 (fun h9 => zpt_in h9.1 h9.2)) (by omega) _ _ (by rw [show (zth (zEa (zPa (zby x b L) 1) (zby x b L) (ztke (zby x b L) (nI 124) r.2.1 r.2.2).2.1 (ztke (zby x b L) (nI 124) r.2.1 r.2.2).2.2) (zpt (-3))) = (zpt (-3) (zEa (zPa (zby x b L) 1) (zby x b L) (ztke (zby x b L) (nI 124) r.2.1 r.2.2).2.1 (ztke (zby x b L) (nI 124) r.2.1 r.2.2).2.2).2.1 (zEa (zPa (zby x b L) 1) (zby x b L) (ztke (zby x b L) (nI 124) r.2.1 r.2.2).2.1 (ztke (zby x b L) (nI 124) r.2.1 r.2.2).2.2).2.2) from if_pos c_32]; exact hI) ls (by rw [show (zth (zEa (zPa (zby x b L) 1) (zby x b L) (ztke (zby x b L) (nI 124) r.2.1 r.2.2).2.1 (ztke (zby x b L) (nI 124) r.2.1 r.2.2).2.2) (zpt (-3))) = (zpt (-3) (zEa (zPa (zby x b L) 1) (zby x b L) (ztke (zby x b L) (nI 124) r.2.1 r.2.2).2.1 (ztke (zby x b L) (nI 124) r.2.1 r.2.2).2.2).2.1 (zEa (zPa (zby x b L) 1) (zby x b L) (ztke (zby x b L) (nI 124) r.2.1 r.2.2).2.1 (ztke (zby x b L) (nI 124) r.2.1 r.2.2).2.2).2.2) from if_pos c_32, if_neg c_41]; exact lv_sub hl [2, 3, 1, 0] rfl)
              · skip
                rw [zb_0, Classical.not_not] at c_41
                refine lv_iconst (v := (nI 1)) hx hb dX5_takeEither_44 rfl ?_
                refine lv_goto (tgt := 49) hx hb dX5_takeEither_45 (by decide) ?_
                refine lv_istore_n (lv' := [(2, .int (nI 1)), (0, .ref (za G b)), (1, .int (nI 3)), (3, .int (nI i))]) hx hb dX5_takeEither_49 rfl hl (by decide) rfl (fun ls hl => ?_)
                refine lv_iinc (v := (nI (i + 1))) (lv' := [(3, .int (nI (i + 1))), (2, .int (nI 1)), (0, .ref (za G b)), (1, .int (nI 3))]) hx hb dX5_takeEither_50 hl (k := 3) rfl (zinc i) (by decide) rfl (fun ls hl => ?_)
                refine lv_goto (tgt := 8) hx hb dX5_takeEither_53 (by decide) ?_
                exact ih8 (i + 1) (zth (zEa (zPa (zby x b L) 1) (zby x b L) (ztke (zby x b L) (nI 124) r.2.1 r.2.2).2.1 (ztke (zby x b L) (nI 124) r.2.1 r.2.2).2.2) (zpt (-3))) (by omega) (by rw [← h2, show 100 - i = 100 - (i + 1) + 1 by omega, zLp, if_pos ⟨c_15, c_24⟩]) (zth_in hin_29 (fun h9 => zpt_in h9.1 h9.2)) (by omega) _ _ (by rw [show (zth (zEa (zPa (zby x b L) 1) (zby x b L) (ztke (zby x b L) (nI 124) r.2.1 r.2.2).2.1 (ztke (zby x b L) (nI 124) r.2.1 r.2.2).2.2) (zpt (-3))) = (zpt (-3) (zEa (zPa (zby x b L) 1) (zby x b L) (ztke (zby x b L) (nI 124) r.2.1 r.2.2).2.1 (ztke (zby x b L) (nI 124) r.2.1 r.2.2).2.2).2.1 (zEa (zPa (zby x b L) 1) (zby x b L) (ztke (zby x b L) (nI 124) r.2.1 r.2.2).2.1 (ztke (zby x b L) (nI 124) r.2.1 r.2.2).2.2).2.2) from if_pos c_32]; exact hI) ls (by rw [show (zth (zEa (zPa (zby x b L) 1) (zby x b L) (ztke (zby x b L) (nI 124) r.2.1 r.2.2).2.1 (ztke (zby x b L) (nI 124) r.2.1 r.2.2).2.2) (zpt (-3))) = (zpt (-3) (zEa (zPa (zby x b L) 1) (zby x b L) (ztke (zby x b L) (nI 124) r.2.1 r.2.2).2.1 (ztke (zby x b L) (nI 124) r.2.1 r.2.2).2.2).2.1 (zEa (zPa (zby x b L) 1) (zby x b L) (ztke (zby x b L) (nI 124) r.2.1 r.2.2).2.1 (ztke (zby x b L) (nI 124) r.2.1 r.2.2).2.2).2.2) from if_pos c_32, if_pos c_41]; exact lv_sub hl [2, 3, 1, 0] rfl)
  exact L8 (101) 0 (zEa (zPa (zby x b L) 1) (zby x b L) p1 cs) (by omega) rfl hin_2 (by omega) _ _ hI ls (lv_sub hl [2, 3, 1, 0] rfl)
set_option maxHeartbeats 1000000 in
set_option maxRecDepth 100000 in
theorem c_X5_takeNot1 (l : Launch) {G : zG} (hG : zOK G) (aK aV : Nat → Nat) (x : zX) (b L p1 : Nat) (cs : List Int32) (hb0 : zRm b) (hL : x.1 b 8 = nI L) (hL9 : L ≤ 100) (htx : zTx x b) (hpL : p1 ≤ L) (hcs : cs.length ≤ 100) : zMiS l yX5_takeNot wsX5_takeNot { frames := 9, cells := 0, slots := 0, locals := 223 } G aK aV [.ref (za G b), .int (nI 3)] (zpz x b p1 cs) (fun (r : Int32) (u : zX) => zr3 x b (zNt (zPa (zby x b L) 1) p1 cs) r u) := by
  intro A
  refine zBodyS (cc := cX5_takeNot) (maxL := 2) (ret := (some .boolean)) (by decide) rfl (Nat.le_of_ble_eq_true rfl) ?_
  intro p e s m below meth c hx hb hml hown hts hr hlocks hK hN hSS hI ls hl
  have hown : s.vm.findClass RX5 = some m.cls := hown
  have hl : lv_has ls 2 [(0, .ref (za G b)), (1, .int (nI 3))] := hl
  refine lv_aload_n hx hb dX5_takeNot_0 rfl (lv_at hl 0 rfl) ?_
  refine lv_iload_n hx hb dX5_takeNot_1 rfl (lv_at hl 1 rfl) ?_
  refine z_calli (va_runV (As := [.int (nI 3)]) (rest := []) ⟨hx, hb, hml, hown, hts⟩ ((c_X5_takePart1 l hG aK aV x b L p1 cs hb0 hL hL9 htx hpL hcs) A) (cwV 1 hts gX5_takeNot_X5_takePart rfl rfl rfl (by decide +kernel) ⟨Nat.le_of_ble_eq_true rfl, Nat.le_of_ble_eq_true rfl⟩) (z_pVS hI hK hN hSS (z_recv hK hI (zor hG hb0) rfl)) rfl rfl hl.1 rfl (lv_room (Nat.le_of_ble_eq_true rfl)) dX5_takeNot_2 ⟨Nat.zero_le _, Nat.zero_le _⟩) hI (fun r_2 u H locs hw hI => ?_)
  obtain ⟨rfl, rfl⟩ := hw
  have hin_2 : zIn L (zPa (zby x b L) 1 p1 cs) := zPa_in zby_e 1 _ _ hpL hcs
  refine lv_if_eq (tgt := 20) hx hb dX5_takeNot_5 (by decide) (fun c_5 => ?_) (fun c_5 => ?_)
  · skip
    rw [zb_0] at c_5
    refine lv_iconst (v := (nI 0)) hx hb dX5_takeNot_20 rfl ?_
    exact z_zret hx hb hr hlocks hI (Or.inl rfl) ((by rw [show zNt (zPa (zby x b L) 1) p1 cs = _ from if_neg c_5]; exact ⟨rfl, if_neg c_5⟩)) dX5_takeNot_21
  · skip
    rw [zb_0, Classical.not_not] at c_5
    refine lv_aload_n hx hb dX5_takeNot_8 rfl (lv_at hl 0 rfl) ?_
    refine lv_iconst (v := (-1)) hx hb dX5_takeNot_9 rfl ?_
    refine z_calli (va_runV (As := [.int (-1)]) (rest := []) ⟨hx, hb, hml, hown, hts⟩ ((c_X5_putsZ l hG x b L (zPa (zby x b L) 1 p1 cs).2.1 (zPa (zby x b L) 1 p1 cs).2.2 (-1) hb0 hin_2.2) A) (cwV 1 hts gX5_takeNot_X5_puts rfl rfl rfl (by decide +kernel) ⟨Nat.le_of_ble_eq_true rfl, Nat.le_of_ble_eq_true rfl⟩) (z_pV hI hK hN (z_recv hK hI (zor hG hb0) rfl)) rfl rfl hl.1 rfl (lv_room (Nat.le_of_ble_eq_true rfl)) dX5_takeNot_10 ⟨Nat.zero_le _, Nat.zero_le _⟩) hI (fun r_10 u H locs hw hI => ?_)
    obtain ⟨rfl, rfl⟩ := hw
    have hin_10 : zIn L (zpt (-1) (zPa (zby x b L) 1 p1 cs).2.1 (zPa (zby x b L) 1 p1 cs).2.2) := zpt_in hin_2.1 hin_2.2
    refine lv_if_eq (tgt := 20) hx hb dX5_takeNot_13 (by decide) (fun c_13 => ?_) (fun c_13 => ?_)
    · skip
      rw [zb_0] at c_13
      refine lv_iconst (v := (nI 0)) hx hb dX5_takeNot_20 rfl ?_
      exact z_zret hx hb hr hlocks hI (Or.inl rfl) ((by rw [show zNt (zPa (zby x b L) 1) p1 cs = _ from if_pos c_5]; exact ⟨rfl, if_neg c_13⟩)) dX5_takeNot_21
    · skip
      rw [zb_0, Classical.not_not] at c_13
      refine lv_iconst (v := (nI 1)) hx hb dX5_takeNot_16 rfl ?_
      refine lv_goto (tgt := 21) hx hb dX5_takeNot_17 (by decide) ?_
      exact z_zret hx hb hr hlocks hI (Or.inr rfl) ((by rw [show zNt (zPa (zby x b L) 1) p1 cs = _ from if_pos c_5]; exact ⟨rfl, if_pos c_13⟩)) dX5_takeNot_21
set_option maxHeartbeats 1000000 in
set_option maxRecDepth 100000 in
theorem c_X5_takePart2 (l : Launch) {G : zG} (hG : zOK G) (aK aV : Nat → Nat) (x : zX) (b L p1 : Nat) (cs : List Int32) (hb0 : zRm b) (hL : x.1 b 8 = nI L) (hL9 : L ≤ 100) (htx : zTx x b) (hpL : p1 ≤ L) (hcs : cs.length ≤ 100) : zMiS l yX5_takePart wsX5_takePart { frames := 11, cells := 0, slots := 0, locals := 269 } G aK aV [.ref (za G b), .int (nI 2)] (zpz x b p1 cs) (fun (r : Int32) (u : zX) => zr3 x b (zPa (zby x b L) 2 p1 cs) r u) := by
  intro A
  refine zBodyS (cc := cX5_takePart) (maxL := 5) (ret := (some .boolean)) (by decide) rfl (Nat.le_of_ble_eq_true rfl) ?_
  intro p e s m below meth c hx hb hml hown hts hr hlocks hK hN hSS hI ls hl
  have hown : s.vm.findClass RX5 = some m.cls := hown
  have hl : lv_has ls 5 [(0, .ref (za G b)), (1, .int (nI 2))] := hl
  refine lv_iload_n hx hb dX5_takePart_0 rfl (lv_at hl 1 rfl) ?_
  refine lv_iconst (v := (nI 4)) hx hb dX5_takePart_1 rfl ?_
  refine lv_icmp_ge (tgt := 22) hx hb dX5_takePart_2 (by decide) (fun c_2 => absurd c_2 (by decide)) (fun c_2 => ?_)
  refine lv_aload_n hx hb dX5_takePart_5 rfl (lv_at hl 0 rfl) ?_
  refine lv_bipush (v := (nI 33)) hx hb dX5_takePart_6 rfl ?_
  refine z_calli (va_runV (As := [.int (nI 33)]) (rest := []) ⟨hx, hb, hml, hown, hts⟩ ((c_X5_takesZ l hG x b L p1 cs (nI 33) hb0 hL hL9 hpL) A) (cwV 1 hts gX5_takePart_X5_takes rfl rfl rfl (by decide +kernel) ⟨Nat.le_of_ble_eq_true rfl, Nat.le_of_ble_eq_true rfl⟩) (z_pV hI hK hN (z_recv hK hI (zor hG hb0) rfl)) rfl rfl hl.1 rfl (lv_room (Nat.le_of_ble_eq_true rfl)) dX5_takePart_8 ⟨Nat.zero_le _, Nat.zero_le _⟩) hI (fun r_8 u H locs hw hI => ?_)
  obtain ⟨rfl, rfl⟩ := hw
  have hin_8 : zIn L (ztke (zby x b L) (nI 33) p1 cs) := ztke_in zby_e (by decide) hpL hcs
  refine lv_if_eq (tgt := 22) hx hb dX5_takePart_11 (by decide) (fun c_11 => ?_) (fun c_11 => ?_)
  · skip
    rw [zb_0] at c_11
    have hI : zI G (zpz x b p1 cs) A s.heap H locs := by rw [ztke_f c_11] at hI; exact hI
    refine lv_iload_n hx hb dX5_takePart_22 rfl (lv_at hl 1 rfl) ?_
    refine lv_iconst (v := (nI 4)) hx hb dX5_takePart_23 rfl ?_
    refine lv_icmp_ge (tgt := 61) hx hb dX5_takePart_24 (by decide) (fun c_24 => absurd c_24 (by decide)) (fun c_24 => ?_)
    refine lv_aload_n hx hb dX5_takePart_27 rfl (lv_at hl 0 rfl) ?_
    refine lv_bipush (v := (nI 40)) hx hb dX5_takePart_28 rfl ?_
    refine z_calli (va_runV (As := [.int (nI 40)]) (rest := []) ⟨hx, hb, hml, hown, hts⟩ ((c_X5_takesZ l hG x b L p1 cs (nI 40) hb0 hL hL9 hpL) A) (cwV 1 hts gX5_takePart_X5_takes rfl rfl rfl (by decide +kernel) ⟨Nat.le_of_ble_eq_true rfl, Nat.le_of_ble_eq_true rfl⟩) (z_pV hI hK hN (z_recv hK hI (zor hG hb0) rfl)) rfl rfl hl.1 rfl (lv_room (Nat.le_of_ble_eq_true rfl)) dX5_takePart_30 ⟨Nat.zero_le _, Nat.zero_le _⟩) hI (fun r_30 u H locs hw hI => ?_)
    obtain ⟨rfl, rfl⟩ := hw
    have hin_30 : zIn L (ztke (zby x b L) (nI 40) p1 cs) := ztke_in zby_e (by decide) hpL hcs
    refine lv_if_eq (tgt := 61) hx hb dX5_takePart_33 (by decide) (fun c_33 => ?_) (fun c_33 => ?_)
    · skip
      rw [zb_0] at c_33
      have hI : zI G (zpz x b p1 cs) A s.heap H locs := by rw [ztke_f c_33] at hI; exact hI
      refine lv_aload_n hx hb dX5_takePart_61 rfl (lv_at hl 0 rfl) ?_
      refine va_ldcS hx hb hown (hSS.1 4 (131, "abkjtwr") rfl) dX5_takePart_62 ?_
      refine z_calli (va_runV (As := [.ref (aK 4)]) (rest := []) ⟨hx, hb, hml, hown, hts⟩ ((c_X5_takeOneOfZ l hG aK aV x b L p1 4 cs hb0 hL hL9 htx (by decide) hpL) A) (cwV 1 hts gX5_takePart_X5_takeOneOf rfl rfl rfl (by decide +kernel) ⟨Nat.le_of_ble_eq_true rfl, Nat.le_of_ble_eq_true rfl⟩) (z_pVS hI hK hN hSS (z_recv hK hI (zor hG hb0) rfl)) rfl rfl hl.1 rfl (lv_room (Nat.le_of_ble_eq_true rfl)) dX5_takePart_64 ⟨Nat.zero_le _, Nat.zero_le _⟩) hI (fun r_64 u H locs hw hI => ?_)
      obtain ⟨rfl, rfl⟩ := hw
      refine lv_istore_n (lv' := [(2, .int (zone 4 ((zby x b L) p1))), (0, .ref (za G b)), (1, .int (nI 2))]) hx hb dX5_takePart_67 rfl hl (by decide) rfl (fun ls hl => ?_)
      refine lv_iload_n hx hb dX5_takePart_68 rfl (lv_at hl 0 rfl) ?_
      refine lv_if_ge (tgt := 76) hx hb dX5_takePart_69 (by decide) (fun c_69 => ?_) (fun c_69 => ?_)
      · skip
        have hI : zI G (zpz x b (p1 + 1) cs) A s.heap H locs := by rw [if_neg (Int32.not_lt.mpr c_69)] at hI; exact hI
        have hp6 : p1 + 1 ≤ L := zone_n zby_e (Int32.not_lt.mpr c_69)
        refine lv_aload_n hx hb dX5_takePart_76 rfl (lv_at hl 1 rfl) ?_
        refine va_ldcS hx hb hown (hSS.1 5 (137, "<=>") rfl) dX5_takePart_77 ?_
        refine z_calli (va_runV (As := [.ref (aK 5)]) (rest := []) ⟨hx, hb, hml, hown, hts⟩ ((c_X5_takeOneOfZ l hG aK aV x b L (p1 + 1) 5 cs hb0 hL hL9 htx (by decide) hp6) A) (cwV 1 hts gX5_takePart_X5_takeOneOf rfl rfl rfl (by decide +kernel) ⟨Nat.le_of_ble_eq_true rfl, Nat.le_of_ble_eq_true rfl⟩) (z_pVS hI hK hN hSS (z_recv hK hI (zor hG hb0) rfl)) rfl rfl hl.1 rfl (lv_room (Nat.le_of_ble_eq_true rfl)) dX5_takePart_79 ⟨Nat.zero_le _, Nat.zero_le _⟩) hI (fun r_79 u H locs hw hI => ?_)
        obtain ⟨rfl, rfl⟩ := hw
        refine lv_istore_n (lv' := [(3, .int (zone 5 ((zby x b L) (p1 + 1)))), (2, .int (zone 4 ((zby x b L) p1))), (0, .ref (za G b)), (1, .int (nI 2))]) hx hb dX5_takePart_82 rfl hl (by decide) rfl (fun ls hl => ?_)
        refine lv_iload_n hx hb dX5_takePart_83 rfl (lv_at hl 0 rfl) ?_
        refine lv_if_ge (tgt := 91) hx hb dX5_takePart_84 (by decide) (fun c_84 => ?_) (fun c_84 => ?_)
        · skip
          have hI : zI G (zpz x b (p1 + 2) cs) A s.heap H locs := by rw [if_neg (Int32.not_lt.mpr c_84)] at hI; exact hI
          have hp8 : p1 + 2 ≤ L := zone_n zby_e (Int32.not_lt.mpr c_84)
          refine lv_aload_n hx hb dX5_takePart_91 rfl (lv_at hl 2 rfl) ?_
          refine z_calli (va_runV (As := []) (rest := []) ⟨hx, hb, hml, hown, hts⟩ ((c_X5_takeNumberZ l hG x b L (p1 + 2) cs hb0 hL hL9 hp8) A) (cwV 0 hts gX5_takePart_X5_takeNumber rfl rfl rfl (by decide +kernel) ⟨Nat.le_of_ble_eq_true rfl, Nat.le_of_ble_eq_true rfl⟩) (z_pV hI hK hN (z_recv hK hI (zor hG hb0) rfl)) rfl rfl hl.1 rfl (lv_room (Nat.le_of_ble_eq_true rfl)) dX5_takePart_92 ⟨Nat.zero_le _, Nat.zero_le _⟩) hI (fun r_92 u H locs hw hI => ?_)
          obtain ⟨rfl, rfl⟩ := hw
          have hin_92 : zIn L (true, (znum (zby x b L) (p1 + 2)).2, cs) := ⟨znum_in zby_e hp8, hcs⟩
          refine lv_istore (lv' := [(4, .int ((znum (zby x b L) (p1 + 2)).1)), (3, .int (zone 5 ((zby x b L) (p1 + 1)))), (2, .int (zone 4 ((zby x b L) p1))), (0, .ref (za G b)), (1, .int (nI 2))]) hx hb dX5_takePart_95 hl (by decide) rfl (fun ls hl => ?_)
          refine lv_iload hx hb dX5_takePart_97 (lv_at hl 0 rfl) ?_
          refine lv_if_lt (tgt := 124) hx hb dX5_takePart_99 (by decide) (fun c_99 => ?_) (fun c_99 => ?_)
          · skip
            have hI : zI G (zpz x b (p1 + 2) cs) A s.heap H locs := by rw [znum_n c_99] at hI; exact hI
            refine lv_iconst (v := (nI 0)) hx hb dX5_takePart_124 rfl ?_
            exact z_zret hx hb hr hlocks hI (Or.inl rfl) ((by rw [show zPa (zby x b L) 2 p1 cs = _ from (if_neg c_11).trans ((if_neg c_33).trans ((if_neg (Int32.not_lt.mpr c_69)).trans ((if_neg (Int32.not_lt.mpr c_84)).trans (if_pos c_99))))]; exact ⟨rfl, rfl⟩)) dX5_takePart_125
          · skip
            refine lv_aload_n hx hb dX5_takePart_102 rfl (lv_at hl 3 rfl) ?_
            refine lv_iload_n hx hb dX5_takePart_103 rfl (lv_at hl 2 rfl) ?_
            refine lv_iconst (v := (nI 3)) hx hb dX5_takePart_104 rfl ?_
            refine z_imul (v := (zone 4 ((zby x b L) p1) * nI 3)) hx hb rfl dX5_takePart_105 ?_
            refine lv_iload_n hx hb dX5_takePart_106 rfl (lv_at hl 1 rfl) ?_
            refine lv_iadd hx hb dX5_takePart_107 ?_
            refine lv_bipush (v := (nI 100)) hx hb dX5_takePart_108 rfl ?_
            refine lv_imul hx hb dX5_takePart_110 ?_
            refine lv_iload hx hb dX5_takePart_111 (lv_at hl 0 rfl) ?_
            refine lv_iadd hx hb dX5_takePart_113 ?_
            refine z_calli (va_runV (As := [.int ((((zone 4 ((zby x b L) p1) * nI 3) + (zone 5 ((zby x b L) (p1 + 1)))) * (nI 100)) + ((znum (zby x b L) (p1 + 2)).1))]) (rest := []) ⟨hx, hb, hml, hown, hts⟩ ((c_X5_putsZ l hG x b L (znum (zby x b L) (p1 + 2)).2 cs ((((zone 4 ((zby x b L) p1) * nI 3) + (zone 5 ((zby x b L) (p1 + 1)))) * (nI 100)) + ((znum (zby x b L) (p1 + 2)).1)) hb0 hin_92.2) A) (cwV 1 hts gX5_takePart_X5_puts rfl rfl rfl (by decide +kernel) ⟨Nat.le_of_ble_eq_true rfl, Nat.le_of_ble_eq_true rfl⟩) (z_pV hI hK hN (z_recv hK hI (zor hG hb0) rfl)) rfl rfl hl.1 rfl (lv_room (Nat.le_of_ble_eq_true rfl)) dX5_takePart_114 ⟨Nat.zero_le _, Nat.zero_le _⟩) hI (fun r_114 u H locs hw hI => ?_)
            obtain ⟨rfl, rfl⟩ := hw
            have hin_114 : zIn L (zpt ((((zone 4 ((zby x b L) p1) * nI 3) + (zone 5 ((zby x b L) (p1 + 1)))) * (nI 100)) + ((znum (zby x b L) (p1 + 2)).1)) (znum (zby x b L) (p1 + 2)).2 cs) := zpt_in hin_92.1 hin_92.2
            refine lv_if_eq (tgt := 124) hx hb dX5_takePart_117 (by decide) (fun c_117 => ?_) (fun c_117 => ?_)
            · skip
              rw [zb_0] at c_117
              refine lv_iconst (v := (nI 0)) hx hb dX5_takePart_124 rfl ?_
              exact z_zret hx hb hr hlocks hI (Or.inl rfl) ((by rw [show zPa (zby x b L) 2 p1 cs = _ from (if_neg c_11).trans ((if_neg c_33).trans ((if_neg (Int32.not_lt.mpr c_69)).trans ((if_neg (Int32.not_lt.mpr c_84)).trans (if_neg c_99))))]; exact ⟨rfl, if_neg c_117⟩)) dX5_takePart_125
            · skip
              rw [zb_0, Classical.not_not] at c_117
              refine lv_iconst (v := (nI 1)) hx hb dX5_takePart_120 rfl ?_
              refine lv_goto (tgt := 125) hx hb dX5_takePart_121 (by decide) ?_
              exact z_zret hx hb hr hlocks hI (Or.inr rfl) ((by rw [show zPa (zby x b L) 2 p1 cs = _ from (if_neg c_11).trans ((if_neg c_33).trans ((if_neg (Int32.not_lt.mpr c_69)).trans ((if_neg (Int32.not_lt.mpr c_84)).trans (if_neg c_99))))]; exact ⟨rfl, if_pos c_117⟩)) dX5_takePart_125
        · skip
          have hI : zI G (zpz x b (p1 + 1) cs) A s.heap H locs := by rw [if_pos (Int32.not_le.mp c_84)] at hI; exact hI
          refine lv_iconst (v := (-1)) hx hb dX5_takePart_87 rfl ?_
          refine lv_goto (tgt := 95) hx hb dX5_takePart_88 (by decide) ?_
          refine lv_istore (lv' := [(4, .int (-1)), (3, .int (zone 5 ((zby x b L) (p1 + 1)))), (2, .int (zone 4 ((zby x b L) p1))), (0, .ref (za G b)), (1, .int (nI 2))]) hx hb dX5_takePart_95 hl (by decide) rfl (fun ls hl => ?_)
          refine lv_iload hx hb dX5_takePart_97 (lv_at hl 0 rfl) ?_
          refine lv_if_lt (tgt := 124) hx hb dX5_takePart_99 (by decide) (fun c_99 => ?_) (fun c_99 => ?_)
          · skip
            refine lv_iconst (v := (nI 0)) hx hb dX5_takePart_124 rfl ?_
            exact z_zret hx hb hr hlocks hI (Or.inl rfl) ((by rw [show zPa (zby x b L) 2 p1 cs = _ from (if_neg c_11).trans ((if_neg c_33).trans ((if_neg (Int32.not_lt.mpr c_69)).trans (if_pos (Int32.not_le.mp c_84))))]; exact ⟨rfl, rfl⟩)) dX5_takePart_125
          · skip
            exact absurd (by decide) c_99
      · skip
        have hI : zI G (zpz x b p1 cs) A s.heap H locs := by rw [if_pos (Int32.not_le.mp c_69)] at hI; exact hI
        refine lv_iconst (v := (-1)) hx hb dX5_takePart_72 rfl ?_
        refine lv_goto (tgt := 82) hx hb dX5_takePart_73 (by decide) ?_
        refine lv_istore_n (lv' := [(3, .int (-1)), (2, .int (zone 4 ((zby x b L) p1))), (0, .ref (za G b)), (1, .int (nI 2))]) hx hb dX5_takePart_82 rfl hl (by decide) rfl (fun ls hl => ?_)
        refine lv_iload_n hx hb dX5_takePart_83 rfl (lv_at hl 0 rfl) ?_
        refine lv_if_ge (tgt := 91) hx hb dX5_takePart_84 (by decide) (fun c_84 => ?_) (fun c_84 => ?_)
        · skip
          exact absurd c_84 (by decide)
        · skip
          refine lv_iconst (v := (-1)) hx hb dX5_takePart_87 rfl ?_
          refine lv_goto (tgt := 95) hx hb dX5_takePart_88 (by decide) ?_
          refine lv_istore (lv' := [(4, .int (-1)), (3, .int (-1)), (2, .int (zone 4 ((zby x b L) p1))), (0, .ref (za G b)), (1, .int (nI 2))]) hx hb dX5_takePart_95 hl (by decide) rfl (fun ls hl => ?_)
          refine lv_iload hx hb dX5_takePart_97 (lv_at hl 0 rfl) ?_
          refine lv_if_lt (tgt := 124) hx hb dX5_takePart_99 (by decide) (fun c_99 => ?_) (fun c_99 => ?_)
          · skip
            refine lv_iconst (v := (nI 0)) hx hb dX5_takePart_124 rfl ?_
            exact z_zret hx hb hr hlocks hI (Or.inl rfl) ((by rw [show zPa (zby x b L) 2 p1 cs = _ from (if_neg c_11).trans ((if_neg c_33).trans (if_pos (Int32.not_le.mp c_69)))]; exact ⟨rfl, rfl⟩)) dX5_takePart_125
          · skip
            exact absurd (by decide) c_99
    · skip
      rw [zb_0, Classical.not_not] at c_33
      refine lv_aload_n hx hb dX5_takePart_36 rfl (lv_at hl 0 rfl) ?_
      refine lv_iload_n hx hb dX5_takePart_37 rfl (lv_at hl 1 rfl) ?_
      refine lv_iconst (v := (nI 1)) hx hb dX5_takePart_38 rfl ?_
      refine z_iadd (v := (nI 3)) hx hb (nI_add 2 1) dX5_takePart_39 ?_
      refine z_calli (va_runV (As := [.int (nI 3)]) (rest := []) ⟨hx, hb, hml, hown, hts⟩ ((c_X5_takeEither1 l hG aK aV x b L (ztke (zby x b L) (nI 40) p1 cs).2.1 (ztke (zby x b L) (nI 40) p1 cs).2.2 hb0 hL hL9 htx hin_30.1 hin_30.2) A) (cwV 1 hts gX5_takePart_X5_takeEither rfl rfl rfl (by decide +kernel) ⟨Nat.le_of_ble_eq_true rfl, Nat.le_of_ble_eq_true rfl⟩) (z_pVS hI hK hN hSS (z_recv hK hI (zor hG hb0) rfl)) rfl rfl hl.1 rfl (lv_room (Nat.le_of_ble_eq_true rfl)) dX5_takePart_40 ⟨Nat.zero_le _, Nat.zero_le _⟩) hI (fun r_40 u H locs hw hI => ?_)
      obtain ⟨rfl, rfl⟩ := hw
      have hin_40 : zIn L (zEi (zPa (zby x b L) 1) (zby x b L) (ztke (zby x b L) (nI 40) p1 cs).2.1 (ztke (zby x b L) (nI 40) p1 cs).2.2) := zEi_in zby_e (fun p cs => zPa_in zby_e 1 p cs) _ _ hin_30.1 hin_30.2
      refine lv_if_eq (tgt := 59) hx hb dX5_takePart_43 (by decide) (fun c_43 => ?_) (fun c_43 => ?_)
      · skip
        rw [zb_0] at c_43
        refine lv_iconst (v := (nI 0)) hx hb dX5_takePart_59 rfl ?_
        exact z_zret hx hb hr hlocks hI (Or.inl rfl) ((by rw [show zPa (zby x b L) 2 p1 cs = _ from (if_neg c_11).trans ((if_pos c_33).trans (if_neg c_43))]; exact ⟨rfl, if_neg c_43⟩)) dX5_takePart_60
      · skip
        rw [zb_0, Classical.not_not] at c_43
        refine lv_aload_n hx hb dX5_takePart_46 rfl (lv_at hl 0 rfl) ?_
        refine lv_bipush (v := (nI 41)) hx hb dX5_takePart_47 rfl ?_
        refine z_calli (va_runV (As := [.int (nI 41)]) (rest := []) ⟨hx, hb, hml, hown, hts⟩ ((c_X5_takesZ l hG x b L (zEi (zPa (zby x b L) 1) (zby x b L) (ztke (zby x b L) (nI 40) p1 cs).2.1 (ztke (zby x b L) (nI 40) p1 cs).2.2).2.1 (zEi (zPa (zby x b L) 1) (zby x b L) (ztke (zby x b L) (nI 40) p1 cs).2.1 (ztke (zby x b L) (nI 40) p1 cs).2.2).2.2 (nI 41) hb0 hL hL9 hin_40.1) A) (cwV 1 hts gX5_takePart_X5_takes rfl rfl rfl (by decide +kernel) ⟨Nat.le_of_ble_eq_true rfl, Nat.le_of_ble_eq_true rfl⟩) (z_pV hI hK hN (z_recv hK hI (zor hG hb0) rfl)) rfl rfl hl.1 rfl (lv_room (Nat.le_of_ble_eq_true rfl)) dX5_takePart_49 ⟨Nat.zero_le _, Nat.zero_le _⟩) hI (fun r_49 u H locs hw hI => ?_)
        obtain ⟨rfl, rfl⟩ := hw
        have hin_49 : zIn L (ztke (zby x b L) (nI 41) (zEi (zPa (zby x b L) 1) (zby x b L) (ztke (zby x b L) (nI 40) p1 cs).2.1 (ztke (zby x b L) (nI 40) p1 cs).2.2).2.1 (zEi (zPa (zby x b L) 1) (zby x b L) (ztke (zby x b L) (nI 40) p1 cs).2.1 (ztke (zby x b L) (nI 40) p1 cs).2.2).2.2) := ztke_in zby_e (by decide) hin_40.1 hin_40.2
        refine lv_if_eq (tgt := 59) hx hb dX5_takePart_52 (by decide) (fun c_52 => ?_) (fun c_52 => ?_)
        · skip
          rw [zb_0] at c_52
          refine lv_iconst (v := (nI 0)) hx hb dX5_takePart_59 rfl ?_
          exact z_zret hx hb hr hlocks hI (Or.inl rfl) ((by rw [show zPa (zby x b L) 2 p1 cs = _ from (if_neg c_11).trans ((if_pos c_33).trans (if_pos c_43))]; exact ⟨rfl, if_neg c_52⟩)) dX5_takePart_60
        · skip
          rw [zb_0, Classical.not_not] at c_52
          refine lv_iconst (v := (nI 1)) hx hb dX5_takePart_55 rfl ?_
          refine lv_goto (tgt := 60) hx hb dX5_takePart_56 (by decide) ?_
          exact z_zret hx hb hr hlocks hI (Or.inr rfl) ((by rw [show zPa (zby x b L) 2 p1 cs = _ from (if_neg c_11).trans ((if_pos c_33).trans (if_pos c_43))]; exact ⟨rfl, if_pos c_52⟩)) dX5_takePart_60
  · skip
    rw [zb_0, Classical.not_not] at c_11
    refine lv_aload_n hx hb dX5_takePart_14 rfl (lv_at hl 0 rfl) ?_
    refine lv_iload_n hx hb dX5_takePart_15 rfl (lv_at hl 1 rfl) ?_
    refine lv_iconst (v := (nI 1)) hx hb dX5_takePart_16 rfl ?_
    refine z_iadd (v := (nI 3)) hx hb (nI_add 2 1) dX5_takePart_17 ?_
    refine z_calli (va_runV (As := [.int (nI 3)]) (rest := []) ⟨hx, hb, hml, hown, hts⟩ ((c_X5_takeNot1 l hG aK aV x b L (ztke (zby x b L) (nI 33) p1 cs).2.1 (ztke (zby x b L) (nI 33) p1 cs).2.2 hb0 hL hL9 htx hin_8.1 hin_8.2) A) (cwV 1 hts gX5_takePart_X5_takeNot rfl rfl rfl (by decide +kernel) ⟨Nat.le_of_ble_eq_true rfl, Nat.le_of_ble_eq_true rfl⟩) (z_pVS hI hK hN hSS (z_recv hK hI (zor hG hb0) rfl)) rfl rfl hl.1 rfl (lv_room (Nat.le_of_ble_eq_true rfl)) dX5_takePart_18 ⟨Nat.zero_le _, Nat.zero_le _⟩) hI (fun r_18 u H locs hw hI => ?_)
    obtain ⟨rfl, rfl⟩ := hw
    have hin_18 : zIn L (zNt (zPa (zby x b L) 1) (ztke (zby x b L) (nI 33) p1 cs).2.1 (ztke (zby x b L) (nI 33) p1 cs).2.2) := zNt_in (fun p cs => zPa_in zby_e 1 p cs) _ _ hin_8.1 hin_8.2
    exact z_zret hx hb hr hlocks hI (zb01 _) ((by rw [show zPa (zby x b L) 2 p1 cs = _ from if_pos (Classical.not_not.mp (fun h9 => h9 c_11))]; exact ⟨rfl, rfl⟩)) dX5_takePart_21
set_option maxHeartbeats 1000000 in
set_option maxRecDepth 100000 in
theorem c_X5_takeEach2 (l : Launch) {G : zG} (hG : zOK G) (aK aV : Nat → Nat) (x : zX) (b L p1 : Nat) (cs : List Int32) (hb0 : zRm b) (hL : x.1 b 8 = nI L) (hL9 : L ≤ 100) (htx : zTx x b) (hpL : p1 ≤ L) (hcs : cs.length ≤ 100) : zMiS l yX5_takeEach wsX5_takeEach { frames := 12, cells := 0, slots := 0, locals := 293 } G aK aV [.ref (za G b), .int (nI 2)] (zpz x b p1 cs) (fun (r : Int32) (u : zX) => zr3 x b (zEa (zPa (zby x b L) 2) (zby x b L) p1 cs) r u) := by
  intro A
  refine zBodyS (cc := cX5_takeEach) (maxL := 4) (ret := (some .boolean)) (by decide) rfl (Nat.le_of_ble_eq_true rfl) ?_
  intro p e s m below meth c hx hb hml hown hts hr hlocks hK hN hSS hI ls hl
  have hown : s.vm.findClass RX5 = some m.cls := hown
  have hl : lv_has ls 4 [(0, .ref (za G b)), (1, .int (nI 2))] := hl
  refine lv_aload_n hx hb dX5_takeEach_0 rfl (lv_at hl 0 rfl) ?_
  refine lv_iload_n hx hb dX5_takeEach_1 rfl (lv_at hl 1 rfl) ?_
  refine z_calli (va_runV (As := [.int (nI 2)]) (rest := []) ⟨hx, hb, hml, hown, hts⟩ ((c_X5_takePart2 l hG aK aV x b L p1 cs hb0 hL hL9 htx hpL hcs) A) (cwV 1 hts gX5_takeEach_X5_takePart rfl rfl rfl (by decide +kernel) ⟨Nat.le_of_ble_eq_true rfl, Nat.le_of_ble_eq_true rfl⟩) (z_pVS hI hK hN hSS (z_recv hK hI (zor hG hb0) rfl)) rfl rfl hl.1 rfl (lv_room (Nat.le_of_ble_eq_true rfl)) dX5_takeEach_2 ⟨Nat.zero_le _, Nat.zero_le _⟩) hI (fun r_2 u H locs hw hI => ?_)
  obtain ⟨rfl, rfl⟩ := hw
  have hin_2 : zIn L (zPa (zby x b L) 2 p1 cs) := zPa_in zby_e 2 _ _ hpL hcs
  refine lv_istore_n (lv' := [(2, .int (if (zPa (zby x b L) 2 p1 cs).1 = true then nI 1 else nI 0)), (0, .ref (za G b)), (1, .int (nI 2))]) hx hb dX5_takeEach_5 rfl hl (by decide) rfl (fun ls hl => ?_)
  refine lv_iconst (v := (nI 0)) hx hb dX5_takeEach_6 rfl ?_
  refine lv_istore_n (lv' := [(3, .int (nI 0)), (2, .int (if (zPa (zby x b L) 2 p1 cs).1 = true then nI 1 else nI 0)), (0, .ref (za G b)), (1, .int (nI 2))]) hx hb dX5_takeEach_7 rfl hl (by decide) rfl (fun ls hl => ?_)
  have L8 : ∀ (f : Nat) (i : Nat) (r : zPR), (i ≤ 100) → (zLp (zPa (zby x b L) 2) (zby x b L) (nI 38) (-2) (100 - i) r = zEa (zPa (zby x b L) 2) (zby x b L) p1 cs) → (zIn L r) → 101 ≤ i + f → ∀ (H : Heap) (locs : List Loc), zI G (zpz x b r.2.1 r.2.2) A s.heap H locs → ∀ ls : Array Slot, lv_has ls 4 [(0, .ref (za G b)), (1, .int (nI 2)), (2, .int (if r.1 = true then nI 1 else nI 0)), (3, .int (nI i))] → W p l e { frames := 12, cells := 0, slots := 0, locals := 293 } s m ([.ref (za G b), .int (nI 2)] : List Value).toArray below meth c H locs 0 0 (MQ below (va_Qi (fun (r : Int32) (u : zX) => zr3 x b (zEa (zPa (zby x b L) 2) (zby x b L) p1 cs) r u) (fun u t => zJ G u A t.heap) A) ([.ref (za G b), .int (nI 2)] : List Value).toArray s 0 0 A) (F0 m 8 ls []) := by
    intro f
    induction f with
    | zero =>
      intro i r h1 h2 h3 hf
      exact absurd hf (by omega)
    | succ f ih =>
      intro i r h1 h2 h3 hf H locs hI ls hl
      have ih8 := ih
      refine lv_iload_n hx hb dX5_takeEach_8 rfl (lv_at hl 3 rfl) ?_
      refine lv_bipush (v := (nI 100)) hx hb dX5_takeEach_9 rfl ?_
      refine lv_icmp_ge (tgt := 56) hx hb dX5_takeEach_11 (by decide) (fun c_11 => ?_) (fun c_11 => ?_)
      · skip
        rw [zqG (by omega) (by omega)] at c_11
        have hzx : zLp (zPa (zby x b L) 2) (zby x b L) (nI 38) (-2) (100 - i) r = r := by rw [show 100 - i = 0 by omega]; rfl
        have hfin : zEa (zPa (zby x b L) 2) (zby x b L) p1 cs = r := h2.symm.trans hzx
        refine lv_iload_n hx hb dX5_takeEach_56 rfl (lv_at hl 2 rfl) ?_
        exact z_zret hx hb hr hlocks hI (zb01 _) (by rw [hfin]; exact ⟨rfl, rfl⟩) dX5_takeEach_57
      · skip
        rw [zqG (by omega) (by omega)] at c_11
        refine lv_iload_n hx hb dX5_takeEach_14 rfl (lv_at hl 2 rfl) ?_
        refine lv_if_eq (tgt := 56) hx hb dX5_takeEach_15 (by decide) (fun c_15 => ?_) (fun c_15 => ?_)
        · skip
          rw [zb_0] at c_15
          have hzx : zLp (zPa (zby x b L) 2) (zby x b L) (nI 38) (-2) (100 - i) r = r := zLp_x (fun h9 => c_15 h9.1) _
          have hfin : zEa (zPa (zby x b L) 2) (zby x b L) p1 cs = r := h2.symm.trans hzx
          refine lv_iload_n hx hb dX5_takeEach_56 rfl (lv_at hl 2 rfl) ?_
          exact z_zret hx hb hr hlocks hI (zb01 _) (by rw [hfin]; exact ⟨rfl, rfl⟩) dX5_takeEach_57
        · skip
          rw [zb_0, Classical.not_not] at c_15
          refine lv_aload_n hx hb dX5_takeEach_18 rfl (lv_at hl 0 rfl) ?_
          refine lv_bipush (v := (nI 38)) hx hb dX5_takeEach_19 rfl ?_
          refine z_calli (va_runV (As := [.int (nI 38)]) (rest := []) ⟨hx, hb, hml, hown, hts⟩ ((c_X5_takesZ l hG x b L r.2.1 r.2.2 (nI 38) hb0 hL hL9 h3.1) A) (cwV 1 hts gX5_takeEach_X5_takes rfl rfl rfl (by decide +kernel) ⟨Nat.le_of_ble_eq_true rfl, Nat.le_of_ble_eq_true rfl⟩) (z_pV hI hK hN (z_recv hK hI (zor hG hb0) rfl)) rfl rfl hl.1 rfl (lv_room (Nat.le_of_ble_eq_true rfl)) dX5_takeEach_21 ⟨Nat.zero_le _, Nat.zero_le _⟩) hI (fun r_21 u H locs hw hI => ?_)
          obtain ⟨rfl, rfl⟩ := hw
          have hin_21 : zIn L (ztke (zby x b L) (nI 38) r.2.1 r.2.2) := ztke_in zby_e (by decide) h3.1 h3.2
          refine lv_if_eq (tgt := 56) hx hb dX5_takeEach_24 (by decide) (fun c_24 => ?_) (fun c_24 => ?_)
          · skip
            rw [zb_0] at c_24
            have hI : zI G (zpz x b r.2.1 r.2.2) A s.heap H locs := by rw [ztke_f c_24] at hI; exact hI
            have hzx : zLp (zPa (zby x b L) 2) (zby x b L) (nI 38) (-2) (100 - i) r = r := zLp_x (fun h9 => c_24 h9.2) _
            have hfin : zEa (zPa (zby x b L) 2) (zby x b L) p1 cs = r := h2.symm.trans hzx
            refine lv_iload_n hx hb dX5_takeEach_56 rfl (lv_at hl 2 rfl) ?_
            exact z_zret hx hb hr hlocks hI (zb01 _) (by rw [hfin]; exact ⟨rfl, rfl⟩) dX5_takeEach_57
          · skip
            rw [zb_0, Classical.not_not] at c_24
            refine lv_aload_n hx hb dX5_takeEach_27 rfl (lv_at hl 0 rfl) ?_
            refine lv_iload_n hx hb dX5_takeEach_28 rfl (lv_at hl 1 rfl) ?_
            refine z_calli (va_runV (As := [.int (nI 2)]) (rest := []) ⟨hx, hb, hml, hown, hts⟩ ((c_X5_takePart2 l hG aK aV x b L (ztke (zby x b L) (nI 38) r.2.1 r.2.2).2.1 (ztke (zby x b L) (nI 38) r.2.1 r.2.2).2.2 hb0 hL hL9 htx hin_21.1 hin_21.2) A) (cwV 1 hts gX5_takeEach_X5_takePart rfl rfl rfl (by decide +kernel) ⟨Nat.le_of_ble_eq_true rfl, Nat.le_of_ble_eq_true rfl⟩) (z_pVS hI hK hN hSS (z_recv hK hI (zor hG hb0) rfl)) rfl rfl hl.1 rfl (lv_room (Nat.le_of_ble_eq_true rfl)) dX5_takeEach_29 ⟨Nat.zero_le _, Nat.zero_le _⟩) hI (fun r_29 u H locs hw hI => ?_)
            obtain ⟨rfl, rfl⟩ := hw
            have hin_29 : zIn L (zPa (zby x b L) 2 (ztke (zby x b L) (nI 38) r.2.1 r.2.2).2.1 (ztke (zby x b L) (nI 38) r.2.1 r.2.2).2.2) := zPa_in zby_e 2 _ _ hin_21.1 hin_21.2
            refine lv_if_eq (tgt := 48) hx hb dX5_takeEach_32 (by decide) (fun c_32 => ?_) (fun c_32 => ?_)
            · skip
              rw [zb_0] at c_32
              refine lv_iconst (v := (nI 0)) hx hb dX5_takeEach_48 rfl ?_
              refine lv_istore_n (lv' := [(2, .int (nI 0)), (0, .ref (za G b)), (1, .int (nI 2)), (3, .int (nI i))]) hx hb dX5_takeEach_49 rfl hl (by decide) rfl (fun ls hl => ?_)
              refine lv_iinc (v := (nI (i + 1))) (lv' := [(3, .int (nI (i + 1))), (2, .int (nI 0)), (0, .ref (za G b)), (1, .int (nI 2))]) hx hb dX5_takeEach_50 hl (k := 3) rfl (zinc i) (by decide) rfl (fun ls hl => ?_)
              refine lv_goto (tgt := 8) hx hb dX5_takeEach_53 (by decide) ?_
              exact ih8 (i + 1) (zth (zPa (zby x b L) 2 (ztke (zby x b L) (nI 38) r.2.1 r.2.2).2.1 (ztke (zby x b L) (nI 38) r.2.1 r.2.2).2.2) (zpt (-2))) (by omega) (by rw [← h2, show 100 - i = 100 - (i + 1) + 1 by omega, zLp, if_pos ⟨c_15, c_24⟩]) (zth_in hin_29 (fun h9 => zpt_in h9.1 h9.2)) (by omega) _ _ (by rw [show (zth (zPa (zby x b L) 2 (ztke (zby x b L) (nI 38) r.2.1 r.2.2).2.1 (ztke (zby x b L) (nI 38) r.2.1 r.2.2).2.2) (zpt (-2))) = (zPa (zby x b L) 2 (ztke (zby x b L) (nI 38) r.2.1 r.2.2).2.1 (ztke (zby x b L) (nI 38) r.2.1 r.2.2).2.2) from if_neg c_32]; exact hI) ls (by rw [show (zth (zPa (zby x b L) 2 (ztke (zby x b L) (nI 38) r.2.1 r.2.2).2.1 (ztke (zby x b L) (nI 38) r.2.1 r.2.2).2.2) (zpt (-2))) = (zPa (zby x b L) 2 (ztke (zby x b L) (nI 38) r.2.1 r.2.2).2.1 (ztke (zby x b L) (nI 38) r.2.1 r.2.2).2.2) from if_neg c_32, if_neg c_32]; exact lv_sub hl [2, 3, 1, 0] rfl)
            · skip
              rw [zb_0, Classical.not_not] at c_32
              refine lv_aload_n hx hb dX5_takeEach_35 rfl (lv_at hl 0 rfl) ?_
              refine lv_bipush (v := (-2)) hx hb dX5_takeEach_36 rfl ?_
              refine z_calli (va_runV (As := [.int (-2)]) (rest := []) ⟨hx, hb, hml, hown, hts⟩ ((c_X5_putsZ l hG x b L (zPa (zby x b L) 2 (ztke (zby x b L) (nI 38) r.2.1 r.2.2).2.1 (ztke (zby x b L) (nI 38) r.2.1 r.2.2).2.2).2.1 (zPa (zby x b L) 2 (ztke (zby x b L) (nI 38) r.2.1 r.2.2).2.1 (ztke (zby x b L) (nI 38) r.2.1 r.2.2).2.2).2.2 (-2) hb0 hin_29.2) A) (cwV 1 hts gX5_takeEach_X5_puts rfl rfl rfl (by decide +kernel) ⟨Nat.le_of_ble_eq_true rfl, Nat.le_of_ble_eq_true rfl⟩) (z_pV hI hK hN (z_recv hK hI (zor hG hb0) rfl)) rfl rfl hl.1 rfl (lv_room (Nat.le_of_ble_eq_true rfl)) dX5_takeEach_38 ⟨Nat.zero_le _, Nat.zero_le _⟩) hI (fun r_38 u H locs hw hI => ?_)
              obtain ⟨rfl, rfl⟩ := hw
              have hin_38 : zIn L (zpt (-2) (zPa (zby x b L) 2 (ztke (zby x b L) (nI 38) r.2.1 r.2.2).2.1 (ztke (zby x b L) (nI 38) r.2.1 r.2.2).2.2).2.1 (zPa (zby x b L) 2 (ztke (zby x b L) (nI 38) r.2.1 r.2.2).2.1 (ztke (zby x b L) (nI 38) r.2.1 r.2.2).2.2).2.2) := zpt_in hin_29.1 hin_29.2
              refine lv_if_eq (tgt := 48) hx hb dX5_takeEach_41 (by decide) (fun c_41 => ?_) (fun c_41 => ?_)
              · skip
                rw [zb_0] at c_41
                refine lv_iconst (v := (nI 0)) hx hb dX5_takeEach_48 rfl ?_
                refine lv_istore_n (lv' := [(2, .int (nI 0)), (0, .ref (za G b)), (1, .int (nI 2)), (3, .int (nI i))]) hx hb dX5_takeEach_49 rfl hl (by decide) rfl (fun ls hl => ?_)
                refine lv_iinc (v := (nI (i + 1))) (lv' := [(3, .int (nI (i + 1))), (2, .int (nI 0)), (0, .ref (za G b)), (1, .int (nI 2))]) hx hb dX5_takeEach_50 hl (k := 3) rfl (zinc i) (by decide) rfl (fun ls hl => ?_)
                refine lv_goto (tgt := 8) hx hb dX5_takeEach_53 (by decide) ?_
                exact ih8 (i + 1) (zth (zPa (zby x b L) 2 (ztke (zby x b L) (nI 38) r.2.1 r.2.2).2.1 (ztke (zby x b L) (nI 38) r.2.1 r.2.2).2.2) (zpt (-2))) (by omega) (by rw [← h2, show 100 - i = 100 - (i + 1) + 1 by omega, zLp, if_pos ⟨c_15, c_24⟩]) (zth_in hin_29 (fun h9 => zpt_in h9.1 h9.2)) (by omega) _ _ (by rw [show (zth (zPa (zby x b L) 2 (ztke (zby x b L) (nI 38) r.2.1 r.2.2).2.1 (ztke (zby x b L) (nI 38) r.2.1 r.2.2).2.2) (zpt (-2))) = (zpt (-2) (zPa (zby x b L) 2 (ztke (zby x b L) (nI 38) r.2.1 r.2.2).2.1 (ztke (zby x b L) (nI 38) r.2.1 r.2.2).2.2).2.1 (zPa (zby x b L) 2 (ztke (zby x b L) (nI 38) r.2.1 r.2.2).2.1 (ztke (zby x b L) (nI 38) r.2.1 r.2.2).2.2).2.2) from if_pos c_32]; exact hI) ls (by rw [show (zth (zPa (zby x b L) 2 (ztke (zby x b L) (nI 38) r.2.1 r.2.2).2.1 (ztke (zby x b L) (nI 38) r.2.1 r.2.2).2.2) (zpt (-2))) = (zpt (-2) (zPa (zby x b L) 2 (ztke (zby x b L) (nI 38) r.2.1 r.2.2).2.1 (ztke (zby x b L) (nI 38) r.2.1 r.2.2).2.2).2.1 (zPa (zby x b L) 2 (ztke (zby x b L) (nI 38) r.2.1 r.2.2).2.1 (ztke (zby x b L) (nI 38) r.2.1 r.2.2).2.2).2.2) from if_pos c_32, if_neg c_41]; exact lv_sub hl [2, 3, 1, 0] rfl)
              · skip
                rw [zb_0, Classical.not_not] at c_41
                refine lv_iconst (v := (nI 1)) hx hb dX5_takeEach_44 rfl ?_
                refine lv_goto (tgt := 49) hx hb dX5_takeEach_45 (by decide) ?_
                refine lv_istore_n (lv' := [(2, .int (nI 1)), (0, .ref (za G b)), (1, .int (nI 2)), (3, .int (nI i))]) hx hb dX5_takeEach_49 rfl hl (by decide) rfl (fun ls hl => ?_)
                refine lv_iinc (v := (nI (i + 1))) (lv' := [(3, .int (nI (i + 1))), (2, .int (nI 1)), (0, .ref (za G b)), (1, .int (nI 2))]) hx hb dX5_takeEach_50 hl (k := 3) rfl (zinc i) (by decide) rfl (fun ls hl => ?_)
                refine lv_goto (tgt := 8) hx hb dX5_takeEach_53 (by decide) ?_
                exact ih8 (i + 1) (zth (zPa (zby x b L) 2 (ztke (zby x b L) (nI 38) r.2.1 r.2.2).2.1 (ztke (zby x b L) (nI 38) r.2.1 r.2.2).2.2) (zpt (-2))) (by omega) (by rw [← h2, show 100 - i = 100 - (i + 1) + 1 by omega, zLp, if_pos ⟨c_15, c_24⟩]) (zth_in hin_29 (fun h9 => zpt_in h9.1 h9.2)) (by omega) _ _ (by rw [show (zth (zPa (zby x b L) 2 (ztke (zby x b L) (nI 38) r.2.1 r.2.2).2.1 (ztke (zby x b L) (nI 38) r.2.1 r.2.2).2.2) (zpt (-2))) = (zpt (-2) (zPa (zby x b L) 2 (ztke (zby x b L) (nI 38) r.2.1 r.2.2).2.1 (ztke (zby x b L) (nI 38) r.2.1 r.2.2).2.2).2.1 (zPa (zby x b L) 2 (ztke (zby x b L) (nI 38) r.2.1 r.2.2).2.1 (ztke (zby x b L) (nI 38) r.2.1 r.2.2).2.2).2.2) from if_pos c_32]; exact hI) ls (by rw [show (zth (zPa (zby x b L) 2 (ztke (zby x b L) (nI 38) r.2.1 r.2.2).2.1 (ztke (zby x b L) (nI 38) r.2.1 r.2.2).2.2) (zpt (-2))) = (zpt (-2) (zPa (zby x b L) 2 (ztke (zby x b L) (nI 38) r.2.1 r.2.2).2.1 (ztke (zby x b L) (nI 38) r.2.1 r.2.2).2.2).2.1 (zPa (zby x b L) 2 (ztke (zby x b L) (nI 38) r.2.1 r.2.2).2.1 (ztke (zby x b L) (nI 38) r.2.1 r.2.2).2.2).2.2) from if_pos c_32, if_pos c_41]; exact lv_sub hl [2, 3, 1, 0] rfl)
  exact L8 (101) 0 (zPa (zby x b L) 2 p1 cs) (by omega) rfl hin_2 (by omega) _ _ hI ls (lv_sub hl [2, 3, 1, 0] rfl)
set_option maxHeartbeats 1000000 in
set_option maxRecDepth 100000 in
theorem c_X5_takeEither2 (l : Launch) {G : zG} (hG : zOK G) (aK aV : Nat → Nat) (x : zX) (b L p1 : Nat) (cs : List Int32) (hb0 : zRm b) (hL : x.1 b 8 = nI L) (hL9 : L ≤ 100) (htx : zTx x b) (hpL : p1 ≤ L) (hcs : cs.length ≤ 100) : zMiS l yX5_takeEither wsX5_takeEither { frames := 13, cells := 0, slots := 0, locals := 316 } G aK aV [.ref (za G b), .int (nI 2)] (zpz x b p1 cs) (fun (r : Int32) (u : zX) => zr3 x b (zEi (zPa (zby x b L) 2) (zby x b L) p1 cs) r u) := by
  intro A
  refine zBodyS (cc := cX5_takeEither) (maxL := 4) (ret := (some .boolean)) (by decide) rfl (Nat.le_of_ble_eq_true rfl) ?_
  intro p e s m below meth c hx hb hml hown hts hr hlocks hK hN hSS hI ls hl
  have hown : s.vm.findClass RX5 = some m.cls := hown
  have hl : lv_has ls 4 [(0, .ref (za G b)), (1, .int (nI 2))] := hl
  refine lv_aload_n hx hb dX5_takeEither_0 rfl (lv_at hl 0 rfl) ?_
  refine lv_iload_n hx hb dX5_takeEither_1 rfl (lv_at hl 1 rfl) ?_
  refine z_calli (va_runV (As := [.int (nI 2)]) (rest := []) ⟨hx, hb, hml, hown, hts⟩ ((c_X5_takeEach2 l hG aK aV x b L p1 cs hb0 hL hL9 htx hpL hcs) A) (cwV 1 hts gX5_takeEither_X5_takeEach rfl rfl rfl (by decide +kernel) ⟨Nat.le_of_ble_eq_true rfl, Nat.le_of_ble_eq_true rfl⟩) (z_pVS hI hK hN hSS (z_recv hK hI (zor hG hb0) rfl)) rfl rfl hl.1 rfl (lv_room (Nat.le_of_ble_eq_true rfl)) dX5_takeEither_2 ⟨Nat.zero_le _, Nat.zero_le _⟩) hI (fun r_2 u H locs hw hI => ?_)
  obtain ⟨rfl, rfl⟩ := hw
  have hin_2 : zIn L (zEa (zPa (zby x b L) 2) (zby x b L) p1 cs) := zEa_in zby_e (fun p cs => zPa_in zby_e 2 p cs) _ _ hpL hcs
  refine lv_istore_n (lv' := [(2, .int (if (zEa (zPa (zby x b L) 2) (zby x b L) p1 cs).1 = true then nI 1 else nI 0)), (0, .ref (za G b)), (1, .int (nI 2))]) hx hb dX5_takeEither_5 rfl hl (by decide) rfl (fun ls hl => ?_)
  refine lv_iconst (v := (nI 0)) hx hb dX5_takeEither_6 rfl ?_
  refine lv_istore_n (lv' := [(3, .int (nI 0)), (2, .int (if (zEa (zPa (zby x b L) 2) (zby x b L) p1 cs).1 = true then nI 1 else nI 0)), (0, .ref (za G b)), (1, .int (nI 2))]) hx hb dX5_takeEither_7 rfl hl (by decide) rfl (fun ls hl => ?_)
  have L8 : ∀ (f : Nat) (i : Nat) (r : zPR), (i ≤ 100) → (zLp (zEa (zPa (zby x b L) 2) (zby x b L)) (zby x b L) (nI 124) (-3) (100 - i) r = zEi (zPa (zby x b L) 2) (zby x b L) p1 cs) → (zIn L r) → 101 ≤ i + f → ∀ (H : Heap) (locs : List Loc), zI G (zpz x b r.2.1 r.2.2) A s.heap H locs → ∀ ls : Array Slot, lv_has ls 4 [(0, .ref (za G b)), (1, .int (nI 2)), (2, .int (if r.1 = true then nI 1 else nI 0)), (3, .int (nI i))] → W p l e { frames := 13, cells := 0, slots := 0, locals := 316 } s m ([.ref (za G b), .int (nI 2)] : List Value).toArray below meth c H locs 0 0 (MQ below (va_Qi (fun (r : Int32) (u : zX) => zr3 x b (zEi (zPa (zby x b L) 2) (zby x b L) p1 cs) r u) (fun u t => zJ G u A t.heap) A) ([.ref (za G b), .int (nI 2)] : List Value).toArray s 0 0 A) (F0 m 8 ls []) := by
    intro f
    induction f with
    | zero =>
      intro i r h1 h2 h3 hf
      exact absurd hf (by omega)
    | succ f ih =>
      intro i r h1 h2 h3 hf H locs hI ls hl
      have ih8 := ih
      refine lv_iload_n hx hb dX5_takeEither_8 rfl (lv_at hl 3 rfl) ?_
      refine lv_bipush (v := (nI 100)) hx hb dX5_takeEither_9 rfl ?_
      refine lv_icmp_ge (tgt := 56) hx hb dX5_takeEither_11 (by decide) (fun c_11 => ?_) (fun c_11 => ?_)
      · skip
        rw [zqG (by omega) (by omega)] at c_11
        have hzx : zLp (zEa (zPa (zby x b L) 2) (zby x b L)) (zby x b L) (nI 124) (-3) (100 - i) r = r := by rw [show 100 - i = 0 by omega]; rfl
        have hfin : zEi (zPa (zby x b L) 2) (zby x b L) p1 cs = r := h2.symm.trans hzx
        refine lv_iload_n hx hb dX5_takeEither_56 rfl (lv_at hl 2 rfl) ?_
        exact z_zret hx hb hr hlocks hI (zb01 _) (by rw [hfin]; exact ⟨rfl, rfl⟩) dX5_takeEither_57
      · skip
        rw [zqG (by omega) (by omega)] at c_11
        refine lv_iload_n hx hb dX5_takeEither_14 rfl (lv_at hl 2 rfl) ?_
        refine lv_if_eq (tgt := 56) hx hb dX5_takeEither_15 (by decide) (fun c_15 => ?_) (fun c_15 => ?_)
        · skip
          rw [zb_0] at c_15
          have hzx : zLp (zEa (zPa (zby x b L) 2) (zby x b L)) (zby x b L) (nI 124) (-3) (100 - i) r = r := zLp_x (fun h9 => c_15 h9.1) _
          have hfin : zEi (zPa (zby x b L) 2) (zby x b L) p1 cs = r := h2.symm.trans hzx
          refine lv_iload_n hx hb dX5_takeEither_56 rfl (lv_at hl 2 rfl) ?_
          exact z_zret hx hb hr hlocks hI (zb01 _) (by rw [hfin]; exact ⟨rfl, rfl⟩) dX5_takeEither_57
        · skip
          rw [zb_0, Classical.not_not] at c_15
          refine lv_aload_n hx hb dX5_takeEither_18 rfl (lv_at hl 0 rfl) ?_
          refine lv_bipush (v := (nI 124)) hx hb dX5_takeEither_19 rfl ?_
          refine z_calli (va_runV (As := [.int (nI 124)]) (rest := []) ⟨hx, hb, hml, hown, hts⟩ ((c_X5_takesZ l hG x b L r.2.1 r.2.2 (nI 124) hb0 hL hL9 h3.1) A) (cwV 1 hts gX5_takeEither_X5_takes rfl rfl rfl (by decide +kernel) ⟨Nat.le_of_ble_eq_true rfl, Nat.le_of_ble_eq_true rfl⟩) (z_pV hI hK hN (z_recv hK hI (zor hG hb0) rfl)) rfl rfl hl.1 rfl (lv_room (Nat.le_of_ble_eq_true rfl)) dX5_takeEither_21 ⟨Nat.zero_le _, Nat.zero_le _⟩) hI (fun r_21 u H locs hw hI => ?_)
          obtain ⟨rfl, rfl⟩ := hw
          have hin_21 : zIn L (ztke (zby x b L) (nI 124) r.2.1 r.2.2) := ztke_in zby_e (by decide) h3.1 h3.2
          refine lv_if_eq (tgt := 56) hx hb dX5_takeEither_24 (by decide) (fun c_24 => ?_) (fun c_24 => ?_)
          · skip
            rw [zb_0] at c_24
            have hI : zI G (zpz x b r.2.1 r.2.2) A s.heap H locs := by rw [ztke_f c_24] at hI; exact hI
            have hzx : zLp (zEa (zPa (zby x b L) 2) (zby x b L)) (zby x b L) (nI 124) (-3) (100 - i) r = r := zLp_x (fun h9 => c_24 h9.2) _
            have hfin : zEi (zPa (zby x b L) 2) (zby x b L) p1 cs = r := h2.symm.trans hzx
            refine lv_iload_n hx hb dX5_takeEither_56 rfl (lv_at hl 2 rfl) ?_
            exact z_zret hx hb hr hlocks hI (zb01 _) (by rw [hfin]; exact ⟨rfl, rfl⟩) dX5_takeEither_57
          · skip
            rw [zb_0, Classical.not_not] at c_24
            refine lv_aload_n hx hb dX5_takeEither_27 rfl (lv_at hl 0 rfl) ?_
            refine lv_iload_n hx hb dX5_takeEither_28 rfl (lv_at hl 1 rfl) ?_
            refine z_calli (va_runV (As := [.int (nI 2)]) (rest := []) ⟨hx, hb, hml, hown, hts⟩ ((c_X5_takeEach2 l hG aK aV x b L (ztke (zby x b L) (nI 124) r.2.1 r.2.2).2.1 (ztke (zby x b L) (nI 124) r.2.1 r.2.2).2.2 hb0 hL hL9 htx hin_21.1 hin_21.2) A) (cwV 1 hts gX5_takeEither_X5_takeEach rfl rfl rfl (by decide +kernel) ⟨Nat.le_of_ble_eq_true rfl, Nat.le_of_ble_eq_true rfl⟩) (z_pVS hI hK hN hSS (z_recv hK hI (zor hG hb0) rfl)) rfl rfl hl.1 rfl (lv_room (Nat.le_of_ble_eq_true rfl)) dX5_takeEither_29 ⟨Nat.zero_le _, Nat.zero_le _⟩) hI (fun r_29 u H locs hw hI => ?_)
            obtain ⟨rfl, rfl⟩ := hw
            have hin_29 : zIn L (zEa (zPa (zby x b L) 2) (zby x b L) (ztke (zby x b L) (nI 124) r.2.1 r.2.2).2.1 (ztke (zby x b L) (nI 124) r.2.1 r.2.2).2.2) := zEa_in zby_e (fun p cs => zPa_in zby_e 2 p cs) _ _ hin_21.1 hin_21.2
            refine lv_if_eq (tgt := 48) hx hb dX5_takeEither_32 (by decide) (fun c_32 => ?_) (fun c_32 => ?_)
            · skip
              rw [zb_0] at c_32
              refine lv_iconst (v := (nI 0)) hx hb dX5_takeEither_48 rfl ?_
              refine lv_istore_n (lv' := [(2, .int (nI 0)), (0, .ref (za G b)), (1, .int (nI 2)), (3, .int (nI i))]) hx hb dX5_takeEither_49 rfl hl (by decide) rfl (fun ls hl => ?_)
              refine lv_iinc (v := (nI (i + 1))) (lv' := [(3, .int (nI (i + 1))), (2, .int (nI 0)), (0, .ref (za G b)), (1, .int (nI 2))]) hx hb dX5_takeEither_50 hl (k := 3) rfl (zinc i) (by decide) rfl (fun ls hl => ?_)
              refine lv_goto (tgt := 8) hx hb dX5_takeEither_53 (by decide) ?_
              exact ih8 (i + 1) (zth (zEa (zPa (zby x b L) 2) (zby x b L) (ztke (zby x b L) (nI 124) r.2.1 r.2.2).2.1 (ztke (zby x b L) (nI 124) r.2.1 r.2.2).2.2) (zpt (-3))) (by omega) (by rw [← h2, show 100 - i = 100 - (i + 1) + 1 by omega, zLp, if_pos ⟨c_15, c_24⟩]) (zth_in hin_29 (fun h9 => zpt_in h9.1 h9.2)) (by omega) _ _ (by rw [show (zth (zEa (zPa (zby x b L) 2) (zby x b L) (ztke (zby x b L) (nI 124) r.2.1 r.2.2).2.1 (ztke (zby x b L) (nI 124) r.2.1 r.2.2).2.2) (zpt (-3))) = (zEa (zPa (zby x b L) 2) (zby x b L) (ztke (zby x b L) (nI 124) r.2.1 r.2.2).2.1 (ztke (zby x b L) (nI 124) r.2.1 r.2.2).2.2) from if_neg c_32]; exact hI) ls (by rw [show (zth (zEa (zPa (zby x b L) 2) (zby x b L) (ztke (zby x b L) (nI 124) r.2.1 r.2.2).2.1 (ztke (zby x b L) (nI 124) r.2.1 r.2.2).2.2) (zpt (-3))) = (zEa (zPa (zby x b L) 2) (zby x b L) (ztke (zby x b L) (nI 124) r.2.1 r.2.2).2.1 (ztke (zby x b L) (nI 124) r.2.1 r.2.2).2.2) from if_neg c_32, if_neg c_32]; exact lv_sub hl [2, 3, 1, 0] rfl)
            · skip
              rw [zb_0, Classical.not_not] at c_32
              refine lv_aload_n hx hb dX5_takeEither_35 rfl (lv_at hl 0 rfl) ?_
              refine lv_bipush (v := (-3)) hx hb dX5_takeEither_36 rfl ?_
              refine z_calli (va_runV (As := [.int (-3)]) (rest := []) ⟨hx, hb, hml, hown, hts⟩ ((c_X5_putsZ l hG x b L (zEa (zPa (zby x b L) 2) (zby x b L) (ztke (zby x b L) (nI 124) r.2.1 r.2.2).2.1 (ztke (zby x b L) (nI 124) r.2.1 r.2.2).2.2).2.1 (zEa (zPa (zby x b L) 2) (zby x b L) (ztke (zby x b L) (nI 124) r.2.1 r.2.2).2.1 (ztke (zby x b L) (nI 124) r.2.1 r.2.2).2.2).2.2 (-3) hb0 hin_29.2) A) (cwV 1 hts gX5_takeEither_X5_puts rfl rfl rfl (by decide +kernel) ⟨Nat.le_of_ble_eq_true rfl, Nat.le_of_ble_eq_true rfl⟩) (z_pV hI hK hN (z_recv hK hI (zor hG hb0) rfl)) rfl rfl hl.1 rfl (lv_room (Nat.le_of_ble_eq_true rfl)) dX5_takeEither_38 ⟨Nat.zero_le _, Nat.zero_le _⟩) hI (fun r_38 u H locs hw hI => ?_)
              obtain ⟨rfl, rfl⟩ := hw
              have hin_38 : zIn L (zpt (-3) (zEa (zPa (zby x b L) 2) (zby x b L) (ztke (zby x b L) (nI 124) r.2.1 r.2.2).2.1 (ztke (zby x b L) (nI 124) r.2.1 r.2.2).2.2).2.1 (zEa (zPa (zby x b L) 2) (zby x b L) (ztke (zby x b L) (nI 124) r.2.1 r.2.2).2.1 (ztke (zby x b L) (nI 124) r.2.1 r.2.2).2.2).2.2) := zpt_in hin_29.1 hin_29.2
              refine lv_if_eq (tgt := 48) hx hb dX5_takeEither_41 (by decide) (fun c_41 => ?_) (fun c_41 => ?_)
              · skip
                rw [zb_0] at c_41
                refine lv_iconst (v := (nI 0)) hx hb dX5_takeEither_48 rfl ?_
                refine lv_istore_n (lv' := [(2, .int (nI 0)), (0, .ref (za G b)), (1, .int (nI 2)), (3, .int (nI i))]) hx hb dX5_takeEither_49 rfl hl (by decide) rfl (fun ls hl => ?_)
                refine lv_iinc (v := (nI (i + 1))) (lv' := [(3, .int (nI (i + 1))), (2, .int (nI 0)), (0, .ref (za G b)), (1, .int (nI 2))]) hx hb dX5_takeEither_50 hl (k := 3) rfl (zinc i) (by decide) rfl (fun ls hl => ?_)
                refine lv_goto (tgt := 8) hx hb dX5_takeEither_53 (by decide) ?_
                exact ih8 (i + 1) (zth (zEa (zPa (zby x b L) 2) (zby x b L) (ztke (zby x b L) (nI 124) r.2.1 r.2.2).2.1 (ztke (zby x b L) (nI 124) r.2.1 r.2.2).2.2) (zpt (-3))) (by omega) (by rw [← h2, show 100 - i = 100 - (i + 1) + 1 by omega, zLp, if_pos ⟨c_15, c_24⟩]) (zth_in hin_29 (fun h9 => zpt_in h9.1 h9.2)) (by omega) _ _ (by rw [show (zth (zEa (zPa (zby x b L) 2) (zby x b L) (ztke (zby x b L) (nI 124) r.2.1 r.2.2).2.1 (ztke (zby x b L) (nI 124) r.2.1 r.2.2).2.2) (zpt (-3))) = (zpt (-3) (zEa (zPa (zby x b L) 2) (zby x b L) (ztke (zby x b L) (nI 124) r.2.1 r.2.2).2.1 (ztke (zby x b L) (nI 124) r.2.1 r.2.2).2.2).2.1 (zEa (zPa (zby x b L) 2) (zby x b L) (ztke (zby x b L) (nI 124) r.2.1 r.2.2).2.1 (ztke (zby x b L) (nI 124) r.2.1 r.2.2).2.2).2.2) from if_pos c_32]; exact hI) ls (by rw [show (zth (zEa (zPa (zby x b L) 2) (zby x b L) (ztke (zby x b L) (nI 124) r.2.1 r.2.2).2.1 (ztke (zby x b L) (nI 124) r.2.1 r.2.2).2.2) (zpt (-3))) = (zpt (-3) (zEa (zPa (zby x b L) 2) (zby x b L) (ztke (zby x b L) (nI 124) r.2.1 r.2.2).2.1 (ztke (zby x b L) (nI 124) r.2.1 r.2.2).2.2).2.1 (zEa (zPa (zby x b L) 2) (zby x b L) (ztke (zby x b L) (nI 124) r.2.1 r.2.2).2.1 (ztke (zby x b L) (nI 124) r.2.1 r.2.2).2.2).2.2) from if_pos c_32, if_neg c_41]; exact lv_sub hl [2, 3, 1, 0] rfl)
              · skip
                rw [zb_0, Classical.not_not] at c_41
                refine lv_iconst (v := (nI 1)) hx hb dX5_takeEither_44 rfl ?_
                refine lv_goto (tgt := 49) hx hb dX5_takeEither_45 (by decide) ?_
                refine lv_istore_n (lv' := [(2, .int (nI 1)), (0, .ref (za G b)), (1, .int (nI 2)), (3, .int (nI i))]) hx hb dX5_takeEither_49 rfl hl (by decide) rfl (fun ls hl => ?_)
                refine lv_iinc (v := (nI (i + 1))) (lv' := [(3, .int (nI (i + 1))), (2, .int (nI 1)), (0, .ref (za G b)), (1, .int (nI 2))]) hx hb dX5_takeEither_50 hl (k := 3) rfl (zinc i) (by decide) rfl (fun ls hl => ?_)
                refine lv_goto (tgt := 8) hx hb dX5_takeEither_53 (by decide) ?_
                exact ih8 (i + 1) (zth (zEa (zPa (zby x b L) 2) (zby x b L) (ztke (zby x b L) (nI 124) r.2.1 r.2.2).2.1 (ztke (zby x b L) (nI 124) r.2.1 r.2.2).2.2) (zpt (-3))) (by omega) (by rw [← h2, show 100 - i = 100 - (i + 1) + 1 by omega, zLp, if_pos ⟨c_15, c_24⟩]) (zth_in hin_29 (fun h9 => zpt_in h9.1 h9.2)) (by omega) _ _ (by rw [show (zth (zEa (zPa (zby x b L) 2) (zby x b L) (ztke (zby x b L) (nI 124) r.2.1 r.2.2).2.1 (ztke (zby x b L) (nI 124) r.2.1 r.2.2).2.2) (zpt (-3))) = (zpt (-3) (zEa (zPa (zby x b L) 2) (zby x b L) (ztke (zby x b L) (nI 124) r.2.1 r.2.2).2.1 (ztke (zby x b L) (nI 124) r.2.1 r.2.2).2.2).2.1 (zEa (zPa (zby x b L) 2) (zby x b L) (ztke (zby x b L) (nI 124) r.2.1 r.2.2).2.1 (ztke (zby x b L) (nI 124) r.2.1 r.2.2).2.2).2.2) from if_pos c_32]; exact hI) ls (by rw [show (zth (zEa (zPa (zby x b L) 2) (zby x b L) (ztke (zby x b L) (nI 124) r.2.1 r.2.2).2.1 (ztke (zby x b L) (nI 124) r.2.1 r.2.2).2.2) (zpt (-3))) = (zpt (-3) (zEa (zPa (zby x b L) 2) (zby x b L) (ztke (zby x b L) (nI 124) r.2.1 r.2.2).2.1 (ztke (zby x b L) (nI 124) r.2.1 r.2.2).2.2).2.1 (zEa (zPa (zby x b L) 2) (zby x b L) (ztke (zby x b L) (nI 124) r.2.1 r.2.2).2.1 (ztke (zby x b L) (nI 124) r.2.1 r.2.2).2.2).2.2) from if_pos c_32, if_pos c_41]; exact lv_sub hl [2, 3, 1, 0] rfl)
  exact L8 (101) 0 (zEa (zPa (zby x b L) 2) (zby x b L) p1 cs) (by omega) rfl hin_2 (by omega) _ _ hI ls (lv_sub hl [2, 3, 1, 0] rfl)
set_option maxHeartbeats 1000000 in
set_option maxRecDepth 100000 in
theorem c_X5_takeNot2 (l : Launch) {G : zG} (hG : zOK G) (aK aV : Nat → Nat) (x : zX) (b L p1 : Nat) (cs : List Int32) (hb0 : zRm b) (hL : x.1 b 8 = nI L) (hL9 : L ≤ 100) (htx : zTx x b) (hpL : p1 ≤ L) (hcs : cs.length ≤ 100) : zMiS l yX5_takeNot wsX5_takeNot { frames := 12, cells := 0, slots := 0, locals := 293 } G aK aV [.ref (za G b), .int (nI 2)] (zpz x b p1 cs) (fun (r : Int32) (u : zX) => zr3 x b (zNt (zPa (zby x b L) 2) p1 cs) r u) := by
  intro A
  refine zBodyS (cc := cX5_takeNot) (maxL := 2) (ret := (some .boolean)) (by decide) rfl (Nat.le_of_ble_eq_true rfl) ?_
  intro p e s m below meth c hx hb hml hown hts hr hlocks hK hN hSS hI ls hl
  have hown : s.vm.findClass RX5 = some m.cls := hown
  have hl : lv_has ls 2 [(0, .ref (za G b)), (1, .int (nI 2))] := hl
  refine lv_aload_n hx hb dX5_takeNot_0 rfl (lv_at hl 0 rfl) ?_
  refine lv_iload_n hx hb dX5_takeNot_1 rfl (lv_at hl 1 rfl) ?_
  refine z_calli (va_runV (As := [.int (nI 2)]) (rest := []) ⟨hx, hb, hml, hown, hts⟩ ((c_X5_takePart2 l hG aK aV x b L p1 cs hb0 hL hL9 htx hpL hcs) A) (cwV 1 hts gX5_takeNot_X5_takePart rfl rfl rfl (by decide +kernel) ⟨Nat.le_of_ble_eq_true rfl, Nat.le_of_ble_eq_true rfl⟩) (z_pVS hI hK hN hSS (z_recv hK hI (zor hG hb0) rfl)) rfl rfl hl.1 rfl (lv_room (Nat.le_of_ble_eq_true rfl)) dX5_takeNot_2 ⟨Nat.zero_le _, Nat.zero_le _⟩) hI (fun r_2 u H locs hw hI => ?_)
  obtain ⟨rfl, rfl⟩ := hw
  have hin_2 : zIn L (zPa (zby x b L) 2 p1 cs) := zPa_in zby_e 2 _ _ hpL hcs
  refine lv_if_eq (tgt := 20) hx hb dX5_takeNot_5 (by decide) (fun c_5 => ?_) (fun c_5 => ?_)
  · skip
    rw [zb_0] at c_5
    refine lv_iconst (v := (nI 0)) hx hb dX5_takeNot_20 rfl ?_
    exact z_zret hx hb hr hlocks hI (Or.inl rfl) ((by rw [show zNt (zPa (zby x b L) 2) p1 cs = _ from if_neg c_5]; exact ⟨rfl, if_neg c_5⟩)) dX5_takeNot_21
  · skip
    rw [zb_0, Classical.not_not] at c_5
    refine lv_aload_n hx hb dX5_takeNot_8 rfl (lv_at hl 0 rfl) ?_
    refine lv_iconst (v := (-1)) hx hb dX5_takeNot_9 rfl ?_
    refine z_calli (va_runV (As := [.int (-1)]) (rest := []) ⟨hx, hb, hml, hown, hts⟩ ((c_X5_putsZ l hG x b L (zPa (zby x b L) 2 p1 cs).2.1 (zPa (zby x b L) 2 p1 cs).2.2 (-1) hb0 hin_2.2) A) (cwV 1 hts gX5_takeNot_X5_puts rfl rfl rfl (by decide +kernel) ⟨Nat.le_of_ble_eq_true rfl, Nat.le_of_ble_eq_true rfl⟩) (z_pV hI hK hN (z_recv hK hI (zor hG hb0) rfl)) rfl rfl hl.1 rfl (lv_room (Nat.le_of_ble_eq_true rfl)) dX5_takeNot_10 ⟨Nat.zero_le _, Nat.zero_le _⟩) hI (fun r_10 u H locs hw hI => ?_)
    obtain ⟨rfl, rfl⟩ := hw
    have hin_10 : zIn L (zpt (-1) (zPa (zby x b L) 2 p1 cs).2.1 (zPa (zby x b L) 2 p1 cs).2.2) := zpt_in hin_2.1 hin_2.2
    refine lv_if_eq (tgt := 20) hx hb dX5_takeNot_13 (by decide) (fun c_13 => ?_) (fun c_13 => ?_)
    · skip
      rw [zb_0] at c_13
      refine lv_iconst (v := (nI 0)) hx hb dX5_takeNot_20 rfl ?_
      exact z_zret hx hb hr hlocks hI (Or.inl rfl) ((by rw [show zNt (zPa (zby x b L) 2) p1 cs = _ from if_pos c_5]; exact ⟨rfl, if_neg c_13⟩)) dX5_takeNot_21
    · skip
      rw [zb_0, Classical.not_not] at c_13
      refine lv_iconst (v := (nI 1)) hx hb dX5_takeNot_16 rfl ?_
      refine lv_goto (tgt := 21) hx hb dX5_takeNot_17 (by decide) ?_
      exact z_zret hx hb hr hlocks hI (Or.inr rfl) ((by rw [show zNt (zPa (zby x b L) 2) p1 cs = _ from if_pos c_5]; exact ⟨rfl, if_pos c_13⟩)) dX5_takeNot_21
set_option maxHeartbeats 1000000 in
set_option maxRecDepth 100000 in
theorem c_X5_takePart3 (l : Launch) {G : zG} (hG : zOK G) (aK aV : Nat → Nat) (x : zX) (b L p1 : Nat) (cs : List Int32) (hb0 : zRm b) (hL : x.1 b 8 = nI L) (hL9 : L ≤ 100) (htx : zTx x b) (hpL : p1 ≤ L) (hcs : cs.length ≤ 100) : zMiS l yX5_takePart wsX5_takePart { frames := 14, cells := 0, slots := 0, locals := 339 } G aK aV [.ref (za G b), .int (nI 1)] (zpz x b p1 cs) (fun (r : Int32) (u : zX) => zr3 x b (zPa (zby x b L) 3 p1 cs) r u) := by
  intro A
  refine zBodyS (cc := cX5_takePart) (maxL := 5) (ret := (some .boolean)) (by decide) rfl (Nat.le_of_ble_eq_true rfl) ?_
  intro p e s m below meth c hx hb hml hown hts hr hlocks hK hN hSS hI ls hl
  have hown : s.vm.findClass RX5 = some m.cls := hown
  have hl : lv_has ls 5 [(0, .ref (za G b)), (1, .int (nI 1))] := hl
  refine lv_iload_n hx hb dX5_takePart_0 rfl (lv_at hl 1 rfl) ?_
  refine lv_iconst (v := (nI 4)) hx hb dX5_takePart_1 rfl ?_
  refine lv_icmp_ge (tgt := 22) hx hb dX5_takePart_2 (by decide) (fun c_2 => absurd c_2 (by decide)) (fun c_2 => ?_)
  refine lv_aload_n hx hb dX5_takePart_5 rfl (lv_at hl 0 rfl) ?_
  refine lv_bipush (v := (nI 33)) hx hb dX5_takePart_6 rfl ?_
  refine z_calli (va_runV (As := [.int (nI 33)]) (rest := []) ⟨hx, hb, hml, hown, hts⟩ ((c_X5_takesZ l hG x b L p1 cs (nI 33) hb0 hL hL9 hpL) A) (cwV 1 hts gX5_takePart_X5_takes rfl rfl rfl (by decide +kernel) ⟨Nat.le_of_ble_eq_true rfl, Nat.le_of_ble_eq_true rfl⟩) (z_pV hI hK hN (z_recv hK hI (zor hG hb0) rfl)) rfl rfl hl.1 rfl (lv_room (Nat.le_of_ble_eq_true rfl)) dX5_takePart_8 ⟨Nat.zero_le _, Nat.zero_le _⟩) hI (fun r_8 u H locs hw hI => ?_)
  obtain ⟨rfl, rfl⟩ := hw
  have hin_8 : zIn L (ztke (zby x b L) (nI 33) p1 cs) := ztke_in zby_e (by decide) hpL hcs
  refine lv_if_eq (tgt := 22) hx hb dX5_takePart_11 (by decide) (fun c_11 => ?_) (fun c_11 => ?_)
  · skip
    rw [zb_0] at c_11
    have hI : zI G (zpz x b p1 cs) A s.heap H locs := by rw [ztke_f c_11] at hI; exact hI
    refine lv_iload_n hx hb dX5_takePart_22 rfl (lv_at hl 1 rfl) ?_
    refine lv_iconst (v := (nI 4)) hx hb dX5_takePart_23 rfl ?_
    refine lv_icmp_ge (tgt := 61) hx hb dX5_takePart_24 (by decide) (fun c_24 => absurd c_24 (by decide)) (fun c_24 => ?_)
    refine lv_aload_n hx hb dX5_takePart_27 rfl (lv_at hl 0 rfl) ?_
    refine lv_bipush (v := (nI 40)) hx hb dX5_takePart_28 rfl ?_
    refine z_calli (va_runV (As := [.int (nI 40)]) (rest := []) ⟨hx, hb, hml, hown, hts⟩ ((c_X5_takesZ l hG x b L p1 cs (nI 40) hb0 hL hL9 hpL) A) (cwV 1 hts gX5_takePart_X5_takes rfl rfl rfl (by decide +kernel) ⟨Nat.le_of_ble_eq_true rfl, Nat.le_of_ble_eq_true rfl⟩) (z_pV hI hK hN (z_recv hK hI (zor hG hb0) rfl)) rfl rfl hl.1 rfl (lv_room (Nat.le_of_ble_eq_true rfl)) dX5_takePart_30 ⟨Nat.zero_le _, Nat.zero_le _⟩) hI (fun r_30 u H locs hw hI => ?_)
    obtain ⟨rfl, rfl⟩ := hw
    have hin_30 : zIn L (ztke (zby x b L) (nI 40) p1 cs) := ztke_in zby_e (by decide) hpL hcs
    refine lv_if_eq (tgt := 61) hx hb dX5_takePart_33 (by decide) (fun c_33 => ?_) (fun c_33 => ?_)
    · skip
      rw [zb_0] at c_33
      have hI : zI G (zpz x b p1 cs) A s.heap H locs := by rw [ztke_f c_33] at hI; exact hI
      refine lv_aload_n hx hb dX5_takePart_61 rfl (lv_at hl 0 rfl) ?_
      refine va_ldcS hx hb hown (hSS.1 4 (131, "abkjtwr") rfl) dX5_takePart_62 ?_
      refine z_calli (va_runV (As := [.ref (aK 4)]) (rest := []) ⟨hx, hb, hml, hown, hts⟩ ((c_X5_takeOneOfZ l hG aK aV x b L p1 4 cs hb0 hL hL9 htx (by decide) hpL) A) (cwV 1 hts gX5_takePart_X5_takeOneOf rfl rfl rfl (by decide +kernel) ⟨Nat.le_of_ble_eq_true rfl, Nat.le_of_ble_eq_true rfl⟩) (z_pVS hI hK hN hSS (z_recv hK hI (zor hG hb0) rfl)) rfl rfl hl.1 rfl (lv_room (Nat.le_of_ble_eq_true rfl)) dX5_takePart_64 ⟨Nat.zero_le _, Nat.zero_le _⟩) hI (fun r_64 u H locs hw hI => ?_)
      obtain ⟨rfl, rfl⟩ := hw
      refine lv_istore_n (lv' := [(2, .int (zone 4 ((zby x b L) p1))), (0, .ref (za G b)), (1, .int (nI 1))]) hx hb dX5_takePart_67 rfl hl (by decide) rfl (fun ls hl => ?_)
      refine lv_iload_n hx hb dX5_takePart_68 rfl (lv_at hl 0 rfl) ?_
      refine lv_if_ge (tgt := 76) hx hb dX5_takePart_69 (by decide) (fun c_69 => ?_) (fun c_69 => ?_)
      · skip
        have hI : zI G (zpz x b (p1 + 1) cs) A s.heap H locs := by rw [if_neg (Int32.not_lt.mpr c_69)] at hI; exact hI
        have hp6 : p1 + 1 ≤ L := zone_n zby_e (Int32.not_lt.mpr c_69)
        refine lv_aload_n hx hb dX5_takePart_76 rfl (lv_at hl 1 rfl) ?_
        refine va_ldcS hx hb hown (hSS.1 5 (137, "<=>") rfl) dX5_takePart_77 ?_
        refine z_calli (va_runV (As := [.ref (aK 5)]) (rest := []) ⟨hx, hb, hml, hown, hts⟩ ((c_X5_takeOneOfZ l hG aK aV x b L (p1 + 1) 5 cs hb0 hL hL9 htx (by decide) hp6) A) (cwV 1 hts gX5_takePart_X5_takeOneOf rfl rfl rfl (by decide +kernel) ⟨Nat.le_of_ble_eq_true rfl, Nat.le_of_ble_eq_true rfl⟩) (z_pVS hI hK hN hSS (z_recv hK hI (zor hG hb0) rfl)) rfl rfl hl.1 rfl (lv_room (Nat.le_of_ble_eq_true rfl)) dX5_takePart_79 ⟨Nat.zero_le _, Nat.zero_le _⟩) hI (fun r_79 u H locs hw hI => ?_)
        obtain ⟨rfl, rfl⟩ := hw
        refine lv_istore_n (lv' := [(3, .int (zone 5 ((zby x b L) (p1 + 1)))), (2, .int (zone 4 ((zby x b L) p1))), (0, .ref (za G b)), (1, .int (nI 1))]) hx hb dX5_takePart_82 rfl hl (by decide) rfl (fun ls hl => ?_)
        refine lv_iload_n hx hb dX5_takePart_83 rfl (lv_at hl 0 rfl) ?_
        refine lv_if_ge (tgt := 91) hx hb dX5_takePart_84 (by decide) (fun c_84 => ?_) (fun c_84 => ?_)
        · skip
          have hI : zI G (zpz x b (p1 + 2) cs) A s.heap H locs := by rw [if_neg (Int32.not_lt.mpr c_84)] at hI; exact hI
          have hp8 : p1 + 2 ≤ L := zone_n zby_e (Int32.not_lt.mpr c_84)
          refine lv_aload_n hx hb dX5_takePart_91 rfl (lv_at hl 2 rfl) ?_
          refine z_calli (va_runV (As := []) (rest := []) ⟨hx, hb, hml, hown, hts⟩ ((c_X5_takeNumberZ l hG x b L (p1 + 2) cs hb0 hL hL9 hp8) A) (cwV 0 hts gX5_takePart_X5_takeNumber rfl rfl rfl (by decide +kernel) ⟨Nat.le_of_ble_eq_true rfl, Nat.le_of_ble_eq_true rfl⟩) (z_pV hI hK hN (z_recv hK hI (zor hG hb0) rfl)) rfl rfl hl.1 rfl (lv_room (Nat.le_of_ble_eq_true rfl)) dX5_takePart_92 ⟨Nat.zero_le _, Nat.zero_le _⟩) hI (fun r_92 u H locs hw hI => ?_)
          obtain ⟨rfl, rfl⟩ := hw
          have hin_92 : zIn L (true, (znum (zby x b L) (p1 + 2)).2, cs) := ⟨znum_in zby_e hp8, hcs⟩
          refine lv_istore (lv' := [(4, .int ((znum (zby x b L) (p1 + 2)).1)), (3, .int (zone 5 ((zby x b L) (p1 + 1)))), (2, .int (zone 4 ((zby x b L) p1))), (0, .ref (za G b)), (1, .int (nI 1))]) hx hb dX5_takePart_95 hl (by decide) rfl (fun ls hl => ?_)
          refine lv_iload hx hb dX5_takePart_97 (lv_at hl 0 rfl) ?_
          refine lv_if_lt (tgt := 124) hx hb dX5_takePart_99 (by decide) (fun c_99 => ?_) (fun c_99 => ?_)
          · skip
            have hI : zI G (zpz x b (p1 + 2) cs) A s.heap H locs := by rw [znum_n c_99] at hI; exact hI
            refine lv_iconst (v := (nI 0)) hx hb dX5_takePart_124 rfl ?_
            exact z_zret hx hb hr hlocks hI (Or.inl rfl) ((by rw [show zPa (zby x b L) 3 p1 cs = _ from (if_neg c_11).trans ((if_neg c_33).trans ((if_neg (Int32.not_lt.mpr c_69)).trans ((if_neg (Int32.not_lt.mpr c_84)).trans (if_pos c_99))))]; exact ⟨rfl, rfl⟩)) dX5_takePart_125
          · skip
            refine lv_aload_n hx hb dX5_takePart_102 rfl (lv_at hl 3 rfl) ?_
            refine lv_iload_n hx hb dX5_takePart_103 rfl (lv_at hl 2 rfl) ?_
            refine lv_iconst (v := (nI 3)) hx hb dX5_takePart_104 rfl ?_
            refine z_imul (v := (zone 4 ((zby x b L) p1) * nI 3)) hx hb rfl dX5_takePart_105 ?_
            refine lv_iload_n hx hb dX5_takePart_106 rfl (lv_at hl 1 rfl) ?_
            refine lv_iadd hx hb dX5_takePart_107 ?_
            refine lv_bipush (v := (nI 100)) hx hb dX5_takePart_108 rfl ?_
            refine lv_imul hx hb dX5_takePart_110 ?_
            refine lv_iload hx hb dX5_takePart_111 (lv_at hl 0 rfl) ?_
            refine lv_iadd hx hb dX5_takePart_113 ?_
            refine z_calli (va_runV (As := [.int ((((zone 4 ((zby x b L) p1) * nI 3) + (zone 5 ((zby x b L) (p1 + 1)))) * (nI 100)) + ((znum (zby x b L) (p1 + 2)).1))]) (rest := []) ⟨hx, hb, hml, hown, hts⟩ ((c_X5_putsZ l hG x b L (znum (zby x b L) (p1 + 2)).2 cs ((((zone 4 ((zby x b L) p1) * nI 3) + (zone 5 ((zby x b L) (p1 + 1)))) * (nI 100)) + ((znum (zby x b L) (p1 + 2)).1)) hb0 hin_92.2) A) (cwV 1 hts gX5_takePart_X5_puts rfl rfl rfl (by decide +kernel) ⟨Nat.le_of_ble_eq_true rfl, Nat.le_of_ble_eq_true rfl⟩) (z_pV hI hK hN (z_recv hK hI (zor hG hb0) rfl)) rfl rfl hl.1 rfl (lv_room (Nat.le_of_ble_eq_true rfl)) dX5_takePart_114 ⟨Nat.zero_le _, Nat.zero_le _⟩) hI (fun r_114 u H locs hw hI => ?_)
            obtain ⟨rfl, rfl⟩ := hw
            have hin_114 : zIn L (zpt ((((zone 4 ((zby x b L) p1) * nI 3) + (zone 5 ((zby x b L) (p1 + 1)))) * (nI 100)) + ((znum (zby x b L) (p1 + 2)).1)) (znum (zby x b L) (p1 + 2)).2 cs) := zpt_in hin_92.1 hin_92.2
            refine lv_if_eq (tgt := 124) hx hb dX5_takePart_117 (by decide) (fun c_117 => ?_) (fun c_117 => ?_)
            · skip
              rw [zb_0] at c_117
              refine lv_iconst (v := (nI 0)) hx hb dX5_takePart_124 rfl ?_
              exact z_zret hx hb hr hlocks hI (Or.inl rfl) ((by rw [show zPa (zby x b L) 3 p1 cs = _ from (if_neg c_11).trans ((if_neg c_33).trans ((if_neg (Int32.not_lt.mpr c_69)).trans ((if_neg (Int32.not_lt.mpr c_84)).trans (if_neg c_99))))]; exact ⟨rfl, if_neg c_117⟩)) dX5_takePart_125
            · skip
              rw [zb_0, Classical.not_not] at c_117
              refine lv_iconst (v := (nI 1)) hx hb dX5_takePart_120 rfl ?_
              refine lv_goto (tgt := 125) hx hb dX5_takePart_121 (by decide) ?_
              exact z_zret hx hb hr hlocks hI (Or.inr rfl) ((by rw [show zPa (zby x b L) 3 p1 cs = _ from (if_neg c_11).trans ((if_neg c_33).trans ((if_neg (Int32.not_lt.mpr c_69)).trans ((if_neg (Int32.not_lt.mpr c_84)).trans (if_neg c_99))))]; exact ⟨rfl, if_pos c_117⟩)) dX5_takePart_125
        · skip
          have hI : zI G (zpz x b (p1 + 1) cs) A s.heap H locs := by rw [if_pos (Int32.not_le.mp c_84)] at hI; exact hI
          refine lv_iconst (v := (-1)) hx hb dX5_takePart_87 rfl ?_
          refine lv_goto (tgt := 95) hx hb dX5_takePart_88 (by decide) ?_
          refine lv_istore (lv' := [(4, .int (-1)), (3, .int (zone 5 ((zby x b L) (p1 + 1)))), (2, .int (zone 4 ((zby x b L) p1))), (0, .ref (za G b)), (1, .int (nI 1))]) hx hb dX5_takePart_95 hl (by decide) rfl (fun ls hl => ?_)
          refine lv_iload hx hb dX5_takePart_97 (lv_at hl 0 rfl) ?_
          refine lv_if_lt (tgt := 124) hx hb dX5_takePart_99 (by decide) (fun c_99 => ?_) (fun c_99 => ?_)
          · skip
            refine lv_iconst (v := (nI 0)) hx hb dX5_takePart_124 rfl ?_
            exact z_zret hx hb hr hlocks hI (Or.inl rfl) ((by rw [show zPa (zby x b L) 3 p1 cs = _ from (if_neg c_11).trans ((if_neg c_33).trans ((if_neg (Int32.not_lt.mpr c_69)).trans (if_pos (Int32.not_le.mp c_84))))]; exact ⟨rfl, rfl⟩)) dX5_takePart_125
          · skip
            exact absurd (by decide) c_99
      · skip
        have hI : zI G (zpz x b p1 cs) A s.heap H locs := by rw [if_pos (Int32.not_le.mp c_69)] at hI; exact hI
        refine lv_iconst (v := (-1)) hx hb dX5_takePart_72 rfl ?_
        refine lv_goto (tgt := 82) hx hb dX5_takePart_73 (by decide) ?_
        refine lv_istore_n (lv' := [(3, .int (-1)), (2, .int (zone 4 ((zby x b L) p1))), (0, .ref (za G b)), (1, .int (nI 1))]) hx hb dX5_takePart_82 rfl hl (by decide) rfl (fun ls hl => ?_)
        refine lv_iload_n hx hb dX5_takePart_83 rfl (lv_at hl 0 rfl) ?_
        refine lv_if_ge (tgt := 91) hx hb dX5_takePart_84 (by decide) (fun c_84 => ?_) (fun c_84 => ?_)
        · skip
          exact absurd c_84 (by decide)
        · skip
          refine lv_iconst (v := (-1)) hx hb dX5_takePart_87 rfl ?_
          refine lv_goto (tgt := 95) hx hb dX5_takePart_88 (by decide) ?_
          refine lv_istore (lv' := [(4, .int (-1)), (3, .int (-1)), (2, .int (zone 4 ((zby x b L) p1))), (0, .ref (za G b)), (1, .int (nI 1))]) hx hb dX5_takePart_95 hl (by decide) rfl (fun ls hl => ?_)
          refine lv_iload hx hb dX5_takePart_97 (lv_at hl 0 rfl) ?_
          refine lv_if_lt (tgt := 124) hx hb dX5_takePart_99 (by decide) (fun c_99 => ?_) (fun c_99 => ?_)
          · skip
            refine lv_iconst (v := (nI 0)) hx hb dX5_takePart_124 rfl ?_
            exact z_zret hx hb hr hlocks hI (Or.inl rfl) ((by rw [show zPa (zby x b L) 3 p1 cs = _ from (if_neg c_11).trans ((if_neg c_33).trans (if_pos (Int32.not_le.mp c_69)))]; exact ⟨rfl, rfl⟩)) dX5_takePart_125
          · skip
            exact absurd (by decide) c_99
    · skip
      rw [zb_0, Classical.not_not] at c_33
      refine lv_aload_n hx hb dX5_takePart_36 rfl (lv_at hl 0 rfl) ?_
      refine lv_iload_n hx hb dX5_takePart_37 rfl (lv_at hl 1 rfl) ?_
      refine lv_iconst (v := (nI 1)) hx hb dX5_takePart_38 rfl ?_
      refine z_iadd (v := (nI 2)) hx hb (nI_add 1 1) dX5_takePart_39 ?_
      refine z_calli (va_runV (As := [.int (nI 2)]) (rest := []) ⟨hx, hb, hml, hown, hts⟩ ((c_X5_takeEither2 l hG aK aV x b L (ztke (zby x b L) (nI 40) p1 cs).2.1 (ztke (zby x b L) (nI 40) p1 cs).2.2 hb0 hL hL9 htx hin_30.1 hin_30.2) A) (cwV 1 hts gX5_takePart_X5_takeEither rfl rfl rfl (by decide +kernel) ⟨Nat.le_of_ble_eq_true rfl, Nat.le_of_ble_eq_true rfl⟩) (z_pVS hI hK hN hSS (z_recv hK hI (zor hG hb0) rfl)) rfl rfl hl.1 rfl (lv_room (Nat.le_of_ble_eq_true rfl)) dX5_takePart_40 ⟨Nat.zero_le _, Nat.zero_le _⟩) hI (fun r_40 u H locs hw hI => ?_)
      obtain ⟨rfl, rfl⟩ := hw
      have hin_40 : zIn L (zEi (zPa (zby x b L) 2) (zby x b L) (ztke (zby x b L) (nI 40) p1 cs).2.1 (ztke (zby x b L) (nI 40) p1 cs).2.2) := zEi_in zby_e (fun p cs => zPa_in zby_e 2 p cs) _ _ hin_30.1 hin_30.2
      refine lv_if_eq (tgt := 59) hx hb dX5_takePart_43 (by decide) (fun c_43 => ?_) (fun c_43 => ?_)
      · skip
        rw [zb_0] at c_43
        refine lv_iconst (v := (nI 0)) hx hb dX5_takePart_59 rfl ?_
        exact z_zret hx hb hr hlocks hI (Or.inl rfl) ((by rw [show zPa (zby x b L) 3 p1 cs = _ from (if_neg c_11).trans ((if_pos c_33).trans (if_neg c_43))]; exact ⟨rfl, if_neg c_43⟩)) dX5_takePart_60
      · skip
        rw [zb_0, Classical.not_not] at c_43
        refine lv_aload_n hx hb dX5_takePart_46 rfl (lv_at hl 0 rfl) ?_
        refine lv_bipush (v := (nI 41)) hx hb dX5_takePart_47 rfl ?_
        refine z_calli (va_runV (As := [.int (nI 41)]) (rest := []) ⟨hx, hb, hml, hown, hts⟩ ((c_X5_takesZ l hG x b L (zEi (zPa (zby x b L) 2) (zby x b L) (ztke (zby x b L) (nI 40) p1 cs).2.1 (ztke (zby x b L) (nI 40) p1 cs).2.2).2.1 (zEi (zPa (zby x b L) 2) (zby x b L) (ztke (zby x b L) (nI 40) p1 cs).2.1 (ztke (zby x b L) (nI 40) p1 cs).2.2).2.2 (nI 41) hb0 hL hL9 hin_40.1) A) (cwV 1 hts gX5_takePart_X5_takes rfl rfl rfl (by decide +kernel) ⟨Nat.le_of_ble_eq_true rfl, Nat.le_of_ble_eq_true rfl⟩) (z_pV hI hK hN (z_recv hK hI (zor hG hb0) rfl)) rfl rfl hl.1 rfl (lv_room (Nat.le_of_ble_eq_true rfl)) dX5_takePart_49 ⟨Nat.zero_le _, Nat.zero_le _⟩) hI (fun r_49 u H locs hw hI => ?_)
        obtain ⟨rfl, rfl⟩ := hw
        have hin_49 : zIn L (ztke (zby x b L) (nI 41) (zEi (zPa (zby x b L) 2) (zby x b L) (ztke (zby x b L) (nI 40) p1 cs).2.1 (ztke (zby x b L) (nI 40) p1 cs).2.2).2.1 (zEi (zPa (zby x b L) 2) (zby x b L) (ztke (zby x b L) (nI 40) p1 cs).2.1 (ztke (zby x b L) (nI 40) p1 cs).2.2).2.2) := ztke_in zby_e (by decide) hin_40.1 hin_40.2
        refine lv_if_eq (tgt := 59) hx hb dX5_takePart_52 (by decide) (fun c_52 => ?_) (fun c_52 => ?_)
        · skip
          rw [zb_0] at c_52
          refine lv_iconst (v := (nI 0)) hx hb dX5_takePart_59 rfl ?_
          exact z_zret hx hb hr hlocks hI (Or.inl rfl) ((by rw [show zPa (zby x b L) 3 p1 cs = _ from (if_neg c_11).trans ((if_pos c_33).trans (if_pos c_43))]; exact ⟨rfl, if_neg c_52⟩)) dX5_takePart_60
        · skip
          rw [zb_0, Classical.not_not] at c_52
          refine lv_iconst (v := (nI 1)) hx hb dX5_takePart_55 rfl ?_
          refine lv_goto (tgt := 60) hx hb dX5_takePart_56 (by decide) ?_
          exact z_zret hx hb hr hlocks hI (Or.inr rfl) ((by rw [show zPa (zby x b L) 3 p1 cs = _ from (if_neg c_11).trans ((if_pos c_33).trans (if_pos c_43))]; exact ⟨rfl, if_pos c_52⟩)) dX5_takePart_60
  · skip
    rw [zb_0, Classical.not_not] at c_11
    refine lv_aload_n hx hb dX5_takePart_14 rfl (lv_at hl 0 rfl) ?_
    refine lv_iload_n hx hb dX5_takePart_15 rfl (lv_at hl 1 rfl) ?_
    refine lv_iconst (v := (nI 1)) hx hb dX5_takePart_16 rfl ?_
    refine z_iadd (v := (nI 2)) hx hb (nI_add 1 1) dX5_takePart_17 ?_
    refine z_calli (va_runV (As := [.int (nI 2)]) (rest := []) ⟨hx, hb, hml, hown, hts⟩ ((c_X5_takeNot2 l hG aK aV x b L (ztke (zby x b L) (nI 33) p1 cs).2.1 (ztke (zby x b L) (nI 33) p1 cs).2.2 hb0 hL hL9 htx hin_8.1 hin_8.2) A) (cwV 1 hts gX5_takePart_X5_takeNot rfl rfl rfl (by decide +kernel) ⟨Nat.le_of_ble_eq_true rfl, Nat.le_of_ble_eq_true rfl⟩) (z_pVS hI hK hN hSS (z_recv hK hI (zor hG hb0) rfl)) rfl rfl hl.1 rfl (lv_room (Nat.le_of_ble_eq_true rfl)) dX5_takePart_18 ⟨Nat.zero_le _, Nat.zero_le _⟩) hI (fun r_18 u H locs hw hI => ?_)
    obtain ⟨rfl, rfl⟩ := hw
    have hin_18 : zIn L (zNt (zPa (zby x b L) 2) (ztke (zby x b L) (nI 33) p1 cs).2.1 (ztke (zby x b L) (nI 33) p1 cs).2.2) := zNt_in (fun p cs => zPa_in zby_e 2 p cs) _ _ hin_8.1 hin_8.2
    exact z_zret hx hb hr hlocks hI (zb01 _) ((by rw [show zPa (zby x b L) 3 p1 cs = _ from if_pos (Classical.not_not.mp (fun h9 => h9 c_11))]; exact ⟨rfl, rfl⟩)) dX5_takePart_21
set_option maxHeartbeats 1000000 in
set_option maxRecDepth 100000 in
theorem c_X5_takeEach3 (l : Launch) {G : zG} (hG : zOK G) (aK aV : Nat → Nat) (x : zX) (b L p1 : Nat) (cs : List Int32) (hb0 : zRm b) (hL : x.1 b 8 = nI L) (hL9 : L ≤ 100) (htx : zTx x b) (hpL : p1 ≤ L) (hcs : cs.length ≤ 100) : zMiS l yX5_takeEach wsX5_takeEach { frames := 15, cells := 0, slots := 0, locals := 363 } G aK aV [.ref (za G b), .int (nI 1)] (zpz x b p1 cs) (fun (r : Int32) (u : zX) => zr3 x b (zEa (zPa (zby x b L) 3) (zby x b L) p1 cs) r u) := by
  intro A
  refine zBodyS (cc := cX5_takeEach) (maxL := 4) (ret := (some .boolean)) (by decide) rfl (Nat.le_of_ble_eq_true rfl) ?_
  intro p e s m below meth c hx hb hml hown hts hr hlocks hK hN hSS hI ls hl
  have hown : s.vm.findClass RX5 = some m.cls := hown
  have hl : lv_has ls 4 [(0, .ref (za G b)), (1, .int (nI 1))] := hl
  refine lv_aload_n hx hb dX5_takeEach_0 rfl (lv_at hl 0 rfl) ?_
  refine lv_iload_n hx hb dX5_takeEach_1 rfl (lv_at hl 1 rfl) ?_
  refine z_calli (va_runV (As := [.int (nI 1)]) (rest := []) ⟨hx, hb, hml, hown, hts⟩ ((c_X5_takePart3 l hG aK aV x b L p1 cs hb0 hL hL9 htx hpL hcs) A) (cwV 1 hts gX5_takeEach_X5_takePart rfl rfl rfl (by decide +kernel) ⟨Nat.le_of_ble_eq_true rfl, Nat.le_of_ble_eq_true rfl⟩) (z_pVS hI hK hN hSS (z_recv hK hI (zor hG hb0) rfl)) rfl rfl hl.1 rfl (lv_room (Nat.le_of_ble_eq_true rfl)) dX5_takeEach_2 ⟨Nat.zero_le _, Nat.zero_le _⟩) hI (fun r_2 u H locs hw hI => ?_)
  obtain ⟨rfl, rfl⟩ := hw
  have hin_2 : zIn L (zPa (zby x b L) 3 p1 cs) := zPa_in zby_e 3 _ _ hpL hcs
  refine lv_istore_n (lv' := [(2, .int (if (zPa (zby x b L) 3 p1 cs).1 = true then nI 1 else nI 0)), (0, .ref (za G b)), (1, .int (nI 1))]) hx hb dX5_takeEach_5 rfl hl (by decide) rfl (fun ls hl => ?_)
  refine lv_iconst (v := (nI 0)) hx hb dX5_takeEach_6 rfl ?_
  refine lv_istore_n (lv' := [(3, .int (nI 0)), (2, .int (if (zPa (zby x b L) 3 p1 cs).1 = true then nI 1 else nI 0)), (0, .ref (za G b)), (1, .int (nI 1))]) hx hb dX5_takeEach_7 rfl hl (by decide) rfl (fun ls hl => ?_)
  have L8 : ∀ (f : Nat) (i : Nat) (r : zPR), (i ≤ 100) → (zLp (zPa (zby x b L) 3) (zby x b L) (nI 38) (-2) (100 - i) r = zEa (zPa (zby x b L) 3) (zby x b L) p1 cs) → (zIn L r) → 101 ≤ i + f → ∀ (H : Heap) (locs : List Loc), zI G (zpz x b r.2.1 r.2.2) A s.heap H locs → ∀ ls : Array Slot, lv_has ls 4 [(0, .ref (za G b)), (1, .int (nI 1)), (2, .int (if r.1 = true then nI 1 else nI 0)), (3, .int (nI i))] → W p l e { frames := 15, cells := 0, slots := 0, locals := 363 } s m ([.ref (za G b), .int (nI 1)] : List Value).toArray below meth c H locs 0 0 (MQ below (va_Qi (fun (r : Int32) (u : zX) => zr3 x b (zEa (zPa (zby x b L) 3) (zby x b L) p1 cs) r u) (fun u t => zJ G u A t.heap) A) ([.ref (za G b), .int (nI 1)] : List Value).toArray s 0 0 A) (F0 m 8 ls []) := by
    intro f
    induction f with
    | zero =>
      intro i r h1 h2 h3 hf
      exact absurd hf (by omega)
    | succ f ih =>
      intro i r h1 h2 h3 hf H locs hI ls hl
      have ih8 := ih
      refine lv_iload_n hx hb dX5_takeEach_8 rfl (lv_at hl 3 rfl) ?_
      refine lv_bipush (v := (nI 100)) hx hb dX5_takeEach_9 rfl ?_
      refine lv_icmp_ge (tgt := 56) hx hb dX5_takeEach_11 (by decide) (fun c_11 => ?_) (fun c_11 => ?_)
      · skip
        rw [zqG (by omega) (by omega)] at c_11
        have hzx : zLp (zPa (zby x b L) 3) (zby x b L) (nI 38) (-2) (100 - i) r = r := by rw [show 100 - i = 0 by omega]; rfl
        have hfin : zEa (zPa (zby x b L) 3) (zby x b L) p1 cs = r := h2.symm.trans hzx
        refine lv_iload_n hx hb dX5_takeEach_56 rfl (lv_at hl 2 rfl) ?_
        exact z_zret hx hb hr hlocks hI (zb01 _) (by rw [hfin]; exact ⟨rfl, rfl⟩) dX5_takeEach_57
      · skip
        rw [zqG (by omega) (by omega)] at c_11
        refine lv_iload_n hx hb dX5_takeEach_14 rfl (lv_at hl 2 rfl) ?_
        refine lv_if_eq (tgt := 56) hx hb dX5_takeEach_15 (by decide) (fun c_15 => ?_) (fun c_15 => ?_)
        · skip
          rw [zb_0] at c_15
          have hzx : zLp (zPa (zby x b L) 3) (zby x b L) (nI 38) (-2) (100 - i) r = r := zLp_x (fun h9 => c_15 h9.1) _
          have hfin : zEa (zPa (zby x b L) 3) (zby x b L) p1 cs = r := h2.symm.trans hzx
          refine lv_iload_n hx hb dX5_takeEach_56 rfl (lv_at hl 2 rfl) ?_
          exact z_zret hx hb hr hlocks hI (zb01 _) (by rw [hfin]; exact ⟨rfl, rfl⟩) dX5_takeEach_57
        · skip
          rw [zb_0, Classical.not_not] at c_15
          refine lv_aload_n hx hb dX5_takeEach_18 rfl (lv_at hl 0 rfl) ?_
          refine lv_bipush (v := (nI 38)) hx hb dX5_takeEach_19 rfl ?_
          refine z_calli (va_runV (As := [.int (nI 38)]) (rest := []) ⟨hx, hb, hml, hown, hts⟩ ((c_X5_takesZ l hG x b L r.2.1 r.2.2 (nI 38) hb0 hL hL9 h3.1) A) (cwV 1 hts gX5_takeEach_X5_takes rfl rfl rfl (by decide +kernel) ⟨Nat.le_of_ble_eq_true rfl, Nat.le_of_ble_eq_true rfl⟩) (z_pV hI hK hN (z_recv hK hI (zor hG hb0) rfl)) rfl rfl hl.1 rfl (lv_room (Nat.le_of_ble_eq_true rfl)) dX5_takeEach_21 ⟨Nat.zero_le _, Nat.zero_le _⟩) hI (fun r_21 u H locs hw hI => ?_)
          obtain ⟨rfl, rfl⟩ := hw
          have hin_21 : zIn L (ztke (zby x b L) (nI 38) r.2.1 r.2.2) := ztke_in zby_e (by decide) h3.1 h3.2
          refine lv_if_eq (tgt := 56) hx hb dX5_takeEach_24 (by decide) (fun c_24 => ?_) (fun c_24 => ?_)
          · skip
            rw [zb_0] at c_24
            have hI : zI G (zpz x b r.2.1 r.2.2) A s.heap H locs := by rw [ztke_f c_24] at hI; exact hI
            have hzx : zLp (zPa (zby x b L) 3) (zby x b L) (nI 38) (-2) (100 - i) r = r := zLp_x (fun h9 => c_24 h9.2) _
            have hfin : zEa (zPa (zby x b L) 3) (zby x b L) p1 cs = r := h2.symm.trans hzx
            refine lv_iload_n hx hb dX5_takeEach_56 rfl (lv_at hl 2 rfl) ?_
            exact z_zret hx hb hr hlocks hI (zb01 _) (by rw [hfin]; exact ⟨rfl, rfl⟩) dX5_takeEach_57
          · skip
            rw [zb_0, Classical.not_not] at c_24
            refine lv_aload_n hx hb dX5_takeEach_27 rfl (lv_at hl 0 rfl) ?_
            refine lv_iload_n hx hb dX5_takeEach_28 rfl (lv_at hl 1 rfl) ?_
            refine z_calli (va_runV (As := [.int (nI 1)]) (rest := []) ⟨hx, hb, hml, hown, hts⟩ ((c_X5_takePart3 l hG aK aV x b L (ztke (zby x b L) (nI 38) r.2.1 r.2.2).2.1 (ztke (zby x b L) (nI 38) r.2.1 r.2.2).2.2 hb0 hL hL9 htx hin_21.1 hin_21.2) A) (cwV 1 hts gX5_takeEach_X5_takePart rfl rfl rfl (by decide +kernel) ⟨Nat.le_of_ble_eq_true rfl, Nat.le_of_ble_eq_true rfl⟩) (z_pVS hI hK hN hSS (z_recv hK hI (zor hG hb0) rfl)) rfl rfl hl.1 rfl (lv_room (Nat.le_of_ble_eq_true rfl)) dX5_takeEach_29 ⟨Nat.zero_le _, Nat.zero_le _⟩) hI (fun r_29 u H locs hw hI => ?_)
            obtain ⟨rfl, rfl⟩ := hw
            have hin_29 : zIn L (zPa (zby x b L) 3 (ztke (zby x b L) (nI 38) r.2.1 r.2.2).2.1 (ztke (zby x b L) (nI 38) r.2.1 r.2.2).2.2) := zPa_in zby_e 3 _ _ hin_21.1 hin_21.2
            refine lv_if_eq (tgt := 48) hx hb dX5_takeEach_32 (by decide) (fun c_32 => ?_) (fun c_32 => ?_)
            · skip
              rw [zb_0] at c_32
              refine lv_iconst (v := (nI 0)) hx hb dX5_takeEach_48 rfl ?_
              refine lv_istore_n (lv' := [(2, .int (nI 0)), (0, .ref (za G b)), (1, .int (nI 1)), (3, .int (nI i))]) hx hb dX5_takeEach_49 rfl hl (by decide) rfl (fun ls hl => ?_)
              refine lv_iinc (v := (nI (i + 1))) (lv' := [(3, .int (nI (i + 1))), (2, .int (nI 0)), (0, .ref (za G b)), (1, .int (nI 1))]) hx hb dX5_takeEach_50 hl (k := 3) rfl (zinc i) (by decide) rfl (fun ls hl => ?_)
              refine lv_goto (tgt := 8) hx hb dX5_takeEach_53 (by decide) ?_
              exact ih8 (i + 1) (zth (zPa (zby x b L) 3 (ztke (zby x b L) (nI 38) r.2.1 r.2.2).2.1 (ztke (zby x b L) (nI 38) r.2.1 r.2.2).2.2) (zpt (-2))) (by omega) (by rw [← h2, show 100 - i = 100 - (i + 1) + 1 by omega, zLp, if_pos ⟨c_15, c_24⟩]) (zth_in hin_29 (fun h9 => zpt_in h9.1 h9.2)) (by omega) _ _ (by rw [show (zth (zPa (zby x b L) 3 (ztke (zby x b L) (nI 38) r.2.1 r.2.2).2.1 (ztke (zby x b L) (nI 38) r.2.1 r.2.2).2.2) (zpt (-2))) = (zPa (zby x b L) 3 (ztke (zby x b L) (nI 38) r.2.1 r.2.2).2.1 (ztke (zby x b L) (nI 38) r.2.1 r.2.2).2.2) from if_neg c_32]; exact hI) ls (by rw [show (zth (zPa (zby x b L) 3 (ztke (zby x b L) (nI 38) r.2.1 r.2.2).2.1 (ztke (zby x b L) (nI 38) r.2.1 r.2.2).2.2) (zpt (-2))) = (zPa (zby x b L) 3 (ztke (zby x b L) (nI 38) r.2.1 r.2.2).2.1 (ztke (zby x b L) (nI 38) r.2.1 r.2.2).2.2) from if_neg c_32, if_neg c_32]; exact lv_sub hl [2, 3, 1, 0] rfl)
            · skip
              rw [zb_0, Classical.not_not] at c_32
              refine lv_aload_n hx hb dX5_takeEach_35 rfl (lv_at hl 0 rfl) ?_
              refine lv_bipush (v := (-2)) hx hb dX5_takeEach_36 rfl ?_
              refine z_calli (va_runV (As := [.int (-2)]) (rest := []) ⟨hx, hb, hml, hown, hts⟩ ((c_X5_putsZ l hG x b L (zPa (zby x b L) 3 (ztke (zby x b L) (nI 38) r.2.1 r.2.2).2.1 (ztke (zby x b L) (nI 38) r.2.1 r.2.2).2.2).2.1 (zPa (zby x b L) 3 (ztke (zby x b L) (nI 38) r.2.1 r.2.2).2.1 (ztke (zby x b L) (nI 38) r.2.1 r.2.2).2.2).2.2 (-2) hb0 hin_29.2) A) (cwV 1 hts gX5_takeEach_X5_puts rfl rfl rfl (by decide +kernel) ⟨Nat.le_of_ble_eq_true rfl, Nat.le_of_ble_eq_true rfl⟩) (z_pV hI hK hN (z_recv hK hI (zor hG hb0) rfl)) rfl rfl hl.1 rfl (lv_room (Nat.le_of_ble_eq_true rfl)) dX5_takeEach_38 ⟨Nat.zero_le _, Nat.zero_le _⟩) hI (fun r_38 u H locs hw hI => ?_)
              obtain ⟨rfl, rfl⟩ := hw
              have hin_38 : zIn L (zpt (-2) (zPa (zby x b L) 3 (ztke (zby x b L) (nI 38) r.2.1 r.2.2).2.1 (ztke (zby x b L) (nI 38) r.2.1 r.2.2).2.2).2.1 (zPa (zby x b L) 3 (ztke (zby x b L) (nI 38) r.2.1 r.2.2).2.1 (ztke (zby x b L) (nI 38) r.2.1 r.2.2).2.2).2.2) := zpt_in hin_29.1 hin_29.2
              refine lv_if_eq (tgt := 48) hx hb dX5_takeEach_41 (by decide) (fun c_41 => ?_) (fun c_41 => ?_)
              · skip
                rw [zb_0] at c_41
                refine lv_iconst (v := (nI 0)) hx hb dX5_takeEach_48 rfl ?_
                refine lv_istore_n (lv' := [(2, .int (nI 0)), (0, .ref (za G b)), (1, .int (nI 1)), (3, .int (nI i))]) hx hb dX5_takeEach_49 rfl hl (by decide) rfl (fun ls hl => ?_)
                refine lv_iinc (v := (nI (i + 1))) (lv' := [(3, .int (nI (i + 1))), (2, .int (nI 0)), (0, .ref (za G b)), (1, .int (nI 1))]) hx hb dX5_takeEach_50 hl (k := 3) rfl (zinc i) (by decide) rfl (fun ls hl => ?_)
                refine lv_goto (tgt := 8) hx hb dX5_takeEach_53 (by decide) ?_
                exact ih8 (i + 1) (zth (zPa (zby x b L) 3 (ztke (zby x b L) (nI 38) r.2.1 r.2.2).2.1 (ztke (zby x b L) (nI 38) r.2.1 r.2.2).2.2) (zpt (-2))) (by omega) (by rw [← h2, show 100 - i = 100 - (i + 1) + 1 by omega, zLp, if_pos ⟨c_15, c_24⟩]) (zth_in hin_29 (fun h9 => zpt_in h9.1 h9.2)) (by omega) _ _ (by rw [show (zth (zPa (zby x b L) 3 (ztke (zby x b L) (nI 38) r.2.1 r.2.2).2.1 (ztke (zby x b L) (nI 38) r.2.1 r.2.2).2.2) (zpt (-2))) = (zpt (-2) (zPa (zby x b L) 3 (ztke (zby x b L) (nI 38) r.2.1 r.2.2).2.1 (ztke (zby x b L) (nI 38) r.2.1 r.2.2).2.2).2.1 (zPa (zby x b L) 3 (ztke (zby x b L) (nI 38) r.2.1 r.2.2).2.1 (ztke (zby x b L) (nI 38) r.2.1 r.2.2).2.2).2.2) from if_pos c_32]; exact hI) ls (by rw [show (zth (zPa (zby x b L) 3 (ztke (zby x b L) (nI 38) r.2.1 r.2.2).2.1 (ztke (zby x b L) (nI 38) r.2.1 r.2.2).2.2) (zpt (-2))) = (zpt (-2) (zPa (zby x b L) 3 (ztke (zby x b L) (nI 38) r.2.1 r.2.2).2.1 (ztke (zby x b L) (nI 38) r.2.1 r.2.2).2.2).2.1 (zPa (zby x b L) 3 (ztke (zby x b L) (nI 38) r.2.1 r.2.2).2.1 (ztke (zby x b L) (nI 38) r.2.1 r.2.2).2.2).2.2) from if_pos c_32, if_neg c_41]; exact lv_sub hl [2, 3, 1, 0] rfl)
              · skip
                rw [zb_0, Classical.not_not] at c_41
                refine lv_iconst (v := (nI 1)) hx hb dX5_takeEach_44 rfl ?_
                refine lv_goto (tgt := 49) hx hb dX5_takeEach_45 (by decide) ?_
                refine lv_istore_n (lv' := [(2, .int (nI 1)), (0, .ref (za G b)), (1, .int (nI 1)), (3, .int (nI i))]) hx hb dX5_takeEach_49 rfl hl (by decide) rfl (fun ls hl => ?_)
                refine lv_iinc (v := (nI (i + 1))) (lv' := [(3, .int (nI (i + 1))), (2, .int (nI 1)), (0, .ref (za G b)), (1, .int (nI 1))]) hx hb dX5_takeEach_50 hl (k := 3) rfl (zinc i) (by decide) rfl (fun ls hl => ?_)
                refine lv_goto (tgt := 8) hx hb dX5_takeEach_53 (by decide) ?_
                exact ih8 (i + 1) (zth (zPa (zby x b L) 3 (ztke (zby x b L) (nI 38) r.2.1 r.2.2).2.1 (ztke (zby x b L) (nI 38) r.2.1 r.2.2).2.2) (zpt (-2))) (by omega) (by rw [← h2, show 100 - i = 100 - (i + 1) + 1 by omega, zLp, if_pos ⟨c_15, c_24⟩]) (zth_in hin_29 (fun h9 => zpt_in h9.1 h9.2)) (by omega) _ _ (by rw [show (zth (zPa (zby x b L) 3 (ztke (zby x b L) (nI 38) r.2.1 r.2.2).2.1 (ztke (zby x b L) (nI 38) r.2.1 r.2.2).2.2) (zpt (-2))) = (zpt (-2) (zPa (zby x b L) 3 (ztke (zby x b L) (nI 38) r.2.1 r.2.2).2.1 (ztke (zby x b L) (nI 38) r.2.1 r.2.2).2.2).2.1 (zPa (zby x b L) 3 (ztke (zby x b L) (nI 38) r.2.1 r.2.2).2.1 (ztke (zby x b L) (nI 38) r.2.1 r.2.2).2.2).2.2) from if_pos c_32]; exact hI) ls (by rw [show (zth (zPa (zby x b L) 3 (ztke (zby x b L) (nI 38) r.2.1 r.2.2).2.1 (ztke (zby x b L) (nI 38) r.2.1 r.2.2).2.2) (zpt (-2))) = (zpt (-2) (zPa (zby x b L) 3 (ztke (zby x b L) (nI 38) r.2.1 r.2.2).2.1 (ztke (zby x b L) (nI 38) r.2.1 r.2.2).2.2).2.1 (zPa (zby x b L) 3 (ztke (zby x b L) (nI 38) r.2.1 r.2.2).2.1 (ztke (zby x b L) (nI 38) r.2.1 r.2.2).2.2).2.2) from if_pos c_32, if_pos c_41]; exact lv_sub hl [2, 3, 1, 0] rfl)
  exact L8 (101) 0 (zPa (zby x b L) 3 p1 cs) (by omega) rfl hin_2 (by omega) _ _ hI ls (lv_sub hl [2, 3, 1, 0] rfl)
set_option maxHeartbeats 1000000 in
set_option maxRecDepth 100000 in
theorem c_X5_takeEither3 (l : Launch) {G : zG} (hG : zOK G) (aK aV : Nat → Nat) (x : zX) (b L p1 : Nat) (cs : List Int32) (hb0 : zRm b) (hL : x.1 b 8 = nI L) (hL9 : L ≤ 100) (htx : zTx x b) (hpL : p1 ≤ L) (hcs : cs.length ≤ 100) : zMiS l yX5_takeEither wsX5_takeEither { frames := 16, cells := 0, slots := 0, locals := 386 } G aK aV [.ref (za G b), .int (nI 1)] (zpz x b p1 cs) (fun (r : Int32) (u : zX) => zr3 x b (zEi (zPa (zby x b L) 3) (zby x b L) p1 cs) r u) := by
  intro A
  refine zBodyS (cc := cX5_takeEither) (maxL := 4) (ret := (some .boolean)) (by decide) rfl (Nat.le_of_ble_eq_true rfl) ?_
  intro p e s m below meth c hx hb hml hown hts hr hlocks hK hN hSS hI ls hl
  have hown : s.vm.findClass RX5 = some m.cls := hown
  have hl : lv_has ls 4 [(0, .ref (za G b)), (1, .int (nI 1))] := hl
  refine lv_aload_n hx hb dX5_takeEither_0 rfl (lv_at hl 0 rfl) ?_
  refine lv_iload_n hx hb dX5_takeEither_1 rfl (lv_at hl 1 rfl) ?_
  refine z_calli (va_runV (As := [.int (nI 1)]) (rest := []) ⟨hx, hb, hml, hown, hts⟩ ((c_X5_takeEach3 l hG aK aV x b L p1 cs hb0 hL hL9 htx hpL hcs) A) (cwV 1 hts gX5_takeEither_X5_takeEach rfl rfl rfl (by decide +kernel) ⟨Nat.le_of_ble_eq_true rfl, Nat.le_of_ble_eq_true rfl⟩) (z_pVS hI hK hN hSS (z_recv hK hI (zor hG hb0) rfl)) rfl rfl hl.1 rfl (lv_room (Nat.le_of_ble_eq_true rfl)) dX5_takeEither_2 ⟨Nat.zero_le _, Nat.zero_le _⟩) hI (fun r_2 u H locs hw hI => ?_)
  obtain ⟨rfl, rfl⟩ := hw
  have hin_2 : zIn L (zEa (zPa (zby x b L) 3) (zby x b L) p1 cs) := zEa_in zby_e (fun p cs => zPa_in zby_e 3 p cs) _ _ hpL hcs
  refine lv_istore_n (lv' := [(2, .int (if (zEa (zPa (zby x b L) 3) (zby x b L) p1 cs).1 = true then nI 1 else nI 0)), (0, .ref (za G b)), (1, .int (nI 1))]) hx hb dX5_takeEither_5 rfl hl (by decide) rfl (fun ls hl => ?_)
  refine lv_iconst (v := (nI 0)) hx hb dX5_takeEither_6 rfl ?_
  refine lv_istore_n (lv' := [(3, .int (nI 0)), (2, .int (if (zEa (zPa (zby x b L) 3) (zby x b L) p1 cs).1 = true then nI 1 else nI 0)), (0, .ref (za G b)), (1, .int (nI 1))]) hx hb dX5_takeEither_7 rfl hl (by decide) rfl (fun ls hl => ?_)
  have L8 : ∀ (f : Nat) (i : Nat) (r : zPR), (i ≤ 100) → (zLp (zEa (zPa (zby x b L) 3) (zby x b L)) (zby x b L) (nI 124) (-3) (100 - i) r = zEi (zPa (zby x b L) 3) (zby x b L) p1 cs) → (zIn L r) → 101 ≤ i + f → ∀ (H : Heap) (locs : List Loc), zI G (zpz x b r.2.1 r.2.2) A s.heap H locs → ∀ ls : Array Slot, lv_has ls 4 [(0, .ref (za G b)), (1, .int (nI 1)), (2, .int (if r.1 = true then nI 1 else nI 0)), (3, .int (nI i))] → W p l e { frames := 16, cells := 0, slots := 0, locals := 386 } s m ([.ref (za G b), .int (nI 1)] : List Value).toArray below meth c H locs 0 0 (MQ below (va_Qi (fun (r : Int32) (u : zX) => zr3 x b (zEi (zPa (zby x b L) 3) (zby x b L) p1 cs) r u) (fun u t => zJ G u A t.heap) A) ([.ref (za G b), .int (nI 1)] : List Value).toArray s 0 0 A) (F0 m 8 ls []) := by
    intro f
    induction f with
    | zero =>
      intro i r h1 h2 h3 hf
      exact absurd hf (by omega)
    | succ f ih =>
      intro i r h1 h2 h3 hf H locs hI ls hl
      have ih8 := ih
      refine lv_iload_n hx hb dX5_takeEither_8 rfl (lv_at hl 3 rfl) ?_
      refine lv_bipush (v := (nI 100)) hx hb dX5_takeEither_9 rfl ?_
      refine lv_icmp_ge (tgt := 56) hx hb dX5_takeEither_11 (by decide) (fun c_11 => ?_) (fun c_11 => ?_)
      · skip
        rw [zqG (by omega) (by omega)] at c_11
        have hzx : zLp (zEa (zPa (zby x b L) 3) (zby x b L)) (zby x b L) (nI 124) (-3) (100 - i) r = r := by rw [show 100 - i = 0 by omega]; rfl
        have hfin : zEi (zPa (zby x b L) 3) (zby x b L) p1 cs = r := h2.symm.trans hzx
        refine lv_iload_n hx hb dX5_takeEither_56 rfl (lv_at hl 2 rfl) ?_
        exact z_zret hx hb hr hlocks hI (zb01 _) (by rw [hfin]; exact ⟨rfl, rfl⟩) dX5_takeEither_57
      · skip
        rw [zqG (by omega) (by omega)] at c_11
        refine lv_iload_n hx hb dX5_takeEither_14 rfl (lv_at hl 2 rfl) ?_
        refine lv_if_eq (tgt := 56) hx hb dX5_takeEither_15 (by decide) (fun c_15 => ?_) (fun c_15 => ?_)
        · skip
          rw [zb_0] at c_15
          have hzx : zLp (zEa (zPa (zby x b L) 3) (zby x b L)) (zby x b L) (nI 124) (-3) (100 - i) r = r := zLp_x (fun h9 => c_15 h9.1) _
          have hfin : zEi (zPa (zby x b L) 3) (zby x b L) p1 cs = r := h2.symm.trans hzx
          refine lv_iload_n hx hb dX5_takeEither_56 rfl (lv_at hl 2 rfl) ?_
          exact z_zret hx hb hr hlocks hI (zb01 _) (by rw [hfin]; exact ⟨rfl, rfl⟩) dX5_takeEither_57
        · skip
          rw [zb_0, Classical.not_not] at c_15
          refine lv_aload_n hx hb dX5_takeEither_18 rfl (lv_at hl 0 rfl) ?_
          refine lv_bipush (v := (nI 124)) hx hb dX5_takeEither_19 rfl ?_
          refine z_calli (va_runV (As := [.int (nI 124)]) (rest := []) ⟨hx, hb, hml, hown, hts⟩ ((c_X5_takesZ l hG x b L r.2.1 r.2.2 (nI 124) hb0 hL hL9 h3.1) A) (cwV 1 hts gX5_takeEither_X5_takes rfl rfl rfl (by decide +kernel) ⟨Nat.le_of_ble_eq_true rfl, Nat.le_of_ble_eq_true rfl⟩) (z_pV hI hK hN (z_recv hK hI (zor hG hb0) rfl)) rfl rfl hl.1 rfl (lv_room (Nat.le_of_ble_eq_true rfl)) dX5_takeEither_21 ⟨Nat.zero_le _, Nat.zero_le _⟩) hI (fun r_21 u H locs hw hI => ?_)
          obtain ⟨rfl, rfl⟩ := hw
          have hin_21 : zIn L (ztke (zby x b L) (nI 124) r.2.1 r.2.2) := ztke_in zby_e (by decide) h3.1 h3.2
          refine lv_if_eq (tgt := 56) hx hb dX5_takeEither_24 (by decide) (fun c_24 => ?_) (fun c_24 => ?_)
          · skip
            rw [zb_0] at c_24
            have hI : zI G (zpz x b r.2.1 r.2.2) A s.heap H locs := by rw [ztke_f c_24] at hI; exact hI
            have hzx : zLp (zEa (zPa (zby x b L) 3) (zby x b L)) (zby x b L) (nI 124) (-3) (100 - i) r = r := zLp_x (fun h9 => c_24 h9.2) _
            have hfin : zEi (zPa (zby x b L) 3) (zby x b L) p1 cs = r := h2.symm.trans hzx
            refine lv_iload_n hx hb dX5_takeEither_56 rfl (lv_at hl 2 rfl) ?_
            exact z_zret hx hb hr hlocks hI (zb01 _) (by rw [hfin]; exact ⟨rfl, rfl⟩) dX5_takeEither_57
          · skip
            rw [zb_0, Classical.not_not] at c_24
            refine lv_aload_n hx hb dX5_takeEither_27 rfl (lv_at hl 0 rfl) ?_
            refine lv_iload_n hx hb dX5_takeEither_28 rfl (lv_at hl 1 rfl) ?_
            refine z_calli (va_runV (As := [.int (nI 1)]) (rest := []) ⟨hx, hb, hml, hown, hts⟩ ((c_X5_takeEach3 l hG aK aV x b L (ztke (zby x b L) (nI 124) r.2.1 r.2.2).2.1 (ztke (zby x b L) (nI 124) r.2.1 r.2.2).2.2 hb0 hL hL9 htx hin_21.1 hin_21.2) A) (cwV 1 hts gX5_takeEither_X5_takeEach rfl rfl rfl (by decide +kernel) ⟨Nat.le_of_ble_eq_true rfl, Nat.le_of_ble_eq_true rfl⟩) (z_pVS hI hK hN hSS (z_recv hK hI (zor hG hb0) rfl)) rfl rfl hl.1 rfl (lv_room (Nat.le_of_ble_eq_true rfl)) dX5_takeEither_29 ⟨Nat.zero_le _, Nat.zero_le _⟩) hI (fun r_29 u H locs hw hI => ?_)
            obtain ⟨rfl, rfl⟩ := hw
            have hin_29 : zIn L (zEa (zPa (zby x b L) 3) (zby x b L) (ztke (zby x b L) (nI 124) r.2.1 r.2.2).2.1 (ztke (zby x b L) (nI 124) r.2.1 r.2.2).2.2) := zEa_in zby_e (fun p cs => zPa_in zby_e 3 p cs) _ _ hin_21.1 hin_21.2
            refine lv_if_eq (tgt := 48) hx hb dX5_takeEither_32 (by decide) (fun c_32 => ?_) (fun c_32 => ?_)
            · skip
              rw [zb_0] at c_32
              refine lv_iconst (v := (nI 0)) hx hb dX5_takeEither_48 rfl ?_
              refine lv_istore_n (lv' := [(2, .int (nI 0)), (0, .ref (za G b)), (1, .int (nI 1)), (3, .int (nI i))]) hx hb dX5_takeEither_49 rfl hl (by decide) rfl (fun ls hl => ?_)
              refine lv_iinc (v := (nI (i + 1))) (lv' := [(3, .int (nI (i + 1))), (2, .int (nI 0)), (0, .ref (za G b)), (1, .int (nI 1))]) hx hb dX5_takeEither_50 hl (k := 3) rfl (zinc i) (by decide) rfl (fun ls hl => ?_)
              refine lv_goto (tgt := 8) hx hb dX5_takeEither_53 (by decide) ?_
              exact ih8 (i + 1) (zth (zEa (zPa (zby x b L) 3) (zby x b L) (ztke (zby x b L) (nI 124) r.2.1 r.2.2).2.1 (ztke (zby x b L) (nI 124) r.2.1 r.2.2).2.2) (zpt (-3))) (by omega) (by rw [← h2, show 100 - i = 100 - (i + 1) + 1 by omega, zLp, if_pos ⟨c_15, c_24⟩]) (zth_in hin_29 (fun h9 => zpt_in h9.1 h9.2)) (by omega) _ _ (by rw [show (zth (zEa (zPa (zby x b L) 3) (zby x b L) (ztke (zby x b L) (nI 124) r.2.1 r.2.2).2.1 (ztke (zby x b L) (nI 124) r.2.1 r.2.2).2.2) (zpt (-3))) = (zEa (zPa (zby x b L) 3) (zby x b L) (ztke (zby x b L) (nI 124) r.2.1 r.2.2).2.1 (ztke (zby x b L) (nI 124) r.2.1 r.2.2).2.2) from if_neg c_32]; exact hI) ls (by rw [show (zth (zEa (zPa (zby x b L) 3) (zby x b L) (ztke (zby x b L) (nI 124) r.2.1 r.2.2).2.1 (ztke (zby x b L) (nI 124) r.2.1 r.2.2).2.2) (zpt (-3))) = (zEa (zPa (zby x b L) 3) (zby x b L) (ztke (zby x b L) (nI 124) r.2.1 r.2.2).2.1 (ztke (zby x b L) (nI 124) r.2.1 r.2.2).2.2) from if_neg c_32, if_neg c_32]; exact lv_sub hl [2, 3, 1, 0] rfl)
            · skip
              rw [zb_0, Classical.not_not] at c_32
              refine lv_aload_n hx hb dX5_takeEither_35 rfl (lv_at hl 0 rfl) ?_
              refine lv_bipush (v := (-3)) hx hb dX5_takeEither_36 rfl ?_
              refine z_calli (va_runV (As := [.int (-3)]) (rest := []) ⟨hx, hb, hml, hown, hts⟩ ((c_X5_putsZ l hG x b L (zEa (zPa (zby x b L) 3) (zby x b L) (ztke (zby x b L) (nI 124) r.2.1 r.2.2).2.1 (ztke (zby x b L) (nI 124) r.2.1 r.2.2).2.2).2.1 (zEa (zPa (zby x b L) 3) (zby x b L) (ztke (zby x b L) (nI 124) r.2.1 r.2.2).2.1 (ztke (zby x b L) (nI 124) r.2.1 r.2.2).2.2).2.2 (-3) hb0 hin_29.2) A) (cwV 1 hts gX5_takeEither_X5_puts rfl rfl rfl (by decide +kernel) ⟨Nat.le_of_ble_eq_true rfl, Nat.le_of_ble_eq_true rfl⟩) (z_pV hI hK hN (z_recv hK hI (zor hG hb0) rfl)) rfl rfl hl.1 rfl (lv_room (Nat.le_of_ble_eq_true rfl)) dX5_takeEither_38 ⟨Nat.zero_le _, Nat.zero_le _⟩) hI (fun r_38 u H locs hw hI => ?_)
              obtain ⟨rfl, rfl⟩ := hw
              have hin_38 : zIn L (zpt (-3) (zEa (zPa (zby x b L) 3) (zby x b L) (ztke (zby x b L) (nI 124) r.2.1 r.2.2).2.1 (ztke (zby x b L) (nI 124) r.2.1 r.2.2).2.2).2.1 (zEa (zPa (zby x b L) 3) (zby x b L) (ztke (zby x b L) (nI 124) r.2.1 r.2.2).2.1 (ztke (zby x b L) (nI 124) r.2.1 r.2.2).2.2).2.2) := zpt_in hin_29.1 hin_29.2
              refine lv_if_eq (tgt := 48) hx hb dX5_takeEither_41 (by decide) (fun c_41 => ?_) (fun c_41 => ?_)
              · skip
                rw [zb_0] at c_41
                refine lv_iconst (v := (nI 0)) hx hb dX5_takeEither_48 rfl ?_
                refine lv_istore_n (lv' := [(2, .int (nI 0)), (0, .ref (za G b)), (1, .int (nI 1)), (3, .int (nI i))]) hx hb dX5_takeEither_49 rfl hl (by decide) rfl (fun ls hl => ?_)
                refine lv_iinc (v := (nI (i + 1))) (lv' := [(3, .int (nI (i + 1))), (2, .int (nI 0)), (0, .ref (za G b)), (1, .int (nI 1))]) hx hb dX5_takeEither_50 hl (k := 3) rfl (zinc i) (by decide) rfl (fun ls hl => ?_)
                refine lv_goto (tgt := 8) hx hb dX5_takeEither_53 (by decide) ?_
                exact ih8 (i + 1) (zth (zEa (zPa (zby x b L) 3) (zby x b L) (ztke (zby x b L) (nI 124) r.2.1 r.2.2).2.1 (ztke (zby x b L) (nI 124) r.2.1 r.2.2).2.2) (zpt (-3))) (by omega) (by rw [← h2, show 100 - i = 100 - (i + 1) + 1 by omega, zLp, if_pos ⟨c_15, c_24⟩]) (zth_in hin_29 (fun h9 => zpt_in h9.1 h9.2)) (by omega) _ _ (by rw [show (zth (zEa (zPa (zby x b L) 3) (zby x b L) (ztke (zby x b L) (nI 124) r.2.1 r.2.2).2.1 (ztke (zby x b L) (nI 124) r.2.1 r.2.2).2.2) (zpt (-3))) = (zpt (-3) (zEa (zPa (zby x b L) 3) (zby x b L) (ztke (zby x b L) (nI 124) r.2.1 r.2.2).2.1 (ztke (zby x b L) (nI 124) r.2.1 r.2.2).2.2).2.1 (zEa (zPa (zby x b L) 3) (zby x b L) (ztke (zby x b L) (nI 124) r.2.1 r.2.2).2.1 (ztke (zby x b L) (nI 124) r.2.1 r.2.2).2.2).2.2) from if_pos c_32]; exact hI) ls (by rw [show (zth (zEa (zPa (zby x b L) 3) (zby x b L) (ztke (zby x b L) (nI 124) r.2.1 r.2.2).2.1 (ztke (zby x b L) (nI 124) r.2.1 r.2.2).2.2) (zpt (-3))) = (zpt (-3) (zEa (zPa (zby x b L) 3) (zby x b L) (ztke (zby x b L) (nI 124) r.2.1 r.2.2).2.1 (ztke (zby x b L) (nI 124) r.2.1 r.2.2).2.2).2.1 (zEa (zPa (zby x b L) 3) (zby x b L) (ztke (zby x b L) (nI 124) r.2.1 r.2.2).2.1 (ztke (zby x b L) (nI 124) r.2.1 r.2.2).2.2).2.2) from if_pos c_32, if_neg c_41]; exact lv_sub hl [2, 3, 1, 0] rfl)
              · skip
                rw [zb_0, Classical.not_not] at c_41
                refine lv_iconst (v := (nI 1)) hx hb dX5_takeEither_44 rfl ?_
                refine lv_goto (tgt := 49) hx hb dX5_takeEither_45 (by decide) ?_
                refine lv_istore_n (lv' := [(2, .int (nI 1)), (0, .ref (za G b)), (1, .int (nI 1)), (3, .int (nI i))]) hx hb dX5_takeEither_49 rfl hl (by decide) rfl (fun ls hl => ?_)
                refine lv_iinc (v := (nI (i + 1))) (lv' := [(3, .int (nI (i + 1))), (2, .int (nI 1)), (0, .ref (za G b)), (1, .int (nI 1))]) hx hb dX5_takeEither_50 hl (k := 3) rfl (zinc i) (by decide) rfl (fun ls hl => ?_)
                refine lv_goto (tgt := 8) hx hb dX5_takeEither_53 (by decide) ?_
                exact ih8 (i + 1) (zth (zEa (zPa (zby x b L) 3) (zby x b L) (ztke (zby x b L) (nI 124) r.2.1 r.2.2).2.1 (ztke (zby x b L) (nI 124) r.2.1 r.2.2).2.2) (zpt (-3))) (by omega) (by rw [← h2, show 100 - i = 100 - (i + 1) + 1 by omega, zLp, if_pos ⟨c_15, c_24⟩]) (zth_in hin_29 (fun h9 => zpt_in h9.1 h9.2)) (by omega) _ _ (by rw [show (zth (zEa (zPa (zby x b L) 3) (zby x b L) (ztke (zby x b L) (nI 124) r.2.1 r.2.2).2.1 (ztke (zby x b L) (nI 124) r.2.1 r.2.2).2.2) (zpt (-3))) = (zpt (-3) (zEa (zPa (zby x b L) 3) (zby x b L) (ztke (zby x b L) (nI 124) r.2.1 r.2.2).2.1 (ztke (zby x b L) (nI 124) r.2.1 r.2.2).2.2).2.1 (zEa (zPa (zby x b L) 3) (zby x b L) (ztke (zby x b L) (nI 124) r.2.1 r.2.2).2.1 (ztke (zby x b L) (nI 124) r.2.1 r.2.2).2.2).2.2) from if_pos c_32]; exact hI) ls (by rw [show (zth (zEa (zPa (zby x b L) 3) (zby x b L) (ztke (zby x b L) (nI 124) r.2.1 r.2.2).2.1 (ztke (zby x b L) (nI 124) r.2.1 r.2.2).2.2) (zpt (-3))) = (zpt (-3) (zEa (zPa (zby x b L) 3) (zby x b L) (ztke (zby x b L) (nI 124) r.2.1 r.2.2).2.1 (ztke (zby x b L) (nI 124) r.2.1 r.2.2).2.2).2.1 (zEa (zPa (zby x b L) 3) (zby x b L) (ztke (zby x b L) (nI 124) r.2.1 r.2.2).2.1 (ztke (zby x b L) (nI 124) r.2.1 r.2.2).2.2).2.2) from if_pos c_32, if_pos c_41]; exact lv_sub hl [2, 3, 1, 0] rfl)
  exact L8 (101) 0 (zEa (zPa (zby x b L) 3) (zby x b L) p1 cs) (by omega) rfl hin_2 (by omega) _ _ hI ls (lv_sub hl [2, 3, 1, 0] rfl)
set_option maxHeartbeats 1000000 in
set_option maxRecDepth 100000 in
theorem c_X5_takeNot3 (l : Launch) {G : zG} (hG : zOK G) (aK aV : Nat → Nat) (x : zX) (b L p1 : Nat) (cs : List Int32) (hb0 : zRm b) (hL : x.1 b 8 = nI L) (hL9 : L ≤ 100) (htx : zTx x b) (hpL : p1 ≤ L) (hcs : cs.length ≤ 100) : zMiS l yX5_takeNot wsX5_takeNot { frames := 15, cells := 0, slots := 0, locals := 363 } G aK aV [.ref (za G b), .int (nI 1)] (zpz x b p1 cs) (fun (r : Int32) (u : zX) => zr3 x b (zNt (zPa (zby x b L) 3) p1 cs) r u) := by
  intro A
  refine zBodyS (cc := cX5_takeNot) (maxL := 2) (ret := (some .boolean)) (by decide) rfl (Nat.le_of_ble_eq_true rfl) ?_
  intro p e s m below meth c hx hb hml hown hts hr hlocks hK hN hSS hI ls hl
  have hown : s.vm.findClass RX5 = some m.cls := hown
  have hl : lv_has ls 2 [(0, .ref (za G b)), (1, .int (nI 1))] := hl
  refine lv_aload_n hx hb dX5_takeNot_0 rfl (lv_at hl 0 rfl) ?_
  refine lv_iload_n hx hb dX5_takeNot_1 rfl (lv_at hl 1 rfl) ?_
  refine z_calli (va_runV (As := [.int (nI 1)]) (rest := []) ⟨hx, hb, hml, hown, hts⟩ ((c_X5_takePart3 l hG aK aV x b L p1 cs hb0 hL hL9 htx hpL hcs) A) (cwV 1 hts gX5_takeNot_X5_takePart rfl rfl rfl (by decide +kernel) ⟨Nat.le_of_ble_eq_true rfl, Nat.le_of_ble_eq_true rfl⟩) (z_pVS hI hK hN hSS (z_recv hK hI (zor hG hb0) rfl)) rfl rfl hl.1 rfl (lv_room (Nat.le_of_ble_eq_true rfl)) dX5_takeNot_2 ⟨Nat.zero_le _, Nat.zero_le _⟩) hI (fun r_2 u H locs hw hI => ?_)
  obtain ⟨rfl, rfl⟩ := hw
  have hin_2 : zIn L (zPa (zby x b L) 3 p1 cs) := zPa_in zby_e 3 _ _ hpL hcs
  refine lv_if_eq (tgt := 20) hx hb dX5_takeNot_5 (by decide) (fun c_5 => ?_) (fun c_5 => ?_)
  · skip
    rw [zb_0] at c_5
    refine lv_iconst (v := (nI 0)) hx hb dX5_takeNot_20 rfl ?_
    exact z_zret hx hb hr hlocks hI (Or.inl rfl) ((by rw [show zNt (zPa (zby x b L) 3) p1 cs = _ from if_neg c_5]; exact ⟨rfl, if_neg c_5⟩)) dX5_takeNot_21
  · skip
    rw [zb_0, Classical.not_not] at c_5
    refine lv_aload_n hx hb dX5_takeNot_8 rfl (lv_at hl 0 rfl) ?_
    refine lv_iconst (v := (-1)) hx hb dX5_takeNot_9 rfl ?_
    refine z_calli (va_runV (As := [.int (-1)]) (rest := []) ⟨hx, hb, hml, hown, hts⟩ ((c_X5_putsZ l hG x b L (zPa (zby x b L) 3 p1 cs).2.1 (zPa (zby x b L) 3 p1 cs).2.2 (-1) hb0 hin_2.2) A) (cwV 1 hts gX5_takeNot_X5_puts rfl rfl rfl (by decide +kernel) ⟨Nat.le_of_ble_eq_true rfl, Nat.le_of_ble_eq_true rfl⟩) (z_pV hI hK hN (z_recv hK hI (zor hG hb0) rfl)) rfl rfl hl.1 rfl (lv_room (Nat.le_of_ble_eq_true rfl)) dX5_takeNot_10 ⟨Nat.zero_le _, Nat.zero_le _⟩) hI (fun r_10 u H locs hw hI => ?_)
    obtain ⟨rfl, rfl⟩ := hw
    have hin_10 : zIn L (zpt (-1) (zPa (zby x b L) 3 p1 cs).2.1 (zPa (zby x b L) 3 p1 cs).2.2) := zpt_in hin_2.1 hin_2.2
    refine lv_if_eq (tgt := 20) hx hb dX5_takeNot_13 (by decide) (fun c_13 => ?_) (fun c_13 => ?_)
    · skip
      rw [zb_0] at c_13
      refine lv_iconst (v := (nI 0)) hx hb dX5_takeNot_20 rfl ?_
      exact z_zret hx hb hr hlocks hI (Or.inl rfl) ((by rw [show zNt (zPa (zby x b L) 3) p1 cs = _ from if_pos c_5]; exact ⟨rfl, if_neg c_13⟩)) dX5_takeNot_21
    · skip
      rw [zb_0, Classical.not_not] at c_13
      refine lv_iconst (v := (nI 1)) hx hb dX5_takeNot_16 rfl ?_
      refine lv_goto (tgt := 21) hx hb dX5_takeNot_17 (by decide) ?_
      exact z_zret hx hb hr hlocks hI (Or.inr rfl) ((by rw [show zNt (zPa (zby x b L) 3) p1 cs = _ from if_pos c_5]; exact ⟨rfl, if_pos c_13⟩)) dX5_takeNot_21
set_option maxHeartbeats 1000000 in
set_option maxRecDepth 100000 in
theorem c_X5_takePart4 (l : Launch) {G : zG} (hG : zOK G) (aK aV : Nat → Nat) (x : zX) (b L p1 : Nat) (cs : List Int32) (hb0 : zRm b) (hL : x.1 b 8 = nI L) (hL9 : L ≤ 100) (htx : zTx x b) (hpL : p1 ≤ L) (hcs : cs.length ≤ 100) : zMiS l yX5_takePart wsX5_takePart { frames := 17, cells := 0, slots := 0, locals := 409 } G aK aV [.ref (za G b), .int (nI 0)] (zpz x b p1 cs) (fun (r : Int32) (u : zX) => zr3 x b (zPa (zby x b L) 4 p1 cs) r u) := by
  intro A
  refine zBodyS (cc := cX5_takePart) (maxL := 5) (ret := (some .boolean)) (by decide) rfl (Nat.le_of_ble_eq_true rfl) ?_
  intro p e s m below meth c hx hb hml hown hts hr hlocks hK hN hSS hI ls hl
  have hown : s.vm.findClass RX5 = some m.cls := hown
  have hl : lv_has ls 5 [(0, .ref (za G b)), (1, .int (nI 0))] := hl
  refine lv_iload_n hx hb dX5_takePart_0 rfl (lv_at hl 1 rfl) ?_
  refine lv_iconst (v := (nI 4)) hx hb dX5_takePart_1 rfl ?_
  refine lv_icmp_ge (tgt := 22) hx hb dX5_takePart_2 (by decide) (fun c_2 => absurd c_2 (by decide)) (fun c_2 => ?_)
  refine lv_aload_n hx hb dX5_takePart_5 rfl (lv_at hl 0 rfl) ?_
  refine lv_bipush (v := (nI 33)) hx hb dX5_takePart_6 rfl ?_
  refine z_calli (va_runV (As := [.int (nI 33)]) (rest := []) ⟨hx, hb, hml, hown, hts⟩ ((c_X5_takesZ l hG x b L p1 cs (nI 33) hb0 hL hL9 hpL) A) (cwV 1 hts gX5_takePart_X5_takes rfl rfl rfl (by decide +kernel) ⟨Nat.le_of_ble_eq_true rfl, Nat.le_of_ble_eq_true rfl⟩) (z_pV hI hK hN (z_recv hK hI (zor hG hb0) rfl)) rfl rfl hl.1 rfl (lv_room (Nat.le_of_ble_eq_true rfl)) dX5_takePart_8 ⟨Nat.zero_le _, Nat.zero_le _⟩) hI (fun r_8 u H locs hw hI => ?_)
  obtain ⟨rfl, rfl⟩ := hw
  have hin_8 : zIn L (ztke (zby x b L) (nI 33) p1 cs) := ztke_in zby_e (by decide) hpL hcs
  refine lv_if_eq (tgt := 22) hx hb dX5_takePart_11 (by decide) (fun c_11 => ?_) (fun c_11 => ?_)
  · skip
    rw [zb_0] at c_11
    have hI : zI G (zpz x b p1 cs) A s.heap H locs := by rw [ztke_f c_11] at hI; exact hI
    refine lv_iload_n hx hb dX5_takePart_22 rfl (lv_at hl 1 rfl) ?_
    refine lv_iconst (v := (nI 4)) hx hb dX5_takePart_23 rfl ?_
    refine lv_icmp_ge (tgt := 61) hx hb dX5_takePart_24 (by decide) (fun c_24 => absurd c_24 (by decide)) (fun c_24 => ?_)
    refine lv_aload_n hx hb dX5_takePart_27 rfl (lv_at hl 0 rfl) ?_
    refine lv_bipush (v := (nI 40)) hx hb dX5_takePart_28 rfl ?_
    refine z_calli (va_runV (As := [.int (nI 40)]) (rest := []) ⟨hx, hb, hml, hown, hts⟩ ((c_X5_takesZ l hG x b L p1 cs (nI 40) hb0 hL hL9 hpL) A) (cwV 1 hts gX5_takePart_X5_takes rfl rfl rfl (by decide +kernel) ⟨Nat.le_of_ble_eq_true rfl, Nat.le_of_ble_eq_true rfl⟩) (z_pV hI hK hN (z_recv hK hI (zor hG hb0) rfl)) rfl rfl hl.1 rfl (lv_room (Nat.le_of_ble_eq_true rfl)) dX5_takePart_30 ⟨Nat.zero_le _, Nat.zero_le _⟩) hI (fun r_30 u H locs hw hI => ?_)
    obtain ⟨rfl, rfl⟩ := hw
    have hin_30 : zIn L (ztke (zby x b L) (nI 40) p1 cs) := ztke_in zby_e (by decide) hpL hcs
    refine lv_if_eq (tgt := 61) hx hb dX5_takePart_33 (by decide) (fun c_33 => ?_) (fun c_33 => ?_)
    · skip
      rw [zb_0] at c_33
      have hI : zI G (zpz x b p1 cs) A s.heap H locs := by rw [ztke_f c_33] at hI; exact hI
      refine lv_aload_n hx hb dX5_takePart_61 rfl (lv_at hl 0 rfl) ?_
      refine va_ldcS hx hb hown (hSS.1 4 (131, "abkjtwr") rfl) dX5_takePart_62 ?_
      refine z_calli (va_runV (As := [.ref (aK 4)]) (rest := []) ⟨hx, hb, hml, hown, hts⟩ ((c_X5_takeOneOfZ l hG aK aV x b L p1 4 cs hb0 hL hL9 htx (by decide) hpL) A) (cwV 1 hts gX5_takePart_X5_takeOneOf rfl rfl rfl (by decide +kernel) ⟨Nat.le_of_ble_eq_true rfl, Nat.le_of_ble_eq_true rfl⟩) (z_pVS hI hK hN hSS (z_recv hK hI (zor hG hb0) rfl)) rfl rfl hl.1 rfl (lv_room (Nat.le_of_ble_eq_true rfl)) dX5_takePart_64 ⟨Nat.zero_le _, Nat.zero_le _⟩) hI (fun r_64 u H locs hw hI => ?_)
      obtain ⟨rfl, rfl⟩ := hw
      refine lv_istore_n (lv' := [(2, .int (zone 4 ((zby x b L) p1))), (0, .ref (za G b)), (1, .int (nI 0))]) hx hb dX5_takePart_67 rfl hl (by decide) rfl (fun ls hl => ?_)
      refine lv_iload_n hx hb dX5_takePart_68 rfl (lv_at hl 0 rfl) ?_
      refine lv_if_ge (tgt := 76) hx hb dX5_takePart_69 (by decide) (fun c_69 => ?_) (fun c_69 => ?_)
      · skip
        have hI : zI G (zpz x b (p1 + 1) cs) A s.heap H locs := by rw [if_neg (Int32.not_lt.mpr c_69)] at hI; exact hI
        have hp6 : p1 + 1 ≤ L := zone_n zby_e (Int32.not_lt.mpr c_69)
        refine lv_aload_n hx hb dX5_takePart_76 rfl (lv_at hl 1 rfl) ?_
        refine va_ldcS hx hb hown (hSS.1 5 (137, "<=>") rfl) dX5_takePart_77 ?_
        refine z_calli (va_runV (As := [.ref (aK 5)]) (rest := []) ⟨hx, hb, hml, hown, hts⟩ ((c_X5_takeOneOfZ l hG aK aV x b L (p1 + 1) 5 cs hb0 hL hL9 htx (by decide) hp6) A) (cwV 1 hts gX5_takePart_X5_takeOneOf rfl rfl rfl (by decide +kernel) ⟨Nat.le_of_ble_eq_true rfl, Nat.le_of_ble_eq_true rfl⟩) (z_pVS hI hK hN hSS (z_recv hK hI (zor hG hb0) rfl)) rfl rfl hl.1 rfl (lv_room (Nat.le_of_ble_eq_true rfl)) dX5_takePart_79 ⟨Nat.zero_le _, Nat.zero_le _⟩) hI (fun r_79 u H locs hw hI => ?_)
        obtain ⟨rfl, rfl⟩ := hw
        refine lv_istore_n (lv' := [(3, .int (zone 5 ((zby x b L) (p1 + 1)))), (2, .int (zone 4 ((zby x b L) p1))), (0, .ref (za G b)), (1, .int (nI 0))]) hx hb dX5_takePart_82 rfl hl (by decide) rfl (fun ls hl => ?_)
        refine lv_iload_n hx hb dX5_takePart_83 rfl (lv_at hl 0 rfl) ?_
        refine lv_if_ge (tgt := 91) hx hb dX5_takePart_84 (by decide) (fun c_84 => ?_) (fun c_84 => ?_)
        · skip
          have hI : zI G (zpz x b (p1 + 2) cs) A s.heap H locs := by rw [if_neg (Int32.not_lt.mpr c_84)] at hI; exact hI
          have hp8 : p1 + 2 ≤ L := zone_n zby_e (Int32.not_lt.mpr c_84)
          refine lv_aload_n hx hb dX5_takePart_91 rfl (lv_at hl 2 rfl) ?_
          refine z_calli (va_runV (As := []) (rest := []) ⟨hx, hb, hml, hown, hts⟩ ((c_X5_takeNumberZ l hG x b L (p1 + 2) cs hb0 hL hL9 hp8) A) (cwV 0 hts gX5_takePart_X5_takeNumber rfl rfl rfl (by decide +kernel) ⟨Nat.le_of_ble_eq_true rfl, Nat.le_of_ble_eq_true rfl⟩) (z_pV hI hK hN (z_recv hK hI (zor hG hb0) rfl)) rfl rfl hl.1 rfl (lv_room (Nat.le_of_ble_eq_true rfl)) dX5_takePart_92 ⟨Nat.zero_le _, Nat.zero_le _⟩) hI (fun r_92 u H locs hw hI => ?_)
          obtain ⟨rfl, rfl⟩ := hw
          have hin_92 : zIn L (true, (znum (zby x b L) (p1 + 2)).2, cs) := ⟨znum_in zby_e hp8, hcs⟩
          refine lv_istore (lv' := [(4, .int ((znum (zby x b L) (p1 + 2)).1)), (3, .int (zone 5 ((zby x b L) (p1 + 1)))), (2, .int (zone 4 ((zby x b L) p1))), (0, .ref (za G b)), (1, .int (nI 0))]) hx hb dX5_takePart_95 hl (by decide) rfl (fun ls hl => ?_)
          refine lv_iload hx hb dX5_takePart_97 (lv_at hl 0 rfl) ?_
          refine lv_if_lt (tgt := 124) hx hb dX5_takePart_99 (by decide) (fun c_99 => ?_) (fun c_99 => ?_)
          · skip
            have hI : zI G (zpz x b (p1 + 2) cs) A s.heap H locs := by rw [znum_n c_99] at hI; exact hI
            refine lv_iconst (v := (nI 0)) hx hb dX5_takePart_124 rfl ?_
            exact z_zret hx hb hr hlocks hI (Or.inl rfl) ((by rw [show zPa (zby x b L) 4 p1 cs = _ from (if_neg c_11).trans ((if_neg c_33).trans ((if_neg (Int32.not_lt.mpr c_69)).trans ((if_neg (Int32.not_lt.mpr c_84)).trans (if_pos c_99))))]; exact ⟨rfl, rfl⟩)) dX5_takePart_125
          · skip
            refine lv_aload_n hx hb dX5_takePart_102 rfl (lv_at hl 3 rfl) ?_
            refine lv_iload_n hx hb dX5_takePart_103 rfl (lv_at hl 2 rfl) ?_
            refine lv_iconst (v := (nI 3)) hx hb dX5_takePart_104 rfl ?_
            refine z_imul (v := (zone 4 ((zby x b L) p1) * nI 3)) hx hb rfl dX5_takePart_105 ?_
            refine lv_iload_n hx hb dX5_takePart_106 rfl (lv_at hl 1 rfl) ?_
            refine lv_iadd hx hb dX5_takePart_107 ?_
            refine lv_bipush (v := (nI 100)) hx hb dX5_takePart_108 rfl ?_
            refine lv_imul hx hb dX5_takePart_110 ?_
            refine lv_iload hx hb dX5_takePart_111 (lv_at hl 0 rfl) ?_
            refine lv_iadd hx hb dX5_takePart_113 ?_
            refine z_calli (va_runV (As := [.int ((((zone 4 ((zby x b L) p1) * nI 3) + (zone 5 ((zby x b L) (p1 + 1)))) * (nI 100)) + ((znum (zby x b L) (p1 + 2)).1))]) (rest := []) ⟨hx, hb, hml, hown, hts⟩ ((c_X5_putsZ l hG x b L (znum (zby x b L) (p1 + 2)).2 cs ((((zone 4 ((zby x b L) p1) * nI 3) + (zone 5 ((zby x b L) (p1 + 1)))) * (nI 100)) + ((znum (zby x b L) (p1 + 2)).1)) hb0 hin_92.2) A) (cwV 1 hts gX5_takePart_X5_puts rfl rfl rfl (by decide +kernel) ⟨Nat.le_of_ble_eq_true rfl, Nat.le_of_ble_eq_true rfl⟩) (z_pV hI hK hN (z_recv hK hI (zor hG hb0) rfl)) rfl rfl hl.1 rfl (lv_room (Nat.le_of_ble_eq_true rfl)) dX5_takePart_114 ⟨Nat.zero_le _, Nat.zero_le _⟩) hI (fun r_114 u H locs hw hI => ?_)
            obtain ⟨rfl, rfl⟩ := hw
            have hin_114 : zIn L (zpt ((((zone 4 ((zby x b L) p1) * nI 3) + (zone 5 ((zby x b L) (p1 + 1)))) * (nI 100)) + ((znum (zby x b L) (p1 + 2)).1)) (znum (zby x b L) (p1 + 2)).2 cs) := zpt_in hin_92.1 hin_92.2
            refine lv_if_eq (tgt := 124) hx hb dX5_takePart_117 (by decide) (fun c_117 => ?_) (fun c_117 => ?_)
            · skip
              rw [zb_0] at c_117
              refine lv_iconst (v := (nI 0)) hx hb dX5_takePart_124 rfl ?_
              exact z_zret hx hb hr hlocks hI (Or.inl rfl) ((by rw [show zPa (zby x b L) 4 p1 cs = _ from (if_neg c_11).trans ((if_neg c_33).trans ((if_neg (Int32.not_lt.mpr c_69)).trans ((if_neg (Int32.not_lt.mpr c_84)).trans (if_neg c_99))))]; exact ⟨rfl, if_neg c_117⟩)) dX5_takePart_125
            · skip
              rw [zb_0, Classical.not_not] at c_117
              refine lv_iconst (v := (nI 1)) hx hb dX5_takePart_120 rfl ?_
              refine lv_goto (tgt := 125) hx hb dX5_takePart_121 (by decide) ?_
              exact z_zret hx hb hr hlocks hI (Or.inr rfl) ((by rw [show zPa (zby x b L) 4 p1 cs = _ from (if_neg c_11).trans ((if_neg c_33).trans ((if_neg (Int32.not_lt.mpr c_69)).trans ((if_neg (Int32.not_lt.mpr c_84)).trans (if_neg c_99))))]; exact ⟨rfl, if_pos c_117⟩)) dX5_takePart_125
        · skip
          have hI : zI G (zpz x b (p1 + 1) cs) A s.heap H locs := by rw [if_pos (Int32.not_le.mp c_84)] at hI; exact hI
          refine lv_iconst (v := (-1)) hx hb dX5_takePart_87 rfl ?_
          refine lv_goto (tgt := 95) hx hb dX5_takePart_88 (by decide) ?_
          refine lv_istore (lv' := [(4, .int (-1)), (3, .int (zone 5 ((zby x b L) (p1 + 1)))), (2, .int (zone 4 ((zby x b L) p1))), (0, .ref (za G b)), (1, .int (nI 0))]) hx hb dX5_takePart_95 hl (by decide) rfl (fun ls hl => ?_)
          refine lv_iload hx hb dX5_takePart_97 (lv_at hl 0 rfl) ?_
          refine lv_if_lt (tgt := 124) hx hb dX5_takePart_99 (by decide) (fun c_99 => ?_) (fun c_99 => ?_)
          · skip
            refine lv_iconst (v := (nI 0)) hx hb dX5_takePart_124 rfl ?_
            exact z_zret hx hb hr hlocks hI (Or.inl rfl) ((by rw [show zPa (zby x b L) 4 p1 cs = _ from (if_neg c_11).trans ((if_neg c_33).trans ((if_neg (Int32.not_lt.mpr c_69)).trans (if_pos (Int32.not_le.mp c_84))))]; exact ⟨rfl, rfl⟩)) dX5_takePart_125
          · skip
            exact absurd (by decide) c_99
      · skip
        have hI : zI G (zpz x b p1 cs) A s.heap H locs := by rw [if_pos (Int32.not_le.mp c_69)] at hI; exact hI
        refine lv_iconst (v := (-1)) hx hb dX5_takePart_72 rfl ?_
        refine lv_goto (tgt := 82) hx hb dX5_takePart_73 (by decide) ?_
        refine lv_istore_n (lv' := [(3, .int (-1)), (2, .int (zone 4 ((zby x b L) p1))), (0, .ref (za G b)), (1, .int (nI 0))]) hx hb dX5_takePart_82 rfl hl (by decide) rfl (fun ls hl => ?_)
        refine lv_iload_n hx hb dX5_takePart_83 rfl (lv_at hl 0 rfl) ?_
        refine lv_if_ge (tgt := 91) hx hb dX5_takePart_84 (by decide) (fun c_84 => ?_) (fun c_84 => ?_)
        · skip
          exact absurd c_84 (by decide)
        · skip
          refine lv_iconst (v := (-1)) hx hb dX5_takePart_87 rfl ?_
          refine lv_goto (tgt := 95) hx hb dX5_takePart_88 (by decide) ?_
          refine lv_istore (lv' := [(4, .int (-1)), (3, .int (-1)), (2, .int (zone 4 ((zby x b L) p1))), (0, .ref (za G b)), (1, .int (nI 0))]) hx hb dX5_takePart_95 hl (by decide) rfl (fun ls hl => ?_)
          refine lv_iload hx hb dX5_takePart_97 (lv_at hl 0 rfl) ?_
          refine lv_if_lt (tgt := 124) hx hb dX5_takePart_99 (by decide) (fun c_99 => ?_) (fun c_99 => ?_)
          · skip
            refine lv_iconst (v := (nI 0)) hx hb dX5_takePart_124 rfl ?_
            exact z_zret hx hb hr hlocks hI (Or.inl rfl) ((by rw [show zPa (zby x b L) 4 p1 cs = _ from (if_neg c_11).trans ((if_neg c_33).trans (if_pos (Int32.not_le.mp c_69)))]; exact ⟨rfl, rfl⟩)) dX5_takePart_125
          · skip
            exact absurd (by decide) c_99
    · skip
      rw [zb_0, Classical.not_not] at c_33
      refine lv_aload_n hx hb dX5_takePart_36 rfl (lv_at hl 0 rfl) ?_
      refine lv_iload_n hx hb dX5_takePart_37 rfl (lv_at hl 1 rfl) ?_
      refine lv_iconst (v := (nI 1)) hx hb dX5_takePart_38 rfl ?_
      refine z_iadd (v := (nI 1)) hx hb (nI_add 0 1) dX5_takePart_39 ?_
      refine z_calli (va_runV (As := [.int (nI 1)]) (rest := []) ⟨hx, hb, hml, hown, hts⟩ ((c_X5_takeEither3 l hG aK aV x b L (ztke (zby x b L) (nI 40) p1 cs).2.1 (ztke (zby x b L) (nI 40) p1 cs).2.2 hb0 hL hL9 htx hin_30.1 hin_30.2) A) (cwV 1 hts gX5_takePart_X5_takeEither rfl rfl rfl (by decide +kernel) ⟨Nat.le_of_ble_eq_true rfl, Nat.le_of_ble_eq_true rfl⟩) (z_pVS hI hK hN hSS (z_recv hK hI (zor hG hb0) rfl)) rfl rfl hl.1 rfl (lv_room (Nat.le_of_ble_eq_true rfl)) dX5_takePart_40 ⟨Nat.zero_le _, Nat.zero_le _⟩) hI (fun r_40 u H locs hw hI => ?_)
      obtain ⟨rfl, rfl⟩ := hw
      have hin_40 : zIn L (zEi (zPa (zby x b L) 3) (zby x b L) (ztke (zby x b L) (nI 40) p1 cs).2.1 (ztke (zby x b L) (nI 40) p1 cs).2.2) := zEi_in zby_e (fun p cs => zPa_in zby_e 3 p cs) _ _ hin_30.1 hin_30.2
      refine lv_if_eq (tgt := 59) hx hb dX5_takePart_43 (by decide) (fun c_43 => ?_) (fun c_43 => ?_)
      · skip
        rw [zb_0] at c_43
        refine lv_iconst (v := (nI 0)) hx hb dX5_takePart_59 rfl ?_
        exact z_zret hx hb hr hlocks hI (Or.inl rfl) ((by rw [show zPa (zby x b L) 4 p1 cs = _ from (if_neg c_11).trans ((if_pos c_33).trans (if_neg c_43))]; exact ⟨rfl, if_neg c_43⟩)) dX5_takePart_60
      · skip
        rw [zb_0, Classical.not_not] at c_43
        refine lv_aload_n hx hb dX5_takePart_46 rfl (lv_at hl 0 rfl) ?_
        refine lv_bipush (v := (nI 41)) hx hb dX5_takePart_47 rfl ?_
        refine z_calli (va_runV (As := [.int (nI 41)]) (rest := []) ⟨hx, hb, hml, hown, hts⟩ ((c_X5_takesZ l hG x b L (zEi (zPa (zby x b L) 3) (zby x b L) (ztke (zby x b L) (nI 40) p1 cs).2.1 (ztke (zby x b L) (nI 40) p1 cs).2.2).2.1 (zEi (zPa (zby x b L) 3) (zby x b L) (ztke (zby x b L) (nI 40) p1 cs).2.1 (ztke (zby x b L) (nI 40) p1 cs).2.2).2.2 (nI 41) hb0 hL hL9 hin_40.1) A) (cwV 1 hts gX5_takePart_X5_takes rfl rfl rfl (by decide +kernel) ⟨Nat.le_of_ble_eq_true rfl, Nat.le_of_ble_eq_true rfl⟩) (z_pV hI hK hN (z_recv hK hI (zor hG hb0) rfl)) rfl rfl hl.1 rfl (lv_room (Nat.le_of_ble_eq_true rfl)) dX5_takePart_49 ⟨Nat.zero_le _, Nat.zero_le _⟩) hI (fun r_49 u H locs hw hI => ?_)
        obtain ⟨rfl, rfl⟩ := hw
        have hin_49 : zIn L (ztke (zby x b L) (nI 41) (zEi (zPa (zby x b L) 3) (zby x b L) (ztke (zby x b L) (nI 40) p1 cs).2.1 (ztke (zby x b L) (nI 40) p1 cs).2.2).2.1 (zEi (zPa (zby x b L) 3) (zby x b L) (ztke (zby x b L) (nI 40) p1 cs).2.1 (ztke (zby x b L) (nI 40) p1 cs).2.2).2.2) := ztke_in zby_e (by decide) hin_40.1 hin_40.2
        refine lv_if_eq (tgt := 59) hx hb dX5_takePart_52 (by decide) (fun c_52 => ?_) (fun c_52 => ?_)
        · skip
          rw [zb_0] at c_52
          refine lv_iconst (v := (nI 0)) hx hb dX5_takePart_59 rfl ?_
          exact z_zret hx hb hr hlocks hI (Or.inl rfl) ((by rw [show zPa (zby x b L) 4 p1 cs = _ from (if_neg c_11).trans ((if_pos c_33).trans (if_pos c_43))]; exact ⟨rfl, if_neg c_52⟩)) dX5_takePart_60
        · skip
          rw [zb_0, Classical.not_not] at c_52
          refine lv_iconst (v := (nI 1)) hx hb dX5_takePart_55 rfl ?_
          refine lv_goto (tgt := 60) hx hb dX5_takePart_56 (by decide) ?_
          exact z_zret hx hb hr hlocks hI (Or.inr rfl) ((by rw [show zPa (zby x b L) 4 p1 cs = _ from (if_neg c_11).trans ((if_pos c_33).trans (if_pos c_43))]; exact ⟨rfl, if_pos c_52⟩)) dX5_takePart_60
  · skip
    rw [zb_0, Classical.not_not] at c_11
    refine lv_aload_n hx hb dX5_takePart_14 rfl (lv_at hl 0 rfl) ?_
    refine lv_iload_n hx hb dX5_takePart_15 rfl (lv_at hl 1 rfl) ?_
    refine lv_iconst (v := (nI 1)) hx hb dX5_takePart_16 rfl ?_
    refine z_iadd (v := (nI 1)) hx hb (nI_add 0 1) dX5_takePart_17 ?_
    refine z_calli (va_runV (As := [.int (nI 1)]) (rest := []) ⟨hx, hb, hml, hown, hts⟩ ((c_X5_takeNot3 l hG aK aV x b L (ztke (zby x b L) (nI 33) p1 cs).2.1 (ztke (zby x b L) (nI 33) p1 cs).2.2 hb0 hL hL9 htx hin_8.1 hin_8.2) A) (cwV 1 hts gX5_takePart_X5_takeNot rfl rfl rfl (by decide +kernel) ⟨Nat.le_of_ble_eq_true rfl, Nat.le_of_ble_eq_true rfl⟩) (z_pVS hI hK hN hSS (z_recv hK hI (zor hG hb0) rfl)) rfl rfl hl.1 rfl (lv_room (Nat.le_of_ble_eq_true rfl)) dX5_takePart_18 ⟨Nat.zero_le _, Nat.zero_le _⟩) hI (fun r_18 u H locs hw hI => ?_)
    obtain ⟨rfl, rfl⟩ := hw
    have hin_18 : zIn L (zNt (zPa (zby x b L) 3) (ztke (zby x b L) (nI 33) p1 cs).2.1 (ztke (zby x b L) (nI 33) p1 cs).2.2) := zNt_in (fun p cs => zPa_in zby_e 3 p cs) _ _ hin_8.1 hin_8.2
    exact z_zret hx hb hr hlocks hI (zb01 _) ((by rw [show zPa (zby x b L) 4 p1 cs = _ from if_pos (Classical.not_not.mp (fun h9 => h9 c_11))]; exact ⟨rfl, rfl⟩)) dX5_takePart_21
set_option maxHeartbeats 1000000 in
set_option maxRecDepth 100000 in
theorem c_X5_takeEach4 (l : Launch) {G : zG} (hG : zOK G) (aK aV : Nat → Nat) (x : zX) (b L p1 : Nat) (cs : List Int32) (hb0 : zRm b) (hL : x.1 b 8 = nI L) (hL9 : L ≤ 100) (htx : zTx x b) (hpL : p1 ≤ L) (hcs : cs.length ≤ 100) : zMiS l yX5_takeEach wsX5_takeEach { frames := 18, cells := 0, slots := 0, locals := 433 } G aK aV [.ref (za G b), .int (nI 0)] (zpz x b p1 cs) (fun (r : Int32) (u : zX) => zr3 x b (zEa (zPa (zby x b L) 4) (zby x b L) p1 cs) r u) := by
  intro A
  refine zBodyS (cc := cX5_takeEach) (maxL := 4) (ret := (some .boolean)) (by decide) rfl (Nat.le_of_ble_eq_true rfl) ?_
  intro p e s m below meth c hx hb hml hown hts hr hlocks hK hN hSS hI ls hl
  have hown : s.vm.findClass RX5 = some m.cls := hown
  have hl : lv_has ls 4 [(0, .ref (za G b)), (1, .int (nI 0))] := hl
  refine lv_aload_n hx hb dX5_takeEach_0 rfl (lv_at hl 0 rfl) ?_
  refine lv_iload_n hx hb dX5_takeEach_1 rfl (lv_at hl 1 rfl) ?_
  refine z_calli (va_runV (As := [.int (nI 0)]) (rest := []) ⟨hx, hb, hml, hown, hts⟩ ((c_X5_takePart4 l hG aK aV x b L p1 cs hb0 hL hL9 htx hpL hcs) A) (cwV 1 hts gX5_takeEach_X5_takePart rfl rfl rfl (by decide +kernel) ⟨Nat.le_of_ble_eq_true rfl, Nat.le_of_ble_eq_true rfl⟩) (z_pVS hI hK hN hSS (z_recv hK hI (zor hG hb0) rfl)) rfl rfl hl.1 rfl (lv_room (Nat.le_of_ble_eq_true rfl)) dX5_takeEach_2 ⟨Nat.zero_le _, Nat.zero_le _⟩) hI (fun r_2 u H locs hw hI => ?_)
  obtain ⟨rfl, rfl⟩ := hw
  have hin_2 : zIn L (zPa (zby x b L) 4 p1 cs) := zPa_in zby_e 4 _ _ hpL hcs
  refine lv_istore_n (lv' := [(2, .int (if (zPa (zby x b L) 4 p1 cs).1 = true then nI 1 else nI 0)), (0, .ref (za G b)), (1, .int (nI 0))]) hx hb dX5_takeEach_5 rfl hl (by decide) rfl (fun ls hl => ?_)
  refine lv_iconst (v := (nI 0)) hx hb dX5_takeEach_6 rfl ?_
  refine lv_istore_n (lv' := [(3, .int (nI 0)), (2, .int (if (zPa (zby x b L) 4 p1 cs).1 = true then nI 1 else nI 0)), (0, .ref (za G b)), (1, .int (nI 0))]) hx hb dX5_takeEach_7 rfl hl (by decide) rfl (fun ls hl => ?_)
  have L8 : ∀ (f : Nat) (i : Nat) (r : zPR), (i ≤ 100) → (zLp (zPa (zby x b L) 4) (zby x b L) (nI 38) (-2) (100 - i) r = zEa (zPa (zby x b L) 4) (zby x b L) p1 cs) → (zIn L r) → 101 ≤ i + f → ∀ (H : Heap) (locs : List Loc), zI G (zpz x b r.2.1 r.2.2) A s.heap H locs → ∀ ls : Array Slot, lv_has ls 4 [(0, .ref (za G b)), (1, .int (nI 0)), (2, .int (if r.1 = true then nI 1 else nI 0)), (3, .int (nI i))] → W p l e { frames := 18, cells := 0, slots := 0, locals := 433 } s m ([.ref (za G b), .int (nI 0)] : List Value).toArray below meth c H locs 0 0 (MQ below (va_Qi (fun (r : Int32) (u : zX) => zr3 x b (zEa (zPa (zby x b L) 4) (zby x b L) p1 cs) r u) (fun u t => zJ G u A t.heap) A) ([.ref (za G b), .int (nI 0)] : List Value).toArray s 0 0 A) (F0 m 8 ls []) := by
    intro f
    induction f with
    | zero =>
      intro i r h1 h2 h3 hf
      exact absurd hf (by omega)
    | succ f ih =>
      intro i r h1 h2 h3 hf H locs hI ls hl
      have ih8 := ih
      refine lv_iload_n hx hb dX5_takeEach_8 rfl (lv_at hl 3 rfl) ?_
      refine lv_bipush (v := (nI 100)) hx hb dX5_takeEach_9 rfl ?_
      refine lv_icmp_ge (tgt := 56) hx hb dX5_takeEach_11 (by decide) (fun c_11 => ?_) (fun c_11 => ?_)
      · skip
        rw [zqG (by omega) (by omega)] at c_11
        have hzx : zLp (zPa (zby x b L) 4) (zby x b L) (nI 38) (-2) (100 - i) r = r := by rw [show 100 - i = 0 by omega]; rfl
        have hfin : zEa (zPa (zby x b L) 4) (zby x b L) p1 cs = r := h2.symm.trans hzx
        refine lv_iload_n hx hb dX5_takeEach_56 rfl (lv_at hl 2 rfl) ?_
        exact z_zret hx hb hr hlocks hI (zb01 _) (by rw [hfin]; exact ⟨rfl, rfl⟩) dX5_takeEach_57
      · skip
        rw [zqG (by omega) (by omega)] at c_11
        refine lv_iload_n hx hb dX5_takeEach_14 rfl (lv_at hl 2 rfl) ?_
        refine lv_if_eq (tgt := 56) hx hb dX5_takeEach_15 (by decide) (fun c_15 => ?_) (fun c_15 => ?_)
        · skip
          rw [zb_0] at c_15
          have hzx : zLp (zPa (zby x b L) 4) (zby x b L) (nI 38) (-2) (100 - i) r = r := zLp_x (fun h9 => c_15 h9.1) _
          have hfin : zEa (zPa (zby x b L) 4) (zby x b L) p1 cs = r := h2.symm.trans hzx
          refine lv_iload_n hx hb dX5_takeEach_56 rfl (lv_at hl 2 rfl) ?_
          exact z_zret hx hb hr hlocks hI (zb01 _) (by rw [hfin]; exact ⟨rfl, rfl⟩) dX5_takeEach_57
        · skip
          rw [zb_0, Classical.not_not] at c_15
          refine lv_aload_n hx hb dX5_takeEach_18 rfl (lv_at hl 0 rfl) ?_
          refine lv_bipush (v := (nI 38)) hx hb dX5_takeEach_19 rfl ?_
          refine z_calli (va_runV (As := [.int (nI 38)]) (rest := []) ⟨hx, hb, hml, hown, hts⟩ ((c_X5_takesZ l hG x b L r.2.1 r.2.2 (nI 38) hb0 hL hL9 h3.1) A) (cwV 1 hts gX5_takeEach_X5_takes rfl rfl rfl (by decide +kernel) ⟨Nat.le_of_ble_eq_true rfl, Nat.le_of_ble_eq_true rfl⟩) (z_pV hI hK hN (z_recv hK hI (zor hG hb0) rfl)) rfl rfl hl.1 rfl (lv_room (Nat.le_of_ble_eq_true rfl)) dX5_takeEach_21 ⟨Nat.zero_le _, Nat.zero_le _⟩) hI (fun r_21 u H locs hw hI => ?_)
          obtain ⟨rfl, rfl⟩ := hw
          have hin_21 : zIn L (ztke (zby x b L) (nI 38) r.2.1 r.2.2) := ztke_in zby_e (by decide) h3.1 h3.2
          refine lv_if_eq (tgt := 56) hx hb dX5_takeEach_24 (by decide) (fun c_24 => ?_) (fun c_24 => ?_)
          · skip
            rw [zb_0] at c_24
            have hI : zI G (zpz x b r.2.1 r.2.2) A s.heap H locs := by rw [ztke_f c_24] at hI; exact hI
            have hzx : zLp (zPa (zby x b L) 4) (zby x b L) (nI 38) (-2) (100 - i) r = r := zLp_x (fun h9 => c_24 h9.2) _
            have hfin : zEa (zPa (zby x b L) 4) (zby x b L) p1 cs = r := h2.symm.trans hzx
            refine lv_iload_n hx hb dX5_takeEach_56 rfl (lv_at hl 2 rfl) ?_
            exact z_zret hx hb hr hlocks hI (zb01 _) (by rw [hfin]; exact ⟨rfl, rfl⟩) dX5_takeEach_57
          · skip
            rw [zb_0, Classical.not_not] at c_24
            refine lv_aload_n hx hb dX5_takeEach_27 rfl (lv_at hl 0 rfl) ?_
            refine lv_iload_n hx hb dX5_takeEach_28 rfl (lv_at hl 1 rfl) ?_
            refine z_calli (va_runV (As := [.int (nI 0)]) (rest := []) ⟨hx, hb, hml, hown, hts⟩ ((c_X5_takePart4 l hG aK aV x b L (ztke (zby x b L) (nI 38) r.2.1 r.2.2).2.1 (ztke (zby x b L) (nI 38) r.2.1 r.2.2).2.2 hb0 hL hL9 htx hin_21.1 hin_21.2) A) (cwV 1 hts gX5_takeEach_X5_takePart rfl rfl rfl (by decide +kernel) ⟨Nat.le_of_ble_eq_true rfl, Nat.le_of_ble_eq_true rfl⟩) (z_pVS hI hK hN hSS (z_recv hK hI (zor hG hb0) rfl)) rfl rfl hl.1 rfl (lv_room (Nat.le_of_ble_eq_true rfl)) dX5_takeEach_29 ⟨Nat.zero_le _, Nat.zero_le _⟩) hI (fun r_29 u H locs hw hI => ?_)
            obtain ⟨rfl, rfl⟩ := hw
            have hin_29 : zIn L (zPa (zby x b L) 4 (ztke (zby x b L) (nI 38) r.2.1 r.2.2).2.1 (ztke (zby x b L) (nI 38) r.2.1 r.2.2).2.2) := zPa_in zby_e 4 _ _ hin_21.1 hin_21.2
            refine lv_if_eq (tgt := 48) hx hb dX5_takeEach_32 (by decide) (fun c_32 => ?_) (fun c_32 => ?_)
            · skip
              rw [zb_0] at c_32
              refine lv_iconst (v := (nI 0)) hx hb dX5_takeEach_48 rfl ?_
              refine lv_istore_n (lv' := [(2, .int (nI 0)), (0, .ref (za G b)), (1, .int (nI 0)), (3, .int (nI i))]) hx hb dX5_takeEach_49 rfl hl (by decide) rfl (fun ls hl => ?_)
              refine lv_iinc (v := (nI (i + 1))) (lv' := [(3, .int (nI (i + 1))), (2, .int (nI 0)), (0, .ref (za G b)), (1, .int (nI 0))]) hx hb dX5_takeEach_50 hl (k := 3) rfl (zinc i) (by decide) rfl (fun ls hl => ?_)
              refine lv_goto (tgt := 8) hx hb dX5_takeEach_53 (by decide) ?_
              exact ih8 (i + 1) (zth (zPa (zby x b L) 4 (ztke (zby x b L) (nI 38) r.2.1 r.2.2).2.1 (ztke (zby x b L) (nI 38) r.2.1 r.2.2).2.2) (zpt (-2))) (by omega) (by rw [← h2, show 100 - i = 100 - (i + 1) + 1 by omega, zLp, if_pos ⟨c_15, c_24⟩]) (zth_in hin_29 (fun h9 => zpt_in h9.1 h9.2)) (by omega) _ _ (by rw [show (zth (zPa (zby x b L) 4 (ztke (zby x b L) (nI 38) r.2.1 r.2.2).2.1 (ztke (zby x b L) (nI 38) r.2.1 r.2.2).2.2) (zpt (-2))) = (zPa (zby x b L) 4 (ztke (zby x b L) (nI 38) r.2.1 r.2.2).2.1 (ztke (zby x b L) (nI 38) r.2.1 r.2.2).2.2) from if_neg c_32]; exact hI) ls (by rw [show (zth (zPa (zby x b L) 4 (ztke (zby x b L) (nI 38) r.2.1 r.2.2).2.1 (ztke (zby x b L) (nI 38) r.2.1 r.2.2).2.2) (zpt (-2))) = (zPa (zby x b L) 4 (ztke (zby x b L) (nI 38) r.2.1 r.2.2).2.1 (ztke (zby x b L) (nI 38) r.2.1 r.2.2).2.2) from if_neg c_32, if_neg c_32]; exact lv_sub hl [2, 3, 1, 0] rfl)
            · skip
              rw [zb_0, Classical.not_not] at c_32
              refine lv_aload_n hx hb dX5_takeEach_35 rfl (lv_at hl 0 rfl) ?_
              refine lv_bipush (v := (-2)) hx hb dX5_takeEach_36 rfl ?_
              refine z_calli (va_runV (As := [.int (-2)]) (rest := []) ⟨hx, hb, hml, hown, hts⟩ ((c_X5_putsZ l hG x b L (zPa (zby x b L) 4 (ztke (zby x b L) (nI 38) r.2.1 r.2.2).2.1 (ztke (zby x b L) (nI 38) r.2.1 r.2.2).2.2).2.1 (zPa (zby x b L) 4 (ztke (zby x b L) (nI 38) r.2.1 r.2.2).2.1 (ztke (zby x b L) (nI 38) r.2.1 r.2.2).2.2).2.2 (-2) hb0 hin_29.2) A) (cwV 1 hts gX5_takeEach_X5_puts rfl rfl rfl (by decide +kernel) ⟨Nat.le_of_ble_eq_true rfl, Nat.le_of_ble_eq_true rfl⟩) (z_pV hI hK hN (z_recv hK hI (zor hG hb0) rfl)) rfl rfl hl.1 rfl (lv_room (Nat.le_of_ble_eq_true rfl)) dX5_takeEach_38 ⟨Nat.zero_le _, Nat.zero_le _⟩) hI (fun r_38 u H locs hw hI => ?_)
              obtain ⟨rfl, rfl⟩ := hw
              have hin_38 : zIn L (zpt (-2) (zPa (zby x b L) 4 (ztke (zby x b L) (nI 38) r.2.1 r.2.2).2.1 (ztke (zby x b L) (nI 38) r.2.1 r.2.2).2.2).2.1 (zPa (zby x b L) 4 (ztke (zby x b L) (nI 38) r.2.1 r.2.2).2.1 (ztke (zby x b L) (nI 38) r.2.1 r.2.2).2.2).2.2) := zpt_in hin_29.1 hin_29.2
              refine lv_if_eq (tgt := 48) hx hb dX5_takeEach_41 (by decide) (fun c_41 => ?_) (fun c_41 => ?_)
              · skip
                rw [zb_0] at c_41
                refine lv_iconst (v := (nI 0)) hx hb dX5_takeEach_48 rfl ?_
                refine lv_istore_n (lv' := [(2, .int (nI 0)), (0, .ref (za G b)), (1, .int (nI 0)), (3, .int (nI i))]) hx hb dX5_takeEach_49 rfl hl (by decide) rfl (fun ls hl => ?_)
                refine lv_iinc (v := (nI (i + 1))) (lv' := [(3, .int (nI (i + 1))), (2, .int (nI 0)), (0, .ref (za G b)), (1, .int (nI 0))]) hx hb dX5_takeEach_50 hl (k := 3) rfl (zinc i) (by decide) rfl (fun ls hl => ?_)
                refine lv_goto (tgt := 8) hx hb dX5_takeEach_53 (by decide) ?_
                exact ih8 (i + 1) (zth (zPa (zby x b L) 4 (ztke (zby x b L) (nI 38) r.2.1 r.2.2).2.1 (ztke (zby x b L) (nI 38) r.2.1 r.2.2).2.2) (zpt (-2))) (by omega) (by rw [← h2, show 100 - i = 100 - (i + 1) + 1 by omega, zLp, if_pos ⟨c_15, c_24⟩]) (zth_in hin_29 (fun h9 => zpt_in h9.1 h9.2)) (by omega) _ _ (by rw [show (zth (zPa (zby x b L) 4 (ztke (zby x b L) (nI 38) r.2.1 r.2.2).2.1 (ztke (zby x b L) (nI 38) r.2.1 r.2.2).2.2) (zpt (-2))) = (zpt (-2) (zPa (zby x b L) 4 (ztke (zby x b L) (nI 38) r.2.1 r.2.2).2.1 (ztke (zby x b L) (nI 38) r.2.1 r.2.2).2.2).2.1 (zPa (zby x b L) 4 (ztke (zby x b L) (nI 38) r.2.1 r.2.2).2.1 (ztke (zby x b L) (nI 38) r.2.1 r.2.2).2.2).2.2) from if_pos c_32]; exact hI) ls (by rw [show (zth (zPa (zby x b L) 4 (ztke (zby x b L) (nI 38) r.2.1 r.2.2).2.1 (ztke (zby x b L) (nI 38) r.2.1 r.2.2).2.2) (zpt (-2))) = (zpt (-2) (zPa (zby x b L) 4 (ztke (zby x b L) (nI 38) r.2.1 r.2.2).2.1 (ztke (zby x b L) (nI 38) r.2.1 r.2.2).2.2).2.1 (zPa (zby x b L) 4 (ztke (zby x b L) (nI 38) r.2.1 r.2.2).2.1 (ztke (zby x b L) (nI 38) r.2.1 r.2.2).2.2).2.2) from if_pos c_32, if_neg c_41]; exact lv_sub hl [2, 3, 1, 0] rfl)
              · skip
                rw [zb_0, Classical.not_not] at c_41
                refine lv_iconst (v := (nI 1)) hx hb dX5_takeEach_44 rfl ?_
                refine lv_goto (tgt := 49) hx hb dX5_takeEach_45 (by decide) ?_
                refine lv_istore_n (lv' := [(2, .int (nI 1)), (0, .ref (za G b)), (1, .int (nI 0)), (3, .int (nI i))]) hx hb dX5_takeEach_49 rfl hl (by decide) rfl (fun ls hl => ?_)
                refine lv_iinc (v := (nI (i + 1))) (lv' := [(3, .int (nI (i + 1))), (2, .int (nI 1)), (0, .ref (za G b)), (1, .int (nI 0))]) hx hb dX5_takeEach_50 hl (k := 3) rfl (zinc i) (by decide) rfl (fun ls hl => ?_)
                refine lv_goto (tgt := 8) hx hb dX5_takeEach_53 (by decide) ?_
                exact ih8 (i + 1) (zth (zPa (zby x b L) 4 (ztke (zby x b L) (nI 38) r.2.1 r.2.2).2.1 (ztke (zby x b L) (nI 38) r.2.1 r.2.2).2.2) (zpt (-2))) (by omega) (by rw [← h2, show 100 - i = 100 - (i + 1) + 1 by omega, zLp, if_pos ⟨c_15, c_24⟩]) (zth_in hin_29 (fun h9 => zpt_in h9.1 h9.2)) (by omega) _ _ (by rw [show (zth (zPa (zby x b L) 4 (ztke (zby x b L) (nI 38) r.2.1 r.2.2).2.1 (ztke (zby x b L) (nI 38) r.2.1 r.2.2).2.2) (zpt (-2))) = (zpt (-2) (zPa (zby x b L) 4 (ztke (zby x b L) (nI 38) r.2.1 r.2.2).2.1 (ztke (zby x b L) (nI 38) r.2.1 r.2.2).2.2).2.1 (zPa (zby x b L) 4 (ztke (zby x b L) (nI 38) r.2.1 r.2.2).2.1 (ztke (zby x b L) (nI 38) r.2.1 r.2.2).2.2).2.2) from if_pos c_32]; exact hI) ls (by rw [show (zth (zPa (zby x b L) 4 (ztke (zby x b L) (nI 38) r.2.1 r.2.2).2.1 (ztke (zby x b L) (nI 38) r.2.1 r.2.2).2.2) (zpt (-2))) = (zpt (-2) (zPa (zby x b L) 4 (ztke (zby x b L) (nI 38) r.2.1 r.2.2).2.1 (ztke (zby x b L) (nI 38) r.2.1 r.2.2).2.2).2.1 (zPa (zby x b L) 4 (ztke (zby x b L) (nI 38) r.2.1 r.2.2).2.1 (ztke (zby x b L) (nI 38) r.2.1 r.2.2).2.2).2.2) from if_pos c_32, if_pos c_41]; exact lv_sub hl [2, 3, 1, 0] rfl)
  exact L8 (101) 0 (zPa (zby x b L) 4 p1 cs) (by omega) rfl hin_2 (by omega) _ _ hI ls (lv_sub hl [2, 3, 1, 0] rfl)
set_option maxHeartbeats 1000000 in
set_option maxRecDepth 100000 in
theorem c_X5_takeEither4 (l : Launch) {G : zG} (hG : zOK G) (aK aV : Nat → Nat) (x : zX) (b L p1 : Nat) (cs : List Int32) (hb0 : zRm b) (hL : x.1 b 8 = nI L) (hL9 : L ≤ 100) (htx : zTx x b) (hpL : p1 ≤ L) (hcs : cs.length ≤ 100) : zMiS l yX5_takeEither wsX5_takeEither { frames := 19, cells := 0, slots := 0, locals := 456 } G aK aV [.ref (za G b), .int (nI 0)] (zpz x b p1 cs) (fun (r : Int32) (u : zX) => zr3 x b (zEi (zPa (zby x b L) 4) (zby x b L) p1 cs) r u) := by
  intro A
  refine zBodyS (cc := cX5_takeEither) (maxL := 4) (ret := (some .boolean)) (by decide) rfl (Nat.le_of_ble_eq_true rfl) ?_
  intro p e s m below meth c hx hb hml hown hts hr hlocks hK hN hSS hI ls hl
  have hown : s.vm.findClass RX5 = some m.cls := hown
  have hl : lv_has ls 4 [(0, .ref (za G b)), (1, .int (nI 0))] := hl
  refine lv_aload_n hx hb dX5_takeEither_0 rfl (lv_at hl 0 rfl) ?_
  refine lv_iload_n hx hb dX5_takeEither_1 rfl (lv_at hl 1 rfl) ?_
  refine z_calli (va_runV (As := [.int (nI 0)]) (rest := []) ⟨hx, hb, hml, hown, hts⟩ ((c_X5_takeEach4 l hG aK aV x b L p1 cs hb0 hL hL9 htx hpL hcs) A) (cwV 1 hts gX5_takeEither_X5_takeEach rfl rfl rfl (by decide +kernel) ⟨Nat.le_of_ble_eq_true rfl, Nat.le_of_ble_eq_true rfl⟩) (z_pVS hI hK hN hSS (z_recv hK hI (zor hG hb0) rfl)) rfl rfl hl.1 rfl (lv_room (Nat.le_of_ble_eq_true rfl)) dX5_takeEither_2 ⟨Nat.zero_le _, Nat.zero_le _⟩) hI (fun r_2 u H locs hw hI => ?_)
  obtain ⟨rfl, rfl⟩ := hw
  have hin_2 : zIn L (zEa (zPa (zby x b L) 4) (zby x b L) p1 cs) := zEa_in zby_e (fun p cs => zPa_in zby_e 4 p cs) _ _ hpL hcs
  refine lv_istore_n (lv' := [(2, .int (if (zEa (zPa (zby x b L) 4) (zby x b L) p1 cs).1 = true then nI 1 else nI 0)), (0, .ref (za G b)), (1, .int (nI 0))]) hx hb dX5_takeEither_5 rfl hl (by decide) rfl (fun ls hl => ?_)
  refine lv_iconst (v := (nI 0)) hx hb dX5_takeEither_6 rfl ?_
  refine lv_istore_n (lv' := [(3, .int (nI 0)), (2, .int (if (zEa (zPa (zby x b L) 4) (zby x b L) p1 cs).1 = true then nI 1 else nI 0)), (0, .ref (za G b)), (1, .int (nI 0))]) hx hb dX5_takeEither_7 rfl hl (by decide) rfl (fun ls hl => ?_)
  have L8 : ∀ (f : Nat) (i : Nat) (r : zPR), (i ≤ 100) → (zLp (zEa (zPa (zby x b L) 4) (zby x b L)) (zby x b L) (nI 124) (-3) (100 - i) r = zEi (zPa (zby x b L) 4) (zby x b L) p1 cs) → (zIn L r) → 101 ≤ i + f → ∀ (H : Heap) (locs : List Loc), zI G (zpz x b r.2.1 r.2.2) A s.heap H locs → ∀ ls : Array Slot, lv_has ls 4 [(0, .ref (za G b)), (1, .int (nI 0)), (2, .int (if r.1 = true then nI 1 else nI 0)), (3, .int (nI i))] → W p l e { frames := 19, cells := 0, slots := 0, locals := 456 } s m ([.ref (za G b), .int (nI 0)] : List Value).toArray below meth c H locs 0 0 (MQ below (va_Qi (fun (r : Int32) (u : zX) => zr3 x b (zEi (zPa (zby x b L) 4) (zby x b L) p1 cs) r u) (fun u t => zJ G u A t.heap) A) ([.ref (za G b), .int (nI 0)] : List Value).toArray s 0 0 A) (F0 m 8 ls []) := by
    intro f
    induction f with
    | zero =>
      intro i r h1 h2 h3 hf
      exact absurd hf (by omega)
    | succ f ih =>
      intro i r h1 h2 h3 hf H locs hI ls hl
      have ih8 := ih
      refine lv_iload_n hx hb dX5_takeEither_8 rfl (lv_at hl 3 rfl) ?_
      refine lv_bipush (v := (nI 100)) hx hb dX5_takeEither_9 rfl ?_
      refine lv_icmp_ge (tgt := 56) hx hb dX5_takeEither_11 (by decide) (fun c_11 => ?_) (fun c_11 => ?_)
      · skip
        rw [zqG (by omega) (by omega)] at c_11
        have hzx : zLp (zEa (zPa (zby x b L) 4) (zby x b L)) (zby x b L) (nI 124) (-3) (100 - i) r = r := by rw [show 100 - i = 0 by omega]; rfl
        have hfin : zEi (zPa (zby x b L) 4) (zby x b L) p1 cs = r := h2.symm.trans hzx
        refine lv_iload_n hx hb dX5_takeEither_56 rfl (lv_at hl 2 rfl) ?_
        exact z_zret hx hb hr hlocks hI (zb01 _) (by rw [hfin]; exact ⟨rfl, rfl⟩) dX5_takeEither_57
      · skip
        rw [zqG (by omega) (by omega)] at c_11
        refine lv_iload_n hx hb dX5_takeEither_14 rfl (lv_at hl 2 rfl) ?_
        refine lv_if_eq (tgt := 56) hx hb dX5_takeEither_15 (by decide) (fun c_15 => ?_) (fun c_15 => ?_)
        · skip
          rw [zb_0] at c_15
          have hzx : zLp (zEa (zPa (zby x b L) 4) (zby x b L)) (zby x b L) (nI 124) (-3) (100 - i) r = r := zLp_x (fun h9 => c_15 h9.1) _
          have hfin : zEi (zPa (zby x b L) 4) (zby x b L) p1 cs = r := h2.symm.trans hzx
          refine lv_iload_n hx hb dX5_takeEither_56 rfl (lv_at hl 2 rfl) ?_
          exact z_zret hx hb hr hlocks hI (zb01 _) (by rw [hfin]; exact ⟨rfl, rfl⟩) dX5_takeEither_57
        · skip
          rw [zb_0, Classical.not_not] at c_15
          refine lv_aload_n hx hb dX5_takeEither_18 rfl (lv_at hl 0 rfl) ?_
          refine lv_bipush (v := (nI 124)) hx hb dX5_takeEither_19 rfl ?_
          refine z_calli (va_runV (As := [.int (nI 124)]) (rest := []) ⟨hx, hb, hml, hown, hts⟩ ((c_X5_takesZ l hG x b L r.2.1 r.2.2 (nI 124) hb0 hL hL9 h3.1) A) (cwV 1 hts gX5_takeEither_X5_takes rfl rfl rfl (by decide +kernel) ⟨Nat.le_of_ble_eq_true rfl, Nat.le_of_ble_eq_true rfl⟩) (z_pV hI hK hN (z_recv hK hI (zor hG hb0) rfl)) rfl rfl hl.1 rfl (lv_room (Nat.le_of_ble_eq_true rfl)) dX5_takeEither_21 ⟨Nat.zero_le _, Nat.zero_le _⟩) hI (fun r_21 u H locs hw hI => ?_)
          obtain ⟨rfl, rfl⟩ := hw
          have hin_21 : zIn L (ztke (zby x b L) (nI 124) r.2.1 r.2.2) := ztke_in zby_e (by decide) h3.1 h3.2
          refine lv_if_eq (tgt := 56) hx hb dX5_takeEither_24 (by decide) (fun c_24 => ?_) (fun c_24 => ?_)
          · skip
            rw [zb_0] at c_24
            have hI : zI G (zpz x b r.2.1 r.2.2) A s.heap H locs := by rw [ztke_f c_24] at hI; exact hI
            have hzx : zLp (zEa (zPa (zby x b L) 4) (zby x b L)) (zby x b L) (nI 124) (-3) (100 - i) r = r := zLp_x (fun h9 => c_24 h9.2) _
            have hfin : zEi (zPa (zby x b L) 4) (zby x b L) p1 cs = r := h2.symm.trans hzx
            refine lv_iload_n hx hb dX5_takeEither_56 rfl (lv_at hl 2 rfl) ?_
            exact z_zret hx hb hr hlocks hI (zb01 _) (by rw [hfin]; exact ⟨rfl, rfl⟩) dX5_takeEither_57
          · skip
            rw [zb_0, Classical.not_not] at c_24
            refine lv_aload_n hx hb dX5_takeEither_27 rfl (lv_at hl 0 rfl) ?_
            refine lv_iload_n hx hb dX5_takeEither_28 rfl (lv_at hl 1 rfl) ?_
            refine z_calli (va_runV (As := [.int (nI 0)]) (rest := []) ⟨hx, hb, hml, hown, hts⟩ ((c_X5_takeEach4 l hG aK aV x b L (ztke (zby x b L) (nI 124) r.2.1 r.2.2).2.1 (ztke (zby x b L) (nI 124) r.2.1 r.2.2).2.2 hb0 hL hL9 htx hin_21.1 hin_21.2) A) (cwV 1 hts gX5_takeEither_X5_takeEach rfl rfl rfl (by decide +kernel) ⟨Nat.le_of_ble_eq_true rfl, Nat.le_of_ble_eq_true rfl⟩) (z_pVS hI hK hN hSS (z_recv hK hI (zor hG hb0) rfl)) rfl rfl hl.1 rfl (lv_room (Nat.le_of_ble_eq_true rfl)) dX5_takeEither_29 ⟨Nat.zero_le _, Nat.zero_le _⟩) hI (fun r_29 u H locs hw hI => ?_)
            obtain ⟨rfl, rfl⟩ := hw
            have hin_29 : zIn L (zEa (zPa (zby x b L) 4) (zby x b L) (ztke (zby x b L) (nI 124) r.2.1 r.2.2).2.1 (ztke (zby x b L) (nI 124) r.2.1 r.2.2).2.2) := zEa_in zby_e (fun p cs => zPa_in zby_e 4 p cs) _ _ hin_21.1 hin_21.2
            refine lv_if_eq (tgt := 48) hx hb dX5_takeEither_32 (by decide) (fun c_32 => ?_) (fun c_32 => ?_)
            · skip
              rw [zb_0] at c_32
              refine lv_iconst (v := (nI 0)) hx hb dX5_takeEither_48 rfl ?_
              refine lv_istore_n (lv' := [(2, .int (nI 0)), (0, .ref (za G b)), (1, .int (nI 0)), (3, .int (nI i))]) hx hb dX5_takeEither_49 rfl hl (by decide) rfl (fun ls hl => ?_)
              refine lv_iinc (v := (nI (i + 1))) (lv' := [(3, .int (nI (i + 1))), (2, .int (nI 0)), (0, .ref (za G b)), (1, .int (nI 0))]) hx hb dX5_takeEither_50 hl (k := 3) rfl (zinc i) (by decide) rfl (fun ls hl => ?_)
              refine lv_goto (tgt := 8) hx hb dX5_takeEither_53 (by decide) ?_
              exact ih8 (i + 1) (zth (zEa (zPa (zby x b L) 4) (zby x b L) (ztke (zby x b L) (nI 124) r.2.1 r.2.2).2.1 (ztke (zby x b L) (nI 124) r.2.1 r.2.2).2.2) (zpt (-3))) (by omega) (by rw [← h2, show 100 - i = 100 - (i + 1) + 1 by omega, zLp, if_pos ⟨c_15, c_24⟩]) (zth_in hin_29 (fun h9 => zpt_in h9.1 h9.2)) (by omega) _ _ (by rw [show (zth (zEa (zPa (zby x b L) 4) (zby x b L) (ztke (zby x b L) (nI 124) r.2.1 r.2.2).2.1 (ztke (zby x b L) (nI 124) r.2.1 r.2.2).2.2) (zpt (-3))) = (zEa (zPa (zby x b L) 4) (zby x b L) (ztke (zby x b L) (nI 124) r.2.1 r.2.2).2.1 (ztke (zby x b L) (nI 124) r.2.1 r.2.2).2.2) from if_neg c_32]; exact hI) ls (by rw [show (zth (zEa (zPa (zby x b L) 4) (zby x b L) (ztke (zby x b L) (nI 124) r.2.1 r.2.2).2.1 (ztke (zby x b L) (nI 124) r.2.1 r.2.2).2.2) (zpt (-3))) = (zEa (zPa (zby x b L) 4) (zby x b L) (ztke (zby x b L) (nI 124) r.2.1 r.2.2).2.1 (ztke (zby x b L) (nI 124) r.2.1 r.2.2).2.2) from if_neg c_32, if_neg c_32]; exact lv_sub hl [2, 3, 1, 0] rfl)
            · skip
              rw [zb_0, Classical.not_not] at c_32
              refine lv_aload_n hx hb dX5_takeEither_35 rfl (lv_at hl 0 rfl) ?_
              refine lv_bipush (v := (-3)) hx hb dX5_takeEither_36 rfl ?_
              refine z_calli (va_runV (As := [.int (-3)]) (rest := []) ⟨hx, hb, hml, hown, hts⟩ ((c_X5_putsZ l hG x b L (zEa (zPa (zby x b L) 4) (zby x b L) (ztke (zby x b L) (nI 124) r.2.1 r.2.2).2.1 (ztke (zby x b L) (nI 124) r.2.1 r.2.2).2.2).2.1 (zEa (zPa (zby x b L) 4) (zby x b L) (ztke (zby x b L) (nI 124) r.2.1 r.2.2).2.1 (ztke (zby x b L) (nI 124) r.2.1 r.2.2).2.2).2.2 (-3) hb0 hin_29.2) A) (cwV 1 hts gX5_takeEither_X5_puts rfl rfl rfl (by decide +kernel) ⟨Nat.le_of_ble_eq_true rfl, Nat.le_of_ble_eq_true rfl⟩) (z_pV hI hK hN (z_recv hK hI (zor hG hb0) rfl)) rfl rfl hl.1 rfl (lv_room (Nat.le_of_ble_eq_true rfl)) dX5_takeEither_38 ⟨Nat.zero_le _, Nat.zero_le _⟩) hI (fun r_38 u H locs hw hI => ?_)
              obtain ⟨rfl, rfl⟩ := hw
              have hin_38 : zIn L (zpt (-3) (zEa (zPa (zby x b L) 4) (zby x b L) (ztke (zby x b L) (nI 124) r.2.1 r.2.2).2.1 (ztke (zby x b L) (nI 124) r.2.1 r.2.2).2.2).2.1 (zEa (zPa (zby x b L) 4) (zby x b L) (ztke (zby x b L) (nI 124) r.2.1 r.2.2).2.1 (ztke (zby x b L) (nI 124) r.2.1 r.2.2).2.2).2.2) := zpt_in hin_29.1 hin_29.2
              refine lv_if_eq (tgt := 48) hx hb dX5_takeEither_41 (by decide) (fun c_41 => ?_) (fun c_41 => ?_)
              · skip
                rw [zb_0] at c_41
                refine lv_iconst (v := (nI 0)) hx hb dX5_takeEither_48 rfl ?_
                refine lv_istore_n (lv' := [(2, .int (nI 0)), (0, .ref (za G b)), (1, .int (nI 0)), (3, .int (nI i))]) hx hb dX5_takeEither_49 rfl hl (by decide) rfl (fun ls hl => ?_)
                refine lv_iinc (v := (nI (i + 1))) (lv' := [(3, .int (nI (i + 1))), (2, .int (nI 0)), (0, .ref (za G b)), (1, .int (nI 0))]) hx hb dX5_takeEither_50 hl (k := 3) rfl (zinc i) (by decide) rfl (fun ls hl => ?_)
                refine lv_goto (tgt := 8) hx hb dX5_takeEither_53 (by decide) ?_
                exact ih8 (i + 1) (zth (zEa (zPa (zby x b L) 4) (zby x b L) (ztke (zby x b L) (nI 124) r.2.1 r.2.2).2.1 (ztke (zby x b L) (nI 124) r.2.1 r.2.2).2.2) (zpt (-3))) (by omega) (by rw [← h2, show 100 - i = 100 - (i + 1) + 1 by omega, zLp, if_pos ⟨c_15, c_24⟩]) (zth_in hin_29 (fun h9 => zpt_in h9.1 h9.2)) (by omega) _ _ (by rw [show (zth (zEa (zPa (zby x b L) 4) (zby x b L) (ztke (zby x b L) (nI 124) r.2.1 r.2.2).2.1 (ztke (zby x b L) (nI 124) r.2.1 r.2.2).2.2) (zpt (-3))) = (zpt (-3) (zEa (zPa (zby x b L) 4) (zby x b L) (ztke (zby x b L) (nI 124) r.2.1 r.2.2).2.1 (ztke (zby x b L) (nI 124) r.2.1 r.2.2).2.2).2.1 (zEa (zPa (zby x b L) 4) (zby x b L) (ztke (zby x b L) (nI 124) r.2.1 r.2.2).2.1 (ztke (zby x b L) (nI 124) r.2.1 r.2.2).2.2).2.2) from if_pos c_32]; exact hI) ls (by rw [show (zth (zEa (zPa (zby x b L) 4) (zby x b L) (ztke (zby x b L) (nI 124) r.2.1 r.2.2).2.1 (ztke (zby x b L) (nI 124) r.2.1 r.2.2).2.2) (zpt (-3))) = (zpt (-3) (zEa (zPa (zby x b L) 4) (zby x b L) (ztke (zby x b L) (nI 124) r.2.1 r.2.2).2.1 (ztke (zby x b L) (nI 124) r.2.1 r.2.2).2.2).2.1 (zEa (zPa (zby x b L) 4) (zby x b L) (ztke (zby x b L) (nI 124) r.2.1 r.2.2).2.1 (ztke (zby x b L) (nI 124) r.2.1 r.2.2).2.2).2.2) from if_pos c_32, if_neg c_41]; exact lv_sub hl [2, 3, 1, 0] rfl)
              · skip
                rw [zb_0, Classical.not_not] at c_41
                refine lv_iconst (v := (nI 1)) hx hb dX5_takeEither_44 rfl ?_
                refine lv_goto (tgt := 49) hx hb dX5_takeEither_45 (by decide) ?_
                refine lv_istore_n (lv' := [(2, .int (nI 1)), (0, .ref (za G b)), (1, .int (nI 0)), (3, .int (nI i))]) hx hb dX5_takeEither_49 rfl hl (by decide) rfl (fun ls hl => ?_)
                refine lv_iinc (v := (nI (i + 1))) (lv' := [(3, .int (nI (i + 1))), (2, .int (nI 1)), (0, .ref (za G b)), (1, .int (nI 0))]) hx hb dX5_takeEither_50 hl (k := 3) rfl (zinc i) (by decide) rfl (fun ls hl => ?_)
                refine lv_goto (tgt := 8) hx hb dX5_takeEither_53 (by decide) ?_
                exact ih8 (i + 1) (zth (zEa (zPa (zby x b L) 4) (zby x b L) (ztke (zby x b L) (nI 124) r.2.1 r.2.2).2.1 (ztke (zby x b L) (nI 124) r.2.1 r.2.2).2.2) (zpt (-3))) (by omega) (by rw [← h2, show 100 - i = 100 - (i + 1) + 1 by omega, zLp, if_pos ⟨c_15, c_24⟩]) (zth_in hin_29 (fun h9 => zpt_in h9.1 h9.2)) (by omega) _ _ (by rw [show (zth (zEa (zPa (zby x b L) 4) (zby x b L) (ztke (zby x b L) (nI 124) r.2.1 r.2.2).2.1 (ztke (zby x b L) (nI 124) r.2.1 r.2.2).2.2) (zpt (-3))) = (zpt (-3) (zEa (zPa (zby x b L) 4) (zby x b L) (ztke (zby x b L) (nI 124) r.2.1 r.2.2).2.1 (ztke (zby x b L) (nI 124) r.2.1 r.2.2).2.2).2.1 (zEa (zPa (zby x b L) 4) (zby x b L) (ztke (zby x b L) (nI 124) r.2.1 r.2.2).2.1 (ztke (zby x b L) (nI 124) r.2.1 r.2.2).2.2).2.2) from if_pos c_32]; exact hI) ls (by rw [show (zth (zEa (zPa (zby x b L) 4) (zby x b L) (ztke (zby x b L) (nI 124) r.2.1 r.2.2).2.1 (ztke (zby x b L) (nI 124) r.2.1 r.2.2).2.2) (zpt (-3))) = (zpt (-3) (zEa (zPa (zby x b L) 4) (zby x b L) (ztke (zby x b L) (nI 124) r.2.1 r.2.2).2.1 (ztke (zby x b L) (nI 124) r.2.1 r.2.2).2.2).2.1 (zEa (zPa (zby x b L) 4) (zby x b L) (ztke (zby x b L) (nI 124) r.2.1 r.2.2).2.1 (ztke (zby x b L) (nI 124) r.2.1 r.2.2).2.2).2.2) from if_pos c_32, if_pos c_41]; exact lv_sub hl [2, 3, 1, 0] rfl)
  exact L8 (101) 0 (zEa (zPa (zby x b L) 4) (zby x b L) p1 cs) (by omega) rfl hin_2 (by omega) _ _ hI ls (lv_sub hl [2, 3, 1, 0] rfl)
