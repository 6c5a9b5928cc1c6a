set_option maxHeartbeats 1000000 in
set_option maxRecDepth 100000 in
theorem c_X12_isPair (l : Launch) {G : zG} (hG : zOK G) (x : zX) (N : Nat) (v : Int32) (hr0 : zRef x N) : zMi l yX12_isPair wsX12_isPair { frames := 2, cells := 0, slots := 0, locals := 44 } G [.ref (za G 77), .int v] x (fun (r : Int32) (u : zX) => x = u ∧ (if zpr N v then nI 1 else nI 0) = r) := by
  intro A
  refine zBody (cc := cX12_isPair) (maxL := 2) (ret := (some .boolean)) (by decide) rfl (Nat.le_of_ble_eq_true rfl) ?_
  intro p e s m below meth c hx hb hml hown hts hr hlocks hK hN hI ls hl
  have hown : s.vm.findClass RX12 = some m.cls := hown
  have hl : lv_has ls 2 [(0, .ref (za G 77)), (1, .int v)] := hl
  have h8 := hr0.1
  refine lv_iload_n hx hb dX12_isPair_0 rfl (lv_at hl 1 rfl) ?_
  refine lv_if_lt (tgt := 41) hx hb dX12_isPair_1 (by decide) (fun c_1 => ?_) (fun c_1 => ?_)
  · skip
    refine lv_iconst (v := (nI 0)) hx hb dX12_isPair_41 rfl ?_
    exact z_zret hx hb hr hlocks hI (Or.inl rfl) (⟨rfl, if_neg (fun h => h.1 c_1)⟩) dX12_isPair_42
  · skip
    obtain ⟨vb, hvb, rfl⟩ := z_nat c_1
    have ec : (nI vb).toNatClampNeg = vb := nI_clamp hvb
    refine lv_aload_n hx hb dX12_isPair_4 rfl (lv_at hl 0 rfl) ?_
    refine lv_iload_n hx hb dX12_isPair_5 rfl (lv_at hl 1 rfl) ?_
    refine lv_bipush (v := (nI 10)) hx hb dX12_isPair_6 rfl ?_
    refine z_idiv (v := (nI (vb / 10))) hx hb (pk_div (by omega) (by omega) (by omega)) dX12_isPair_8 (by decide) ?_
    refine z_calli (va_runV (As := [.int (nI (vb / 10))]) (rest := []) ⟨hx, hb, hml, hown, hts⟩ ((c_X12_isPupil l hG x N (nI (vb / 10)) hr0) A) (cwV 1 hts gX12_isPair_X12_isPupil rfl rfl rfl (by decide +kernel) ⟨Nat.le_of_ble_eq_true rfl, Nat.le_of_ble_eq_true rfl⟩) (z_pV hI hK hN (z_recv hK hI (zo77 hG) rfl)) rfl rfl hl.1 rfl (lv_room (Nat.le_of_ble_eq_true rfl)) dX12_isPair_9 ⟨Nat.zero_le _, Nat.zero_le _⟩) hI (fun r_9 u H locs hw hI => ?_)
    obtain ⟨rfl, rfl⟩ := hw
    refine lv_if_eq (tgt := 41) hx hb dX12_isPair_12 (by decide) (fun c_12 => ?_) (fun c_12 => ?_)
    · skip
      rw [zb_0] at c_12
      refine lv_iconst (v := (nI 0)) hx hb dX12_isPair_41 rfl ?_
      exact z_zret hx hb hr hlocks hI (Or.inl rfl) (⟨rfl, if_neg (fun h => c_12 ((zin_lt (by omega) h8).mpr (by have h9 := h.2.1; rw [ec] at h9; exact h9)))⟩) dX12_isPair_42
    · skip
      rw [zb_0, Classical.not_not] at c_12
      refine lv_aload_n hx hb dX12_isPair_15 rfl (lv_at hl 0 rfl) ?_
      refine lv_iload_n hx hb dX12_isPair_16 rfl (lv_at hl 1 rfl) ?_
      refine lv_bipush (v := (nI 10)) hx hb dX12_isPair_17 rfl ?_
      refine z_irem (v := (nI (vb % 10))) hx hb (pk_rem (by omega) (by omega) (by omega)) dX12_isPair_19 (by decide) ?_
      refine z_calli (va_runV (As := [.int (nI (vb % 10))]) (rest := []) ⟨hx, hb, hml, hown, hts⟩ ((c_X12_isPupil l hG x N (nI (vb % 10)) hr0) A) (cwV 1 hts gX12_isPair_X12_isPupil rfl rfl rfl (by decide +kernel) ⟨Nat.le_of_ble_eq_true rfl, Nat.le_of_ble_eq_true rfl⟩) (z_pV hI hK hN (z_recv hK hI (zo77 hG) rfl)) rfl rfl hl.1 rfl (lv_room (Nat.le_of_ble_eq_true rfl)) dX12_isPair_20 ⟨Nat.zero_le _, Nat.zero_le _⟩) hI (fun r_20 u H locs hw hI => ?_)
      obtain ⟨rfl, rfl⟩ := hw
      refine lv_if_eq (tgt := 41) hx hb dX12_isPair_23 (by decide) (fun c_23 => ?_) (fun c_23 => ?_)
      · skip
        rw [zb_0] at c_23
        refine lv_iconst (v := (nI 0)) hx hb dX12_isPair_41 rfl ?_
        exact z_zret hx hb hr hlocks hI (Or.inl rfl) (⟨rfl, if_neg (fun h => c_23 ((zin_lt (by omega) h8).mpr (by have h9 := h.2.2.1; rw [ec] at h9; exact h9)))⟩) dX12_isPair_42
      · skip
        rw [zb_0, Classical.not_not] at c_23
        refine lv_iload_n hx hb dX12_isPair_26 rfl (lv_at hl 1 rfl) ?_
        refine lv_bipush (v := (nI 10)) hx hb dX12_isPair_27 rfl ?_
        refine z_idiv (v := (nI (vb / 10))) hx hb (pk_div (by omega) (by omega) (by omega)) dX12_isPair_29 (by decide) ?_
        refine lv_iload_n hx hb dX12_isPair_30 rfl (lv_at hl 1 rfl) ?_
        refine lv_bipush (v := (nI 10)) hx hb dX12_isPair_31 rfl ?_
        refine z_irem (v := (nI (vb % 10))) hx hb (pk_rem (by omega) (by omega) (by omega)) dX12_isPair_33 (by decide) ?_
        refine lv_icmp_eq (tgt := 41) hx hb dX12_isPair_34 (by decide) (fun c_34 => ?_) (fun c_34 => ?_)
        · skip
          rw [zqE (by omega) (by omega)] at c_34
          refine lv_iconst (v := (nI 0)) hx hb dX12_isPair_41 rfl ?_
          exact z_zret hx hb hr hlocks hI (Or.inl rfl) (⟨rfl, if_neg (fun h => by have h9 := h.2.2.2; rw [ec] at h9; exact h9 c_34)⟩) dX12_isPair_42
        · skip
          rw [zqE (by omega) (by omega)] at c_34
          refine lv_iconst (v := (nI 1)) hx hb dX12_isPair_37 rfl ?_
          refine lv_goto (tgt := 42) hx hb dX12_isPair_38 (by decide) ?_
          exact z_zret hx hb hr hlocks hI (Or.inr rfl) (⟨rfl, if_pos ⟨nI_pos hvb, by rw [ec]; exact (zin_lt (k := vb / 10) (by omega) h8).mp c_12, by rw [ec]; exact (zin_lt (k := vb % 10) (by omega) h8).mp c_23, by rw [ec]; exact c_34⟩⟩) dX12_isPair_42
set_option maxHeartbeats 1000000 in
set_option maxRecDepth 100000 in
theorem c_X12_both (l : Launch) {G : zG} (hG : zOK G) (x : zX) (N : Nat) (a b pt : Int32) (hr0 : zRef x N) : zMl l yX12_both wsX12_both { frames := 3, cells := 0, slots := 0, locals := 65 } G [.ref (za G 77), .int a, .int b, .int pt] x (fun (r : Int64) (u : zX) => x = u ∧ (if (zpr N a ∧ zpr N b) ∧ (¬ pt < nI 0 ∧ ¬ nI 1 < pt) then (if pt = 0 then (if zpop 8 (zpq a.toNatClampNeg b.toNatClampNeg) = 3 then 0 else 1) else if zpop 8 (zpq a.toNatClampNeg b.toNatClampNeg) = 2 then 7 else if zpop 8 (zpq a.toNatClampNeg b.toNatClampNeg) = 3 then 1 else 35) else -9223372036854775808) = r) := by
  intro A
  refine zBody (cc := cX12_both) (maxL := 6) (ret := (some .long)) (by decide) rfl (Nat.le_of_ble_eq_true rfl) ?_
  intro p e s m below meth c hx hb hml hown hts hr hlocks hK hN hI ls hl
  have hown : s.vm.findClass RX12 = some m.cls := hown
  have hl : lv_has ls 6 [(0, .ref (za G 77)), (1, .int a), (2, .int b), (3, .int pt)] := hl
  have wK322 := hts (.constantLong RX12 322 (-9223372036854775808)) (z_mem 1 rfl)
  have wK335 := hts (.constantLong RX12 335 (35)) (z_mem 3 rfl)
  have wK333 := hts (.constantLong RX12 333 (7)) (z_mem 2 rfl)
  have h8 := hr0.1
  refine lv_aload_n hx hb dX12_both_0 rfl (lv_at hl 0 rfl) ?_
  refine lv_iload_n hx hb dX12_both_1 rfl (lv_at hl 1 rfl) ?_
  refine z_calli (va_runV (As := [.int a]) (rest := []) ⟨hx, hb, hml, hown, hts⟩ ((c_X12_isPair l hG x N a hr0) A) (cwV 1 hts gX12_both_X12_isPair rfl rfl rfl (by decide +kernel) ⟨Nat.le_of_ble_eq_true rfl, Nat.le_of_ble_eq_true rfl⟩) (z_pV hI hK hN (z_recv hK hI (zo77 hG) rfl)) rfl rfl hl.1 rfl (lv_room (Nat.le_of_ble_eq_true rfl)) dX12_both_2 ⟨Nat.zero_le _, Nat.zero_le _⟩) hI (fun r_2 u H locs hw hI => ?_)
  obtain ⟨rfl, rfl⟩ := hw
  refine lv_if_eq (tgt := 26) hx hb dX12_both_5 (by decide) (fun c_5 => ?_) (fun c_5 => ?_)
  · skip
    rw [zb_0] at c_5
    refine lv_ldc2 (v := (-9223372036854775808)) hx hb hown wK322 dX12_both_26 ?_
    exact z_lret hx hb hr hlocks hI (⟨rfl, if_neg (fun h => c_5 h.1.1)⟩) dX12_both_29
  · skip
    rw [zb_0, Classical.not_not] at c_5
    refine lv_aload_n hx hb dX12_both_8 rfl (lv_at hl 0 rfl) ?_
    refine lv_iload_n hx hb dX12_both_9 rfl (lv_at hl 2 rfl) ?_
    refine z_calli (va_runV (As := [.int b]) (rest := []) ⟨hx, hb, hml, hown, hts⟩ ((c_X12_isPair l hG x N b hr0) A) (cwV 1 hts gX12_both_X12_isPair rfl rfl rfl (by decide +kernel) ⟨Nat.le_of_ble_eq_true rfl, Nat.le_of_ble_eq_true rfl⟩) (z_pV hI hK hN (z_recv hK hI (zo77 hG) rfl)) rfl rfl hl.1 rfl (lv_room (Nat.le_of_ble_eq_true rfl)) dX12_both_10 ⟨Nat.zero_le _, Nat.zero_le _⟩) hI (fun r_10 u H locs hw hI => ?_)
    obtain ⟨rfl, rfl⟩ := hw
    refine lv_if_eq (tgt := 26) hx hb dX12_both_13 (by decide) (fun c_13 => ?_) (fun c_13 => ?_)
    · skip
      rw [zb_0] at c_13
      refine lv_ldc2 (v := (-9223372036854775808)) hx hb hown wK322 dX12_both_26 ?_
      exact z_lret hx hb hr hlocks hI (⟨rfl, if_neg (fun h => c_13 h.1.2)⟩) dX12_both_29
    · skip
      rw [zb_0, Classical.not_not] at c_13
      refine lv_aload_n hx hb dX12_both_16 rfl (lv_at hl 0 rfl) ?_
      refine lv_iload_n hx hb dX12_both_17 rfl (lv_at hl 3 rfl) ?_
      refine lv_iconst (v := (nI 0)) hx hb dX12_both_18 rfl ?_
      refine lv_iconst (v := (nI 1)) hx hb dX12_both_19 rfl ?_
      refine z_calli (va_runV (As := [.int pt, .int (nI 0), .int (nI 1)]) (rest := []) ⟨hx, hb, hml, hown, hts⟩ ((c_X12_in l hG x pt (nI 0) (nI 1)) A) (cwV 3 hts gX12_both_X12_in rfl rfl rfl (by decide +kernel) ⟨Nat.le_of_ble_eq_true rfl, Nat.le_of_ble_eq_true rfl⟩) (z_pV hI hK hN (z_recv hK hI (zo77 hG) rfl)) rfl rfl hl.1 rfl (lv_room (Nat.le_of_ble_eq_true rfl)) dX12_both_20 ⟨Nat.zero_le _, Nat.zero_le _⟩) hI (fun r_20 u H locs hw hI => ?_)
      obtain ⟨rfl, rfl⟩ := hw
      refine lv_if_ne (tgt := 30) hx hb dX12_both_23 (by decide) (fun c_23 => ?_) (fun c_23 => ?_)
      · skip
        rw [zb_0, Classical.not_not] at c_23
        obtain ⟨va, hva, rfl⟩ := z_nat c_5.1
        obtain ⟨vo, hvo, rfl⟩ := z_nat c_13.1
        have eca : (nI va).toNatClampNeg = va := nI_clamp hva
        have eco : (nI vo).toNatClampNeg = vo := nI_clamp hvo
        have ha1 := c_5.2.1
        have hb1 := c_13.2.1
        have ha2 := c_5.2.2.1
        have hb2 := c_13.2.2.1
        rw [eca] at ha1 ha2
        rw [eco] at hb1 hb2
        obtain ⟨hq1, hq2⟩ := zpq_e (a := va) (b := vo) (by omega) (by omega) (by omega) (by omega)
        have hok : (zpr N (nI va) ∧ zpr N (nI vo)) ∧ (¬ pt < nI 0 ∧ ¬ nI 1 < pt) := ⟨⟨c_5, c_13⟩, c_23⟩
        refine lv_iconst (v := (nI 1)) hx hb dX12_both_30 rfl ?_
        refine lv_iload_n hx hb dX12_both_31 rfl (lv_at hl 1 rfl) ?_
        refine lv_bipush (v := (nI 10)) hx hb dX12_both_32 rfl ?_
        refine z_idiv (v := (nI (va / 10))) hx hb (pk_div (by omega) (by omega) (by omega)) dX12_both_34 (by decide) ?_
        refine lv_ishl hx hb dX12_both_35 ?_
        refine lv_iconst (v := (nI 1)) hx hb dX12_both_36 rfl ?_
        refine lv_iload_n hx hb dX12_both_37 rfl (lv_at hl 1 rfl) ?_
        refine lv_bipush (v := (nI 10)) hx hb dX12_both_38 rfl ?_
        refine z_irem (v := (nI (va % 10))) hx hb (pk_rem (by omega) (by omega) (by omega)) dX12_both_40 (by decide) ?_
        refine lv_ishl hx hb dX12_both_41 ?_
        refine lv_ior hx hb dX12_both_42 ?_
        refine lv_iconst (v := (nI 1)) hx hb dX12_both_43 rfl ?_
        refine lv_iload_n hx hb dX12_both_44 rfl (lv_at hl 2 rfl) ?_
        refine lv_bipush (v := (nI 10)) hx hb dX12_both_45 rfl ?_
        refine z_idiv (v := (nI (vo / 10))) hx hb (pk_div (by omega) (by omega) (by omega)) dX12_both_47 (by decide) ?_
        refine lv_ishl hx hb dX12_both_48 ?_
        refine lv_ior hx hb dX12_both_49 ?_
        refine lv_iconst (v := (nI 1)) hx hb dX12_both_50 rfl ?_
        refine lv_iload_n hx hb dX12_both_51 rfl (lv_at hl 2 rfl) ?_
        refine lv_bipush (v := (nI 10)) hx hb dX12_both_52 rfl ?_
        refine z_irem (v := (nI (vo % 10))) hx hb (pk_rem (by omega) (by omega) (by omega)) dX12_both_54 (by decide) ?_
        refine lv_ishl hx hb dX12_both_55 ?_
        refine z_ior (v := (nI (zpq va vo))) hx hb hq1 dX12_both_56 ?_
        refine lv_istore (lv' := [(4, .int (nI (zpq va vo))), (0, .ref (za G 77)), (1, .int (nI va)), (2, .int (nI vo)), (3, .int pt)]) hx hb dX12_both_57 hl (by decide) rfl (fun ls hl => ?_)
        refine lv_aload_n hx hb dX12_both_59 rfl (lv_at hl 1 rfl) ?_
        refine lv_iload hx hb dX12_both_60 (lv_at hl 0 rfl) ?_
        refine z_calli (va_runV (As := [.int (nI (zpq va vo))]) (rest := []) ⟨hx, hb, hml, hown, hts⟩ ((c_X12_ones l hG x (zpq va vo) (by omega)) A) (cwV 1 hts gX12_both_X12_ones rfl rfl rfl (by decide +kernel) ⟨Nat.le_of_ble_eq_true rfl, Nat.le_of_ble_eq_true rfl⟩) (z_pV hI hK hN (z_recv hK hI (zo77 hG) rfl)) rfl rfl hl.1 rfl (lv_room (Nat.le_of_ble_eq_true rfl)) dX12_both_62 ⟨Nat.zero_le _, Nat.zero_le _⟩) hI (fun r_62 u H locs hw hI => ?_)
        obtain ⟨rfl, rfl⟩ := hw
        have hpb := zpop_b 8 (zpq va vo)
        refine lv_istore (lv' := [(5, .int (nI (zpop 8 (zpq va vo)))), (4, .int (nI (zpq va vo))), (0, .ref (za G 77)), (1, .int (nI va)), (2, .int (nI vo)), (3, .int pt)]) hx hb dX12_both_65 hl (by decide) rfl (fun ls hl => ?_)
        refine lv_iload_n hx hb dX12_both_67 rfl (lv_at hl 5 rfl) ?_
        refine lv_if_ne (tgt := 85) hx hb dX12_both_68 (by decide) (fun c_68 => ?_) (fun c_68 => ?_)
        · skip
          refine lv_iload hx hb dX12_both_85 (lv_at hl 0 rfl) ?_
          refine lv_iconst (v := (nI 2)) hx hb dX12_both_87 rfl ?_
          refine lv_icmp_ne (tgt := 97) hx hb dX12_both_88 (by decide) (fun c_88 => ?_) (fun c_88 => ?_)
          · skip
            rw [zqE (by omega) (by omega)] at c_88
            refine lv_iload hx hb dX12_both_97 (lv_at hl 0 rfl) ?_
            refine lv_iconst (v := (nI 3)) hx hb dX12_both_99 rfl ?_
            refine lv_icmp_ne (tgt := 107) hx hb dX12_both_100 (by decide) (fun c_100 => ?_) (fun c_100 => ?_)
            · skip
              rw [zqE (by omega) (by omega)] at c_100
              refine lv_ldc2 (v := (35)) hx hb hown wK335 dX12_both_107 ?_
              exact z_lret hx hb hr hlocks hI (⟨rfl, if_pos hok |>.trans (by rw [eca, eco]; exact (if_neg c_68).trans ((if_neg c_88).trans (if_neg c_100)))⟩) dX12_both_110
            · skip
              rw [zqE (by omega) (by omega)] at c_100
              refine lv_lconst (v := 1) hx hb dX12_both_103 rfl ?_
              refine lv_goto (tgt := 110) hx hb dX12_both_104 (by decide) ?_
              exact z_lret hx hb hr hlocks hI (⟨rfl, if_pos hok |>.trans (by rw [eca, eco]; exact (if_neg c_68).trans ((if_neg c_88).trans (if_pos c_100)))⟩) dX12_both_110
          · skip
            rw [zqE (by omega) (by omega)] at c_88
            refine lv_ldc2 (v := (7)) hx hb hown wK333 dX12_both_91 ?_
            refine lv_goto (tgt := 110) hx hb dX12_both_94 (by decide) ?_
            exact z_lret hx hb hr hlocks hI (⟨rfl, if_pos hok |>.trans (by rw [eca, eco]; exact (if_neg c_68).trans (if_pos c_88))⟩) dX12_both_110
        · skip
          refine lv_iload hx hb dX12_both_71 (lv_at hl 0 rfl) ?_
          refine lv_iconst (v := (nI 3)) hx hb dX12_both_73 rfl ?_
          refine lv_icmp_ne (tgt := 81) hx hb dX12_both_74 (by decide) (fun c_74 => ?_) (fun c_74 => ?_)
          · skip
            rw [zqE (by omega) (by omega)] at c_74
            refine lv_lconst (v := 1) hx hb dX12_both_81 rfl ?_
            refine lv_goto (tgt := 110) hx hb dX12_both_82 (by decide) ?_
            exact z_lret hx hb hr hlocks hI (⟨rfl, if_pos hok |>.trans (by rw [eca, eco]; exact (if_pos c_68).trans (if_neg c_74))⟩) dX12_both_110
          · skip
            rw [zqE (by omega) (by omega)] at c_74
            refine lv_lconst (v := 0) hx hb dX12_both_77 rfl ?_
            refine lv_goto (tgt := 110) hx hb dX12_both_78 (by decide) ?_
            exact z_lret hx hb hr hlocks hI (⟨rfl, if_pos hok |>.trans (by rw [eca, eco]; exact (if_pos c_68).trans (if_pos c_74))⟩) dX12_both_110
      · skip
        rw [zb_0] at c_23
        refine lv_ldc2 (v := (-9223372036854775808)) hx hb hown wK322 dX12_both_26 ?_
        exact z_lret hx hb hr hlocks hI (⟨rfl, if_neg (fun h => c_23 h.2)⟩) dX12_both_29
set_option maxHeartbeats 1000000 in
set_option maxRecDepth 100000 in
theorem c_X12_judge (l : Launch) {G : zG} (hG : zOK G) (x : zX) (N : Nat) (t0 i : Int32) (hr0 : zRef x N) (htp : zTpR x) : zMi l yX12_judge wsX12_judge { frames := 2, cells := 0, slots := 0, locals := 44 } G [.ref (za G 77), .int t0, .int i] x (fun (r : Int32) (u : zX) => x = u ∧ (if zin 6 t0 then (if ¬ x.1 108 t0.toNatClampNeg < 0 ∧ ¬ x.1 108 t0.toNatClampNeg = nI 1 then -12 else zjud (zjbR x t0.toNatClampNeg i) (zjdR x t0.toNatClampNeg i) 0 N) else -1) = r) := by
  intro A
  refine zBody (cc := cX12_judge) (maxL := 4) (ret := (some .int)) (by decide) rfl (Nat.le_of_ble_eq_true rfl) ?_
  intro p e s m below meth c hx hb hml hown hts hr hlocks hK hN hI ls hl
  have hown : s.vm.findClass RX12 = some m.cls := hown
  have hl : lv_has ls 4 [(0, .ref (za G 77)), (1, .int t0), (2, .int i)] := hl
  have hin12 : ∀ w ∈ wsX120, w ∈ wsX12_judge := (fun _ h => List.mem_cons_of_mem _ (List.mem_append_right _ (h)))
  have wF154 := hts (.fieldLink RX12 154 "WhoSitsByModel" "sort" "[I") (z_mem 1 rfl)
  have wF7 := hts (.fieldLink RX12 7 "WhoSitsByModel" "pupils" "I") (z_mem 2 rfl)
  have wF157 := hts (.fieldLink RX12 157 "WhoSitsByModel" "length" "[I") (z_mem 3 rfl)
  have wF160 := hts (.fieldLink RX12 160 "WhoSitsByModel" "item" "[J") (z_mem 4 rfl)
  have wF35 := hts (.fieldLink RX12 35 "WhoSitsByModel" "seat" "[I") (z_mem 5 rfl)
  have h8 := hr0.1
  refine lv_aload_n hx hb dX12_judge_0 rfl (lv_at hl 0 rfl) ?_
  refine lv_iload_n hx hb dX12_judge_1 rfl (lv_at hl 1 rfl) ?_
  refine z_calli (va_runV (As := [.int t0]) (rest := []) ⟨hx, hb, hml, hown, hts⟩ ((c_X12_isTape l hG x t0) A) (cwV 1 hts gX12_judge_X12_isTape rfl rfl rfl (by decide +kernel) ⟨Nat.le_of_ble_eq_true rfl, Nat.le_of_ble_eq_true rfl⟩) (z_pV hI hK hN (z_recv hK hI (zo77 hG) rfl)) rfl rfl hl.1 rfl (lv_room (Nat.le_of_ble_eq_true rfl)) dX12_judge_2 ⟨Nat.zero_le _, Nat.zero_le _⟩) hI (fun r_2 u H locs hw hI => ?_)
  obtain ⟨rfl, rfl⟩ := hw
  refine lv_if_ne (tgt := 10) hx hb dX12_judge_5 (by decide) (fun c_5 => ?_) (fun c_5 => ?_)
  · skip
    rw [zb_0, Classical.not_not] at c_5
    obtain ⟨t, ht, rfl⟩ := z_ix c_5.1 c_5.2 (by decide)
    have h60 := (htp t ht).2
    have hz6 : zin 6 (nI t) := c_5
    have ect : (nI t).toNatClampNeg = t := nI_clamp (by omega)
    rw [ect]
    refine lv_aload_n hx hb dX12_judge_10 rfl (lv_at hl 0 rfl) ?_
    refine z_get (C := RX12) (T := TX12) (N := 51) (ci := 12) (v := .ref (za G 108)) hx hb hts hin12 hown hK hI (zo77 hG) rfl 47 (by decide) wF154 (fun _ h9 => h9) rfl dX12_judge_11 ?_
    refine lv_iload_n hx hb dX12_judge_14 rfl (lv_at hl 1 rfl) ?_
    refine z_iald (v := (x.1 108 t)) hx hb hK hI (zo108 hG) t rfl (by omega) (by decide) rfl dX12_judge_15 ?_
    refine lv_if_lt (tgt := 32) hx hb dX12_judge_16 (by decide) (fun c_16 => ?_) (fun c_16 => ?_)
    · skip
      have hcs : ¬ (¬ x.1 108 t < 0 ∧ ¬ x.1 108 t = nI 1) := fun h => h.1 c_16
      refine lv_iconst (v := (nI 0)) hx hb dX12_judge_32 rfl ?_
      refine lv_istore_n (lv' := [(3, .int (nI 0)), (0, .ref (za G 77)), (1, .int (nI t)), (2, .int i)]) hx hb dX12_judge_33 rfl hl (by decide) rfl (fun ls hl => ?_)
      have L34 : ∀ (f : Nat) (j : Nat), (j ≤ N) → (zjud (zjbR x t i) (zjdR x t i) 0 N = zjud (zjbR x t i) (zjdR x t i) j (N - j)) → N + 1 ≤ j + f → ∀ (H : Heap) (locs : List Loc), zI G x A s.heap H locs → ∀ ls : Array Slot, lv_has ls 4 [(0, .ref (za G 77)), (1, .int (nI t)), (2, .int i), (3, .int (nI j))] → W p l e { frames := 2, cells := 0, slots := 0, locals := 44 } s m ([.ref (za G 77), .int (nI t), .int i] : List Value).toArray below meth c H locs 0 0 (MQ below (va_Qi (fun (r : Int32) (u : zX) => x = u ∧ (if zin 6 (nI t) then (if ¬ x.1 108 t < 0 ∧ ¬ x.1 108 t = nI 1 then -12 else zjud (zjbR x t i) (zjdR x t i) 0 N) else -1) = r) (fun u t => zJ G u A t.heap) A) ([.ref (za G 77), .int (nI t), .int i] : List Value).toArray s 0 0 A) (F0 m 34 ls []) := by
        intro f
        induction f with
        | zero =>
          intro j h1 h2 hf
          exact absurd hf (by omega)
        | succ f ih =>
          intro j h1 h2 hf H locs hI ls hl
          have ih34 := ih
          refine lv_iload_n hx hb dX12_judge_34 rfl (lv_at hl 3 rfl) ?_
          refine lv_aload_n hx hb dX12_judge_35 rfl (lv_at hl 0 rfl) ?_
          refine z_get (C := RX12) (T := TX12) (N := 51) (ci := 12) (v := .int (nI N)) hx hb hts hin12 hown hK hI (zo77 hG) rfl 0 (by decide) wF7 (fun _ h9 => h9) (congrArg (fun q => some (Value.int q)) hr0.2.1) dX12_judge_36 ?_
          refine lv_icmp_ge (tgt := 106) hx hb dX12_judge_39 (by decide) (fun c_39 => ?_) (fun c_39 => ?_)
          · skip
            rw [zqG (by omega) (by omega)] at c_39
            refine lv_bipush (v := (-5)) hx hb dX12_judge_106 rfl ?_
            exact z_iret hx hb hr hlocks hI (⟨rfl, by rw [if_pos hz6, if_neg hcs]; rw [h2, show N - j = 0 by omega]; rfl⟩) dX12_judge_108
          · skip
            rw [zqG (by omega) (by omega)] at c_39
            refine lv_aload_n hx hb dX12_judge_42 rfl (lv_at hl 0 rfl) ?_
            refine z_get (C := RX12) (T := TX12) (N := 51) (ci := 12) (v := .ref (za G 108)) hx hb hts hin12 hown hK hI (zo77 hG) rfl 47 (by decide) wF154 (fun _ h9 => h9) rfl dX12_judge_43 ?_
            refine lv_iload_n hx hb dX12_judge_46 rfl (lv_at hl 1 rfl) ?_
            refine z_iald (v := (x.1 108 t)) hx hb hK hI (zo108 hG) t rfl (by omega) (by decide) rfl dX12_judge_47 ?_
            refine lv_if_lt (tgt := 69) hx hb dX12_judge_48 (by decide) (fun c_48 => ?_) (fun c_48 => ?_)
            · skip
              refine lv_bipush (v := (nI 100)) hx hb dX12_judge_69 rfl ?_
              refine lv_iload_n hx hb dX12_judge_71 rfl (lv_at hl 3 rfl) ?_
              refine z_iadd (v := (nI (100 + j))) hx hb (nI_add _ _) dX12_judge_72 ?_
              exact z_iret hx hb hr hlocks hI (⟨rfl, by rw [if_pos hz6, if_neg hcs]; rw [h2]; exact zjud_b (fun h => h.1 c_48) (by omega)⟩) dX12_judge_73
            · skip
              refine lv_iload_n hx hb dX12_judge_51 rfl (lv_at hl 2 rfl) ?_
              refine lv_if_lt (tgt := 69) hx hb dX12_judge_52 (by decide) (fun c_52 => ?_) (fun c_52 => ?_)
              · skip
                refine lv_bipush (v := (nI 100)) hx hb dX12_judge_69 rfl ?_
                refine lv_iload_n hx hb dX12_judge_71 rfl (lv_at hl 3 rfl) ?_
                refine z_iadd (v := (nI (100 + j))) hx hb (nI_add _ _) dX12_judge_72 ?_
                exact z_iret hx hb hr hlocks hI (⟨rfl, by rw [if_pos hz6, if_neg hcs]; rw [h2]; exact zjud_b (fun h => h.2.1 c_52) (by omega)⟩) dX12_judge_73
              · skip
                refine lv_iload_n hx hb dX12_judge_55 rfl (lv_at hl 2 rfl) ?_
                refine lv_aload_n hx hb dX12_judge_56 rfl (lv_at hl 0 rfl) ?_
                refine z_get (C := RX12) (T := TX12) (N := 51) (ci := 12) (v := .ref (za G 109)) hx hb hts hin12 hown hK hI (zo77 hG) rfl 48 (by decide) wF157 (fun _ h9 => h9) rfl dX12_judge_57 ?_
                refine lv_iload_n hx hb dX12_judge_60 rfl (lv_at hl 1 rfl) ?_
                refine z_iald (v := (nI (zszR x t))) hx hb hK hI (zo109 hG) t rfl (by omega) (by decide) (htp t ht).1 dX12_judge_61 ?_
                refine lv_iload_n hx hb dX12_judge_62 rfl (lv_at hl 3 rfl) ?_
                refine z_isub (v := (nI (zszR x t) - nI j)) hx hb rfl dX12_judge_63 ?_
                refine lv_iconst (v := (nI 1)) hx hb dX12_judge_64 rfl ?_
                refine lv_isub hx hb dX12_judge_65 ?_
                refine lv_icmp_le (tgt := 74) hx hb dX12_judge_66 (by decide) (fun c_66 => ?_) (fun c_66 => ?_)
                · skip
                  have hg : ¬ x.1 108 t < 0 ∧ ¬ i < 0 ∧ i.toNatClampNeg + j < zszR x t := ⟨c_48, c_52, (z_placeR h60 (by omega) c_52).mp c_66⟩
                  refine lv_aload_n hx hb dX12_judge_74 rfl (lv_at hl 0 rfl) ?_
                  refine z_get (C := RX12) (T := TX12) (N := 51) (ci := 12) (v := .ref (za G 110)) hx hb hts hin12 hown hK hI (zo77 hG) rfl 49 (by decide) wF160 (fun _ h9 => h9) rfl dX12_judge_75 ?_
                  refine lv_bipush (v := (nI 60)) hx hb dX12_judge_78 rfl ?_
                  refine lv_iload_n hx hb dX12_judge_80 rfl (lv_at hl 1 rfl) ?_
                  refine z_imul (v := (nI (60 * t))) hx hb (pk_mul _ _) dX12_judge_81 ?_
                  refine lv_iload_n hx hb dX12_judge_82 rfl (lv_at hl 2 rfl) ?_
                  refine z_iadd (v := (nI (60 * t + i.toNatClampNeg))) hx hb (z_addd hg.2.1) dX12_judge_83 ?_
                  refine lv_iload_n hx hb dX12_judge_84 rfl (lv_at hl 3 rfl) ?_
                  refine z_iadd (v := (nI (60 * t + (i.toNatClampNeg + j)))) hx hb (by rw [nI_add, Nat.add_assoc]) dX12_judge_85 ?_
                  refine z_lald (v := (x.2.1 110 (60 * t + (i.toNatClampNeg + j)))) hx hb hK hI (zo110 hG) (60 * t + (i.toNatClampNeg + j)) rfl (by have h9 := hg.2.2; omega) (by decide) rfl dX12_judge_86 ?_
                  refine lv_aload_n hx hb dX12_judge_87 rfl (lv_at hl 0 rfl) ?_
                  refine z_get (C := RX12) (T := TX12) (N := 51) (ci := 12) (v := .ref (za G 84)) hx hb hts hin12 hown hK hI (zo77 hG) rfl 8 (by decide) wF35 (fun _ h9 => h9) rfl dX12_judge_88 ?_
                  refine lv_iload_n hx hb dX12_judge_91 rfl (lv_at hl 3 rfl) ?_
                  refine z_iald (v := (x.1 84 j)) hx hb hK hI (zo84 hG) j rfl (by omega) (by decide) rfl dX12_judge_92 ?_
                  refine lv_i2l hx hb dX12_judge_93 rfl ?_
                  refine W.lcmp hx hb dX12_judge_94 ?_
                  refine lv_if_eq (tgt := 100) hx hb dX12_judge_95 (by decide) (fun c_95 => ?_) (fun c_95 => ?_)
                  · skip
                    rw [zlcmp0] at c_95
                    refine lv_iinc (v := (nI (j + 1))) (lv' := [(3, .int (nI (j + 1))), (0, .ref (za G 77)), (1, .int (nI t)), (2, .int i)]) hx hb dX12_judge_100 hl (k := 3) rfl (zinc j) (by decide) rfl (fun ls hl => ?_)
                    refine lv_goto (tgt := 34) hx hb dX12_judge_103 (by decide) ?_
                    exact ih34 (j + 1) (by omega) (by rw [h2, zjud_n (fun h => h hg) (fun h => h c_95) (by omega)]; rfl) (by omega) _ _ hI ls (lv_sub hl [1, 2, 3, 0] rfl)
                  · skip
                    rw [zlcmp0] at c_95
                    refine lv_iload_n hx hb dX12_judge_98 rfl (lv_at hl 3 rfl) ?_
                    exact z_iret hx hb hr hlocks hI (⟨rfl, by rw [if_pos hz6, if_neg hcs]; rw [h2]; exact zjud_d (fun h => h hg) c_95 (by omega)⟩) dX12_judge_99
                · skip
                  refine lv_bipush (v := (nI 100)) hx hb dX12_judge_69 rfl ?_
                  refine lv_iload_n hx hb dX12_judge_71 rfl (lv_at hl 3 rfl) ?_
                  refine z_iadd (v := (nI (100 + j))) hx hb (nI_add _ _) dX12_judge_72 ?_
                  exact z_iret hx hb hr hlocks hI (⟨rfl, by rw [if_pos hz6, if_neg hcs]; rw [h2]; exact zjud_b (fun h => c_66 ((z_placeR h60 (by omega) c_52).mpr h.2.2)) (by omega)⟩) dX12_judge_73
      exact L34 (N + 1) 0 (by omega) rfl (by omega) _ _ hI ls (lv_sub hl [1, 2, 3, 0] rfl)
    · skip
      refine lv_aload_n hx hb dX12_judge_19 rfl (lv_at hl 0 rfl) ?_
      refine z_get (C := RX12) (T := TX12) (N := 51) (ci := 12) (v := .ref (za G 108)) hx hb hts hin12 hown hK hI (zo77 hG) rfl 47 (by decide) wF154 (fun _ h9 => h9) rfl dX12_judge_20 ?_
      refine lv_iload_n hx hb dX12_judge_23 rfl (lv_at hl 1 rfl) ?_
      refine z_iald (v := (x.1 108 t)) hx hb hK hI (zo108 hG) t rfl (by omega) (by decide) rfl dX12_judge_24 ?_
      refine lv_iconst (v := (nI 1)) hx hb dX12_judge_25 rfl ?_
      refine lv_icmp_eq (tgt := 32) hx hb dX12_judge_26 (by decide) (fun c_26 => ?_) (fun c_26 => ?_)
      · skip
        have hcs : ¬ (¬ x.1 108 t < 0 ∧ ¬ x.1 108 t = nI 1) := fun h => h.2 c_26
        refine lv_iconst (v := (nI 0)) hx hb dX12_judge_32 rfl ?_
        refine lv_istore_n (lv' := [(3, .int (nI 0)), (0, .ref (za G 77)), (1, .int (nI t)), (2, .int i)]) hx hb dX12_judge_33 rfl hl (by decide) rfl (fun ls hl => ?_)
        have L34 : ∀ (f : Nat) (j : Nat), (j ≤ N) → (zjud (zjbR x t i) (zjdR x t i) 0 N = zjud (zjbR x t i) (zjdR x t i) j (N - j)) → N + 1 ≤ j + f → ∀ (H : Heap) (locs : List Loc), zI G x A s.heap H locs → ∀ ls : Array Slot, lv_has ls 4 [(0, .ref (za G 77)), (1, .int (nI t)), (2, .int i), (3, .int (nI j))] → W p l e { frames := 2, cells := 0, slots := 0, locals := 44 } s m ([.ref (za G 77), .int (nI t), .int i] : List Value).toArray below meth c H locs 0 0 (MQ below (va_Qi (fun (r : Int32) (u : zX) => x = u ∧ (if zin 6 (nI t) then (if ¬ x.1 108 t < 0 ∧ ¬ x.1 108 t = nI 1 then -12 else zjud (zjbR x t i) (zjdR x t i) 0 N) else -1) = r) (fun u t => zJ G u A t.heap) A) ([.ref (za G 77), .int (nI t), .int i] : List Value).toArray s 0 0 A) (F0 m 34 ls []) := by
          intro f
          induction f with
          | zero =>
            intro j h1 h2 hf
            exact absurd hf (by omega)
          | succ f ih =>
            intro j h1 h2 hf H locs hI ls hl
            have ih34 := ih
            refine lv_iload_n hx hb dX12_judge_34 rfl (lv_at hl 3 rfl) ?_
            refine lv_aload_n hx hb dX12_judge_35 rfl (lv_at hl 0 rfl) ?_
            refine z_get (C := RX12) (T := TX12) (N := 51) (ci := 12) (v := .int (nI N)) hx hb hts hin12 hown hK hI (zo77 hG) rfl 0 (by decide) wF7 (fun _ h9 => h9) (congrArg (fun q => some (Value.int q)) hr0.2.1) dX12_judge_36 ?_
            refine lv_icmp_ge (tgt := 106) hx hb dX12_judge_39 (by decide) (fun c_39 => ?_) (fun c_39 => ?_)
            · skip
              rw [zqG (by omega) (by omega)] at c_39
              refine lv_bipush (v := (-5)) hx hb dX12_judge_106 rfl ?_
              exact z_iret hx hb hr hlocks hI (⟨rfl, by rw [if_pos hz6, if_neg hcs]; rw [h2, show N - j = 0 by omega]; rfl⟩) dX12_judge_108
            · skip
              rw [zqG (by omega) (by omega)] at c_39
              refine lv_aload_n hx hb dX12_judge_42 rfl (lv_at hl 0 rfl) ?_
              refine z_get (C := RX12) (T := TX12) (N := 51) (ci := 12) (v := .ref (za G 108)) hx hb hts hin12 hown hK hI (zo77 hG) rfl 47 (by decide) wF154 (fun _ h9 => h9) rfl dX12_judge_43 ?_
              refine lv_iload_n hx hb dX12_judge_46 rfl (lv_at hl 1 rfl) ?_
              refine z_iald (v := (x.1 108 t)) hx hb hK hI (zo108 hG) t rfl (by omega) (by decide) rfl dX12_judge_47 ?_
              refine lv_if_lt (tgt := 69) hx hb dX12_judge_48 (by decide) (fun c_48 => ?_) (fun c_48 => ?_)
              · skip
                refine lv_bipush (v := (nI 100)) hx hb dX12_judge_69 rfl ?_
                refine lv_iload_n hx hb dX12_judge_71 rfl (lv_at hl 3 rfl) ?_
                refine z_iadd (v := (nI (100 + j))) hx hb (nI_add _ _) dX12_judge_72 ?_
                exact z_iret hx hb hr hlocks hI (⟨rfl, by rw [if_pos hz6, if_neg hcs]; rw [h2]; exact zjud_b (fun h => h.1 c_48) (by omega)⟩) dX12_judge_73
              · skip
                refine lv_iload_n hx hb dX12_judge_51 rfl (lv_at hl 2 rfl) ?_
                refine lv_if_lt (tgt := 69) hx hb dX12_judge_52 (by decide) (fun c_52 => ?_) (fun c_52 => ?_)
                · skip
                  refine lv_bipush (v := (nI 100)) hx hb dX12_judge_69 rfl ?_
                  refine lv_iload_n hx hb dX12_judge_71 rfl (lv_at hl 3 rfl) ?_
                  refine z_iadd (v := (nI (100 + j))) hx hb (nI_add _ _) dX12_judge_72 ?_
                  exact z_iret hx hb hr hlocks hI (⟨rfl, by rw [if_pos hz6, if_neg hcs]; rw [h2]; exact zjud_b (fun h => h.2.1 c_52) (by omega)⟩) dX12_judge_73
                · skip
                  refine lv_iload_n hx hb dX12_judge_55 rfl (lv_at hl 2 rfl) ?_
                  refine lv_aload_n hx hb dX12_judge_56 rfl (lv_at hl 0 rfl) ?_
                  refine z_get (C := RX12) (T := TX12) (N := 51) (ci := 12) (v := .ref (za G 109)) hx hb hts hin12 hown hK hI (zo77 hG) rfl 48 (by decide) wF157 (fun _ h9 => h9) rfl dX12_judge_57 ?_
                  refine lv_iload_n hx hb dX12_judge_60 rfl (lv_at hl 1 rfl) ?_
                  refine z_iald (v := (nI (zszR x t))) hx hb hK hI (zo109 hG) t rfl (by omega) (by decide) (htp t ht).1 dX12_judge_61 ?_
                  refine lv_iload_n hx hb dX12_judge_62 rfl (lv_at hl 3 rfl) ?_
                  refine z_isub (v := (nI (zszR x t) - nI j)) hx hb rfl dX12_judge_63 ?_
                  refine lv_iconst (v := (nI 1)) hx hb dX12_judge_64 rfl ?_
                  refine lv_isub hx hb dX12_judge_65 ?_
                  refine lv_icmp_le (tgt := 74) hx hb dX12_judge_66 (by decide) (fun c_66 => ?_) (fun c_66 => ?_)
                  · skip
                    have hg : ¬ x.1 108 t < 0 ∧ ¬ i < 0 ∧ i.toNatClampNeg + j < zszR x t := ⟨c_48, c_52, (z_placeR h60 (by omega) c_52).mp c_66⟩
                    refine lv_aload_n hx hb dX12_judge_74 rfl (lv_at hl 0 rfl) ?_
                    refine z_get (C := RX12) (T := TX12) (N := 51) (ci := 12) (v := .ref (za G 110)) hx hb hts hin12 hown hK hI (zo77 hG) rfl 49 (by decide) wF160 (fun _ h9 => h9) rfl dX12_judge_75 ?_
                    refine lv_bipush (v := (nI 60)) hx hb dX12_judge_78 rfl ?_
                    refine lv_iload_n hx hb dX12_judge_80 rfl (lv_at hl 1 rfl) ?_
                    refine z_imul (v := (nI (60 * t))) hx hb (pk_mul _ _) dX12_judge_81 ?_
                    refine lv_iload_n hx hb dX12_judge_82 rfl (lv_at hl 2 rfl) ?_
                    refine z_iadd (v := (nI (60 * t + i.toNatClampNeg))) hx hb (z_addd hg.2.1) dX12_judge_83 ?_
                    refine lv_iload_n hx hb dX12_judge_84 rfl (lv_at hl 3 rfl) ?_
                    refine z_iadd (v := (nI (60 * t + (i.toNatClampNeg + j)))) hx hb (by rw [nI_add, Nat.add_assoc]) dX12_judge_85 ?_
                    refine z_lald (v := (x.2.1 110 (60 * t + (i.toNatClampNeg + j)))) hx hb hK hI (zo110 hG) (60 * t + (i.toNatClampNeg + j)) rfl (by have h9 := hg.2.2; omega) (by decide) rfl dX12_judge_86 ?_
                    refine lv_aload_n hx hb dX12_judge_87 rfl (lv_at hl 0 rfl) ?_
                    refine z_get (C := RX12) (T := TX12) (N := 51) (ci := 12) (v := .ref (za G 84)) hx hb hts hin12 hown hK hI (zo77 hG) rfl 8 (by decide) wF35 (fun _ h9 => h9) rfl dX12_judge_88 ?_
                    refine lv_iload_n hx hb dX12_judge_91 rfl (lv_at hl 3 rfl) ?_
                    refine z_iald (v := (x.1 84 j)) hx hb hK hI (zo84 hG) j rfl (by omega) (by decide) rfl dX12_judge_92 ?_
                    refine lv_i2l hx hb dX12_judge_93 rfl ?_
                    refine W.lcmp hx hb dX12_judge_94 ?_
                    refine lv_if_eq (tgt := 100) hx hb dX12_judge_95 (by decide) (fun c_95 => ?_) (fun c_95 => ?_)
                    · skip
                      rw [zlcmp0] at c_95
                      refine lv_iinc (v := (nI (j + 1))) (lv' := [(3, .int (nI (j + 1))), (0, .ref (za G 77)), (1, .int (nI t)), (2, .int i)]) hx hb dX12_judge_100 hl (k := 3) rfl (zinc j) (by decide) rfl (fun ls hl => ?_)
                      refine lv_goto (tgt := 34) hx hb dX12_judge_103 (by decide) ?_
                      exact ih34 (j + 1) (by omega) (by rw [h2, zjud_n (fun h => h hg) (fun h => h c_95) (by omega)]; rfl) (by omega) _ _ hI ls (lv_sub hl [1, 2, 3, 0] rfl)
                    · skip
                      rw [zlcmp0] at c_95
                      refine lv_iload_n hx hb dX12_judge_98 rfl (lv_at hl 3 rfl) ?_
                      exact z_iret hx hb hr hlocks hI (⟨rfl, by rw [if_pos hz6, if_neg hcs]; rw [h2]; exact zjud_d (fun h => h hg) c_95 (by omega)⟩) dX12_judge_99
                  · skip
                    refine lv_bipush (v := (nI 100)) hx hb dX12_judge_69 rfl ?_
                    refine lv_iload_n hx hb dX12_judge_71 rfl (lv_at hl 3 rfl) ?_
                    refine z_iadd (v := (nI (100 + j))) hx hb (nI_add _ _) dX12_judge_72 ?_
                    exact z_iret hx hb hr hlocks hI (⟨rfl, by rw [if_pos hz6, if_neg hcs]; rw [h2]; exact zjud_b (fun h => c_66 ((z_placeR h60 (by omega) c_52).mpr h.2.2)) (by omega)⟩) dX12_judge_73
        exact L34 (N + 1) 0 (by omega) rfl (by omega) _ _ hI ls (lv_sub hl [1, 2, 3, 0] rfl)
      · skip
        refine lv_bipush (v := (-12)) hx hb dX12_judge_29 rfl ?_
        exact z_iret hx hb hr hlocks hI (⟨rfl, by rw [if_pos hz6]; exact if_pos ⟨z_nlt0 c_16, c_26⟩⟩) dX12_judge_31
  · skip
    rw [zb_0] at c_5
    refine lv_iconst (v := (-1)) hx hb dX12_judge_8 rfl ?_
    exact z_iret hx hb hr hlocks hI (⟨rfl, if_neg c_5⟩) dX12_judge_9
set_option maxHeartbeats 1000000 in
set_option maxRecDepth 100000 in
theorem c_X12_carries (l : Launch) {G : zG} (hG : zOK G) (x : zX) (N F C : Nat) (b n0 : Int32) (hr0 : zRef x N) (hcl : zClR x F C) : zMi l yX12_carries wsX12_carries { frames := 3, cells := 0, slots := 0, locals := 70 } G [.ref (za G 77), .int b, .int n0] x (fun (r : Int32) (u : zX) => x = u ∧ ((¬ ((¬ b < 0 ∧ ¬ nI (2 ^ N) ≤ b) ∧ ¬ n0 < nI 0 ∧ ¬ nI 30 < n0) ∧ -2 = r) ∨ (((¬ b < 0 ∧ ¬ nI (2 ^ N) ≤ b) ∧ ¬ n0 < nI 0 ∧ ¬ nI 30 < n0) ∧ ∃ nb, nb ≤ 30 ∧ n0 = nI nb ∧ (zleast (fun qq => (zrun (fun y => zbehind x y (zhush (x.1 90) (x.1 91) F C) (nI qq) N) (fun y => znoiseR x y N) nb (b &&& ((nI 1 <<< (nI qq &&& 31)) ^^^ (-1)))).2) N).1 = r))) := by
  intro A
  refine zBody (cc := cX12_carries) (maxL := 9) (ret := (some .int)) (by decide) rfl (Nat.le_of_ble_eq_true rfl) ?_
  intro p e s m below meth c hx hb hml hown hts hr hlocks hK hN hI ls hl
  have hown : s.vm.findClass RX12 = some m.cls := hown
  have hl : lv_has ls 9 [(0, .ref (za G 77)), (1, .int b), (2, .int n0)] := hl
  have hin12 : ∀ w ∈ wsX120, w ∈ wsX12_carries := (fun _ h => List.mem_cons_of_mem _ (List.mem_append_right _ (h)))
  have wF7 := hts (.fieldLink RX12 7 "WhoSitsByModel" "pupils" "I") (z_mem 1 rfl)
  have h8 := hr0.1
  refine lv_aload_n hx hb dX12_carries_0 rfl (lv_at hl 0 rfl) ?_
  refine lv_iload_n hx hb dX12_carries_1 rfl (lv_at hl 1 rfl) ?_
  refine z_calli (va_runV (As := [.int b]) (rest := []) ⟨hx, hb, hml, hown, hts⟩ ((c_X12_arePupils l hG x N b hr0) A) (cwV 1 hts gX12_carries_X12_arePupils rfl rfl rfl (by decide +kernel) ⟨Nat.le_of_ble_eq_true rfl, Nat.le_of_ble_eq_true rfl⟩) (z_pV hI hK hN (z_recv hK hI (zo77 hG) rfl)) rfl rfl hl.1 rfl (lv_room (Nat.le_of_ble_eq_true rfl)) dX12_carries_2 ⟨Nat.zero_le _, Nat.zero_le _⟩) hI (fun r_2 u H locs hw hI => ?_)
  obtain ⟨rfl, rfl⟩ := hw
  refine lv_if_eq (tgt := 19) hx hb dX12_carries_5 (by decide) (fun c_5 => ?_) (fun c_5 => ?_)
  · skip
    rw [zb_0] at c_5
    refine lv_bipush (v := (-2)) hx hb dX12_carries_19 rfl ?_
    exact z_iret hx hb hr hlocks hI (⟨rfl, Or.inl ⟨fun h => c_5 h.1, rfl⟩⟩) dX12_carries_21
  · skip
    rw [zb_0, Classical.not_not] at c_5
    refine lv_aload_n hx hb dX12_carries_8 rfl (lv_at hl 0 rfl) ?_
    refine lv_iload_n hx hb dX12_carries_9 rfl (lv_at hl 2 rfl) ?_
    refine lv_iconst (v := (nI 0)) hx hb dX12_carries_10 rfl ?_
    refine lv_bipush (v := (nI 30)) hx hb dX12_carries_11 rfl ?_
    refine z_calli (va_runV (As := [.int n0, .int (nI 0), .int (nI 30)]) (rest := []) ⟨hx, hb, hml, hown, hts⟩ ((c_X12_in l hG x n0 (nI 0) (nI 30)) A) (cwV 3 hts gX12_carries_X12_in rfl rfl rfl (by decide +kernel) ⟨Nat.le_of_ble_eq_true rfl, Nat.le_of_ble_eq_true rfl⟩) (z_pV hI hK hN (z_recv hK hI (zo77 hG) rfl)) rfl rfl hl.1 rfl (lv_room (Nat.le_of_ble_eq_true rfl)) dX12_carries_13 ⟨Nat.zero_le _, Nat.zero_le _⟩) hI (fun r_13 u H locs hw hI => ?_)
    obtain ⟨rfl, rfl⟩ := hw
    refine lv_if_ne (tgt := 22) hx hb dX12_carries_16 (by decide) (fun c_16 => ?_) (fun c_16 => ?_)
    · skip
      rw [zb_0, Classical.not_not] at c_16
      obtain ⟨n1, hn0, rfl⟩ := z_ix (n := 31) c_16.1 (fun h => z_nle h (z_lt1 (m := 30) (z_nlt c_16.2))) (by decide)
      refine lv_bipush (v := (-5)) hx hb dX12_carries_22 rfl ?_
      refine lv_istore_n (lv' := [(3, .int (-5)), (0, .ref (za G 77)), (1, .int b), (2, .int (nI n1))]) hx hb dX12_carries_24 rfl hl (by decide) rfl (fun ls hl => ?_)
      refine lv_iconst (v := (nI 0)) hx hb dX12_carries_25 rfl ?_
      refine lv_istore (lv' := [(4, .int (nI 0)), (3, .int (-5)), (0, .ref (za G 77)), (1, .int b), (2, .int (nI n1))]) hx hb dX12_carries_26 hl (by decide) rfl (fun ls hl => ?_)
      refine lv_iconst (v := (nI 0)) hx hb dX12_carries_28 rfl ?_
      refine lv_istore (lv' := [(5, .int (nI 0)), (4, .int (nI 0)), (3, .int (-5)), (0, .ref (za G 77)), (1, .int b), (2, .int (nI n1))]) hx hb dX12_carries_29 hl (by decide) rfl (fun ls hl => ?_)
      have L31 : ∀ (f : Nat) (j : Nat) (a : Int32) (z : Int32), (j ≤ N) → (zleast (fun qq => (zrun (fun y => zbehind x y (zhush (x.1 90) (x.1 91) F C) (nI qq) N) (fun y => znoiseR x y N) n1 (b &&& ((nI 1 <<< (nI qq &&& 31)) ^^^ (-1)))).2) j = (a, z)) → N + 1 ≤ j + f → ∀ (H : Heap) (locs : List Loc), zI G x A s.heap H locs → ∀ ls : Array Slot, lv_has ls 9 [(0, .ref (za G 77)), (1, .int b), (2, .int (nI n1)), (3, .int a), (4, .int z), (5, .int (nI j))] → W p l e { frames := 3, cells := 0, slots := 0, locals := 70 } s m ([.ref (za G 77), .int b, .int (nI n1)] : List Value).toArray below meth c H locs 0 0 (MQ below (va_Qi (fun (r : Int32) (u : zX) => x = u ∧ ((¬ ((¬ b < 0 ∧ ¬ nI (2 ^ N) ≤ b) ∧ ¬ (nI n1) < nI 0 ∧ ¬ nI 30 < (nI n1)) ∧ -2 = r) ∨ (((¬ b < 0 ∧ ¬ nI (2 ^ N) ≤ b) ∧ ¬ (nI n1) < nI 0 ∧ ¬ nI 30 < (nI n1)) ∧ ∃ nb, nb ≤ 30 ∧ (nI n1) = nI nb ∧ (zleast (fun qq => (zrun (fun y => zbehind x y (zhush (x.1 90) (x.1 91) F C) (nI qq) N) (fun y => znoiseR x y N) nb (b &&& ((nI 1 <<< (nI qq &&& 31)) ^^^ (-1)))).2) N).1 = r))) (fun u t => zJ G u A t.heap) A) ([.ref (za G 77), .int b, .int (nI n1)] : List Value).toArray s 0 0 A) (F0 m 31 ls []) := by
        intro f
        induction f with
        | zero =>
          intro j a z h1 h2 hf
          exact absurd hf (by omega)
        | succ f ih =>
          intro j a z h1 h2 hf H locs hI ls hl
          have ih31 := ih
          refine lv_iload hx hb dX12_carries_31 (lv_at hl 5 rfl) ?_
          refine lv_aload_n hx hb dX12_carries_33 rfl (lv_at hl 0 rfl) ?_
          refine z_get (C := RX12) (T := TX12) (N := 51) (ci := 12) (v := .int (nI N)) hx hb hts hin12 hown hK hI (zo77 hG) rfl 0 (by decide) wF7 (fun _ h9 => h9) (congrArg (fun q => some (Value.int q)) hr0.2.1) dX12_carries_34 ?_
          refine lv_icmp_ge (tgt := 121) hx hb dX12_carries_37 (by decide) (fun c_37 => ?_) (fun c_37 => ?_)
          · skip
            rw [zqG (by omega) (by omega)] at c_37
            refine lv_iload_n hx hb dX12_carries_121 rfl (lv_at hl 3 rfl) ?_
            exact z_iret hx hb hr hlocks hI (⟨rfl, Or.inr ⟨⟨c_5, c_16⟩, n1, by omega, rfl, by have e2 := h2; rw [show j = N by omega] at e2; rw [e2]⟩⟩) dX12_carries_122
          · skip
            rw [zqG (by omega) (by omega)] at c_37
            refine lv_iload_n hx hb dX12_carries_40 rfl (lv_at hl 1 rfl) ?_
            refine lv_iconst (v := (nI 1)) hx hb dX12_carries_41 rfl ?_
            refine lv_iload hx hb dX12_carries_42 (lv_at hl 5 rfl) ?_
            refine lv_ishl hx hb dX12_carries_44 ?_
            refine lv_iconst (v := (-1)) hx hb dX12_carries_45 rfl ?_
            refine lv_ixor hx hb dX12_carries_46 ?_
            refine lv_iand hx hb dX12_carries_47 ?_
            refine lv_istore (lv' := [(6, .int (b &&& (((nI 1) <<< ((nI j) &&& 31)) ^^^ (-1)))), (0, .ref (za G 77)), (1, .int b), (2, .int (nI n1)), (3, .int a), (4, .int z), (5, .int (nI j))]) hx hb dX12_carries_48 hl (by decide) rfl (fun ls hl => ?_)
            refine lv_aload_n hx hb dX12_carries_50 rfl (lv_at hl 1 rfl) ?_
            refine lv_iload hx hb dX12_carries_51 (lv_at hl 0 rfl) ?_
            refine z_calli (va_runV (As := [.int (b &&& (((nI 1) <<< ((nI j) &&& 31)) ^^^ (-1)))]) (rest := []) ⟨hx, hb, hml, hown, hts⟩ ((c_X12_noiseOf l hG x N (b &&& (((nI 1) <<< ((nI j) &&& 31)) ^^^ (-1))) hr0) A) (cwV 1 hts gX12_carries_X12_noiseOf rfl rfl rfl (by decide +kernel) ⟨Nat.le_of_ble_eq_true rfl, Nat.le_of_ble_eq_true rfl⟩) (z_pV hI hK hN (z_recv hK hI (zo77 hG) rfl)) rfl rfl hl.1 rfl (lv_room (Nat.le_of_ble_eq_true rfl)) dX12_carries_53 ⟨Nat.zero_le _, Nat.zero_le _⟩) hI (fun r_53 u H locs hw hI => ?_)
            obtain ⟨rfl, rfl⟩ := hw
            refine lv_istore (lv' := [(7, .int (znoiseR x (b &&& (((nI 1) <<< ((nI j) &&& 31)) ^^^ (-1))) N)), (6, .int (b &&& (((nI 1) <<< ((nI j) &&& 31)) ^^^ (-1)))), (0, .ref (za G 77)), (1, .int b), (2, .int (nI n1)), (3, .int a), (4, .int z), (5, .int (nI j))]) hx hb dX12_carries_56 hl (by decide) rfl (fun ls hl => ?_)
            refine lv_iconst (v := (nI 0)) hx hb dX12_carries_58 rfl ?_
            refine lv_istore (lv' := [(8, .int (nI 0)), (7, .int (znoiseR x (b &&& (((nI 1) <<< ((nI j) &&& 31)) ^^^ (-1))) N)), (6, .int (b &&& (((nI 1) <<< ((nI j) &&& 31)) ^^^ (-1)))), (0, .ref (za G 77)), (1, .int b), (2, .int (nI n1)), (3, .int a), (4, .int z), (5, .int (nI j))]) hx hb dX12_carries_59 hl (by decide) rfl (fun ls hl => ?_)
            have L61 : ∀ (f : Nat) (i1 : Nat) (y : Int32) (s1 : Int32), (i1 ≤ n1) → (y = ((zrun (fun y => zbehind x y (zhush (x.1 90) (x.1 91) F C) (nI j) N) (fun y => znoiseR x y N) i1 (b &&& ((nI 1 <<< (nI j &&& 31)) ^^^ (-1))))).1) → (s1 = ((zrun (fun y => zbehind x y (zhush (x.1 90) (x.1 91) F C) (nI j) N) (fun y => znoiseR x y N) i1 (b &&& ((nI 1 <<< (nI j &&& 31)) ^^^ (-1))))).2) → n1 + 1 ≤ i1 + f → ∀ (H : Heap) (locs : List Loc), zI G x A s.heap H locs → ∀ ls : Array Slot, lv_has ls 9 [(0, .ref (za G 77)), (1, .int b), (2, .int (nI n1)), (3, .int a), (4, .int z), (5, .int (nI j)), (6, .int y), (7, .int s1), (8, .int (nI i1))] → W p l e { frames := 3, cells := 0, slots := 0, locals := 70 } s m ([.ref (za G 77), .int b, .int (nI n1)] : List Value).toArray below meth c H locs 0 0 (MQ below (va_Qi (fun (r : Int32) (u : zX) => x = u ∧ ((¬ ((¬ b < 0 ∧ ¬ nI (2 ^ N) ≤ b) ∧ ¬ (nI n1) < nI 0 ∧ ¬ nI 30 < (nI n1)) ∧ -2 = r) ∨ (((¬ b < 0 ∧ ¬ nI (2 ^ N) ≤ b) ∧ ¬ (nI n1) < nI 0 ∧ ¬ nI 30 < (nI n1)) ∧ ∃ nb, nb ≤ 30 ∧ (nI n1) = nI nb ∧ (zleast (fun qq => (zrun (fun y => zbehind x y (zhush (x.1 90) (x.1 91) F C) (nI qq) N) (fun y => znoiseR x y N) nb (b &&& ((nI 1 <<< (nI qq &&& 31)) ^^^ (-1)))).2) N).1 = r))) (fun u t => zJ G u A t.heap) A) ([.ref (za G 77), .int b, .int (nI n1)] : List Value).toArray s 0 0 A) (F0 m 61 ls []) := by
              intro f
              induction f with
              | zero =>
                intro i1 y s1 g1 g2 g3 hf
                exact absurd hf (by omega)
              | succ f ih =>
                intro i1 y s1 g1 g2 g3 hf H locs hI ls hl
                have ih61 := ih
                refine lv_iload hx hb dX12_carries_61 (lv_at hl 8 rfl) ?_
                refine lv_iload_n hx hb dX12_carries_63 rfl (lv_at hl 2 rfl) ?_
                refine lv_icmp_ge (tgt := 94) hx hb dX12_carries_64 (by decide) (fun c_64 => ?_) (fun c_64 => ?_)
                · skip
                  rw [zqG (by omega) (by omega)] at c_64
                  refine lv_iload_n hx hb dX12_carries_94 rfl (lv_at hl 3 rfl) ?_
                  refine lv_if_lt (tgt := 108) hx hb dX12_carries_95 (by decide) (fun c_95 => ?_) (fun c_95 => ?_)
                  · skip
                    refine lv_iload hx hb dX12_carries_108 (lv_at hl 5 rfl) ?_
                    refine lv_istore_n (lv' := [(3, .int (nI j)), (0, .ref (za G 77)), (1, .int b), (2, .int (nI n1)), (4, .int z), (5, .int (nI j)), (6, .int y), (7, .int s1), (8, .int (nI i1))]) hx hb dX12_carries_110 rfl hl (by decide) rfl (fun ls hl => ?_)
                    refine lv_iload hx hb dX12_carries_111 (lv_at hl 7 rfl) ?_
                    refine lv_istore (lv' := [(4, .int s1), (3, .int (nI j)), (0, .ref (za G 77)), (1, .int b), (2, .int (nI n1)), (5, .int (nI j)), (6, .int y), (7, .int s1), (8, .int (nI i1))]) hx hb dX12_carries_113 hl (by decide) rfl (fun ls hl => ?_)
                    refine lv_iinc (v := (nI (j + 1))) (lv' := [(5, .int (nI (j + 1))), (4, .int s1), (3, .int (nI j)), (0, .ref (za G 77)), (1, .int b), (2, .int (nI n1)), (6, .int y), (7, .int s1), (8, .int (nI i1))]) hx hb dX12_carries_115 hl (k := 5) rfl (zinc j) (by decide) rfl (fun ls hl => ?_)
                    refine lv_goto (tgt := 31) hx hb dX12_carries_118 (by decide) ?_
                    exact ih31 (j + 1) (nI j) s1 (by omega) (by rw [zleast, h2]; show (if ¬ a < 0 ∧ ¬ ((zrun (fun y => zbehind x y (zhush (x.1 90) (x.1 91) F C) (nI j) N) (fun y => znoiseR x y N) n1 (b &&& ((nI 1 <<< (nI j &&& 31)) ^^^ (-1))))).2 < z then (a, z) else (nI j, ((zrun (fun y => zbehind x y (zhush (x.1 90) (x.1 91) F C) (nI j) N) (fun y => znoiseR x y N) n1 (b &&& ((nI 1 <<< (nI j &&& 31)) ^^^ (-1))))).2)) = _; rw [← show s1 = ((zrun (fun y => zbehind x y (zhush (x.1 90) (x.1 91) F C) (nI j) N) (fun y => znoiseR x y N) n1 (b &&& ((nI 1 <<< (nI j &&& 31)) ^^^ (-1))))).2 from by rw [g3, show i1 = n1 by omega]]; exact if_neg (fun h => h.1 c_95)) (by omega) _ _ hI ls (lv_sub hl [3, 4, 5, 2, 1, 0] rfl)
                  · skip
                    refine lv_iload hx hb dX12_carries_98 (lv_at hl 7 rfl) ?_
                    refine lv_iload hx hb dX12_carries_100 (lv_at hl 4 rfl) ?_
                    refine lv_icmp_lt (tgt := 108) hx hb dX12_carries_102 (by decide) (fun c_102 => ?_) (fun c_102 => ?_)
                    · skip
                      refine lv_iload hx hb dX12_carries_108 (lv_at hl 5 rfl) ?_
                      refine lv_istore_n (lv' := [(3, .int (nI j)), (0, .ref (za G 77)), (1, .int b), (2, .int (nI n1)), (4, .int z), (5, .int (nI j)), (6, .int y), (7, .int s1), (8, .int (nI i1))]) hx hb dX12_carries_110 rfl hl (by decide) rfl (fun ls hl => ?_)
                      refine lv_iload hx hb dX12_carries_111 (lv_at hl 7 rfl) ?_
                      refine lv_istore (lv' := [(4, .int s1), (3, .int (nI j)), (0, .ref (za G 77)), (1, .int b), (2, .int (nI n1)), (5, .int (nI j)), (6, .int y), (7, .int s1), (8, .int (nI i1))]) hx hb dX12_carries_113 hl (by decide) rfl (fun ls hl => ?_)
                      refine lv_iinc (v := (nI (j + 1))) (lv' := [(5, .int (nI (j + 1))), (4, .int s1), (3, .int (nI j)), (0, .ref (za G 77)), (1, .int b), (2, .int (nI n1)), (6, .int y), (7, .int s1), (8, .int (nI i1))]) hx hb dX12_carries_115 hl (k := 5) rfl (zinc j) (by decide) rfl (fun ls hl => ?_)
                      refine lv_goto (tgt := 31) hx hb dX12_carries_118 (by decide) ?_
                      exact ih31 (j + 1) (nI j) s1 (by omega) (by rw [zleast, h2]; show (if ¬ a < 0 ∧ ¬ ((zrun (fun y => zbehind x y (zhush (x.1 90) (x.1 91) F C) (nI j) N) (fun y => znoiseR x y N) n1 (b &&& ((nI 1 <<< (nI j &&& 31)) ^^^ (-1))))).2 < z then (a, z) else (nI j, ((zrun (fun y => zbehind x y (zhush (x.1 90) (x.1 91) F C) (nI j) N) (fun y => znoiseR x y N) n1 (b &&& ((nI 1 <<< (nI j &&& 31)) ^^^ (-1))))).2)) = _; rw [← show s1 = ((zrun (fun y => zbehind x y (zhush (x.1 90) (x.1 91) F C) (nI j) N) (fun y => znoiseR x y N) n1 (b &&& ((nI 1 <<< (nI j &&& 31)) ^^^ (-1))))).2 from by rw [g3, show i1 = n1 by omega]]; exact if_neg (fun h => h.2 c_102)) (by omega) _ _ hI ls (lv_sub hl [3, 4, 5, 2, 1, 0] rfl)
                    · skip
                      refine lv_goto (tgt := 115) hx hb dX12_carries_105 (by decide) ?_
                      refine lv_iinc (v := (nI (j + 1))) (lv' := [(5, .int (nI (j + 1))), (0, .ref (za G 77)), (1, .int b), (2, .int (nI n1)), (3, .int a), (4, .int z), (6, .int y), (7, .int s1), (8, .int (nI i1))]) hx hb dX12_carries_115 hl (k := 5) rfl (zinc j) (by decide) rfl (fun ls hl => ?_)
                      refine lv_goto (tgt := 31) hx hb dX12_carries_118 (by decide) ?_
                      exact ih31 (j + 1) a z (by omega) (by rw [zleast, h2]; show (if ¬ a < 0 ∧ ¬ ((zrun (fun y => zbehind x y (zhush (x.1 90) (x.1 91) F C) (nI j) N) (fun y => znoiseR x y N) n1 (b &&& ((nI 1 <<< (nI j &&& 31)) ^^^ (-1))))).2 < z then (a, z) else (nI j, ((zrun (fun y => zbehind x y (zhush (x.1 90) (x.1 91) F C) (nI j) N) (fun y => znoiseR x y N) n1 (b &&& ((nI 1 <<< (nI j &&& 31)) ^^^ (-1))))).2)) = _; rw [← show s1 = ((zrun (fun y => zbehind x y (zhush (x.1 90) (x.1 91) F C) (nI j) N) (fun y => znoiseR x y N) n1 (b &&& ((nI 1 <<< (nI j &&& 31)) ^^^ (-1))))).2 from by rw [g3, show i1 = n1 by omega]]; exact if_pos ⟨c_95, c_102⟩) (by omega) _ _ hI ls (lv_sub hl [1, 2, 3, 4, 5, 0] rfl)
                · skip
                  rw [zqG (by omega) (by omega)] at c_64
                  refine lv_aload_n hx hb dX12_carries_67 rfl (lv_at hl 0 rfl) ?_
                  refine lv_iload hx hb dX12_carries_68 (lv_at hl 6 rfl) ?_
                  refine lv_iload hx hb dX12_carries_70 (lv_at hl 5 rfl) ?_
                  refine z_calli (va_runV (As := [.int y, .int (nI j)]) (rest := []) ⟨hx, hb, hml, hown, hts⟩ ((c_X12_talkBehind l hG x N F C y (nI j) hr0 hcl) A) (cwV 2 hts gX12_carries_X12_talkBehind rfl rfl rfl (by decide +kernel) ⟨Nat.le_of_ble_eq_true rfl, Nat.le_of_ble_eq_true rfl⟩) (z_pV hI hK hN (z_recv hK hI (zo77 hG) rfl)) rfl rfl hl.1 rfl (lv_room (Nat.le_of_ble_eq_true rfl)) dX12_carries_72 ⟨Nat.zero_le _, Nat.zero_le _⟩) hI (fun r_72 u H locs hw hI => ?_)
                  obtain ⟨rfl, rfl⟩ := hw
                  refine lv_istore (lv' := [(6, .int (zbehind x y (zhush (x.1 90) (x.1 91) F C) (nI j) N)), (0, .ref (za G 77)), (1, .int b), (2, .int (nI n1)), (3, .int a), (4, .int z), (5, .int (nI j)), (7, .int s1), (8, .int (nI i1))]) hx hb dX12_carries_75 hl (by decide) rfl (fun ls hl => ?_)
                  refine lv_iload hx hb dX12_carries_77 (lv_at hl 7 rfl) ?_
                  refine lv_aload_n hx hb dX12_carries_79 rfl (lv_at hl 1 rfl) ?_
                  refine lv_iload hx hb dX12_carries_80 (lv_at hl 0 rfl) ?_
                  refine z_calli (va_runV (As := [.int (zbehind x y (zhush (x.1 90) (x.1 91) F C) (nI j) N)]) (rest := [.int s1]) ⟨hx, hb, hml, hown, hts⟩ ((c_X12_noiseOf l hG x N (zbehind x y (zhush (x.1 90) (x.1 91) F C) (nI j) N) hr0) A) (cwV 1 hts gX12_carries_X12_noiseOf rfl rfl rfl (by decide +kernel) ⟨Nat.le_of_ble_eq_true rfl, Nat.le_of_ble_eq_true rfl⟩) (z_pV hI hK hN (z_recv hK hI (zo77 hG) rfl)) rfl rfl hl.1 rfl (lv_room (Nat.le_of_ble_eq_true rfl)) dX12_carries_82 ⟨Nat.zero_le _, Nat.zero_le _⟩) hI (fun r_82 u H locs hw hI => ?_)
                  obtain ⟨rfl, rfl⟩ := hw
                  refine lv_iadd hx hb dX12_carries_85 ?_
                  refine lv_istore (lv' := [(7, .int (s1 + (znoiseR x (zbehind x y (zhush (x.1 90) (x.1 91) F C) (nI j) N) N))), (6, .int (zbehind x y (zhush (x.1 90) (x.1 91) F C) (nI j) N)), (0, .ref (za G 77)), (1, .int b), (2, .int (nI n1)), (3, .int a), (4, .int z), (5, .int (nI j)), (8, .int (nI i1))]) hx hb dX12_carries_86 hl (by decide) rfl (fun ls hl => ?_)
                  refine lv_iinc (v := (nI (i1 + 1))) (lv' := [(8, .int (nI (i1 + 1))), (7, .int (s1 + (znoiseR x (zbehind x y (zhush (x.1 90) (x.1 91) F C) (nI j) N) N))), (6, .int (zbehind x y (zhush (x.1 90) (x.1 91) F C) (nI j) N)), (0, .ref (za G 77)), (1, .int b), (2, .int (nI n1)), (3, .int a), (4, .int z), (5, .int (nI j))]) hx hb dX12_carries_88 hl (k := 8) rfl (zinc i1) (by decide) rfl (fun ls hl => ?_)
                  refine lv_goto (tgt := 61) hx hb dX12_carries_91 (by decide) ?_
                  exact ih61 (i1 + 1) (zbehind x y (zhush (x.1 90) (x.1 91) F C) (nI j) N) (s1 + (znoiseR x (zbehind x y (zhush (x.1 90) (x.1 91) F C) (nI j) N) N)) (by omega) (by rw [g2]; rfl) (by rw [g3, g2]; rfl) (by omega) _ _ hI ls (lv_sub hl [3, 4, 5, 6, 7, 8, 2, 1, 0] rfl)
            exact L61 (n1 + 1) 0 (b &&& (((nI 1) <<< ((nI j) &&& 31)) ^^^ (-1))) (znoiseR x (b &&& (((nI 1) <<< ((nI j) &&& 31)) ^^^ (-1))) N) (by omega) rfl rfl (by omega) _ _ hI ls (lv_sub hl [3, 4, 5, 6, 7, 8, 2, 1, 0] rfl)
      exact L31 (N + 1) 0 (-5) (nI 0) (by omega) rfl (by omega) _ _ hI ls (lv_sub hl [3, 4, 5, 2, 1, 0] rfl)
    · skip
      rw [zb_0] at c_16
      refine lv_bipush (v := (-2)) hx hb dX12_carries_19 rfl ?_
      exact z_iret hx hb hr hlocks hI (⟨rfl, Or.inl ⟨fun h => c_16 h.2, rfl⟩⟩) dX12_carries_21
