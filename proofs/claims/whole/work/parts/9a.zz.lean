theorem zk_ge {k : Int32} (h1 : ¬ k < (-2)) (h2 : ¬ k = -1) (h3 : ¬ k = -2) : ¬ k < 0 := by
  rw [Int32.lt_iff_toInt_lt] at h1 ⊢
  have e1 : (-2 : Int32).toInt = -2 := by decide
  have e2 : (-1 : Int32).toInt = -1 := by decide
  rw [← Int32.toInt_inj, e2] at h2
  rw [← Int32.toInt_inj, e1] at h3
  rw [e1] at h1
  rw [Int32.toInt_zero]
  omega
set_option maxHeartbeats 1000000 in
set_option maxRecDepth 100000 in
theorem c_X12_findBest (l : Launch) {G : zG} (hG : zOK G) (x : zX) (N F C : Nat) (bt : Int32) (hr0 : zRef x N) (hcs : zCls x F C) (hkd : zKd x N) (hN6 : N ≤ 6) : zMv l yX12_findBest wsX12_findBest { frames := 5, cells := 0, slots := 0, locals := 127 } G [.ref (za G 77), .int bt] x (fun (u : zX) => ∃ y, (zQ9 x y ∧ zTR x N F C y) ∧ (zfbN N bt y (8 ^ N)).2 = u) := by
  intro A
  refine zBody (cc := cX12_findBest) (maxL := 6) (ret := none) (by decide) rfl (Nat.le_of_ble_eq_true rfl) ?_
  intro p e s m below meth c hx hb hml hown hts hr hlocks hK hN hI ls hl
  have hown : s.vm.findClass RX12 = some m.cls := hown
  have hl : lv_has ls 6 [(0, .ref (za G 77)), (1, .int bt)] := hl
  have hin12 : ∀ w ∈ wsX120, w ∈ wsX12_findBest := (fun _ h => List.mem_cons_of_mem _ (List.mem_append_right _ (h)))
  have wF114 := hts (.fieldLink RX12 114 "WhoSitsByModel" "foundBreaks" "I") (z_mem 1 rfl)
  have wF117 := hts (.fieldLink RX12 117 "WhoSitsByModel" "foundWorth" "I") (z_mem 2 rfl)
  have hpw := z_pw hN6
  refine lv_aload_n hx hb dX12_findBest_0 rfl (lv_at hl 0 rfl) ?_
  refine z_callv (va_runV (As := []) (rest := []) ⟨hx, hb, hml, hown, hts⟩ ((c_X12_layPairs l hG x N F C hr0 hcs hkd) A) (cwV 0 hts gX12_findBest_X12_layPairs rfl rfl rfl (by decide +kernel) ⟨Nat.le_of_ble_eq_true rfl, Nat.le_of_ble_eq_true rfl⟩) (z_pV hI hK hN (z_recv hK hI (zo77 hG) rfl)) rfl rfl hl.1 rfl (lv_room (Nat.le_of_ble_eq_true rfl)) dX12_findBest_1 ⟨Nat.zero_le _, Nat.zero_le _⟩) hI (fun u H locs hw hI => ?_)
  obtain ⟨hLQy, hLTy⟩ := hw
  generalize u = y at hI hLQy hLTy
  refine lv_iconst (v := (nI 0)) hx hb dX12_findBest_4 rfl ?_
  refine lv_istore_n (lv' := [(2, .int (nI 0)), (0, .ref (za G 77)), (1, .int bt)]) hx hb dX12_findBest_5 rfl hl (by decide) rfl (fun ls hl => ?_)
  refine lv_iconst (v := (nI 0)) hx hb dX12_findBest_6 rfl ?_
  refine lv_istore_n (lv' := [(3, .int (nI 0)), (2, .int (nI 0)), (0, .ref (za G 77)), (1, .int bt)]) hx hb dX12_findBest_7 rfl hl (by decide) rfl (fun ls hl => ?_)
  have L8 : ∀ (f : Nat) (cq : Nat) (t9 : Bool × zX), (cq ≤ 8 ^ N) → (zfbN N bt y cq = t9) → 8 ^ N + 1 ≤ cq + f → ∀ (H : Heap) (locs : List Loc), zI G t9.2 A s.heap H locs → ∀ ls : Array Slot, lv_has ls 6 [(0, .ref (za G 77)), (1, .int bt), (2, .int (if t9.1 = true then nI 1 else nI 0)), (3, .int (nI cq))] → W p l e { frames := 5, cells := 0, slots := 0, locals := 127 } s m ([.ref (za G 77), .int bt] : List Value).toArray below meth c H locs 0 0 (MQ below (va_Qv (fun (u : zX) => ∃ y, (zQ9 x y ∧ zTR x N F C y) ∧ (zfbN N bt y (8 ^ N)).2 = u) (fun u t => zJ G u A t.heap) A) ([.ref (za G 77), .int bt] : List Value).toArray s 0 0 A) (F0 m 8 ls []) := by
    intro f
    induction f with
    | zero =>
      intro cq t9 h1 ht9 hf
      exact absurd hf (by omega)
    | succ f ih =>
      intro cq t9 h1 ht9 hf H locs hI ls hl
      have hq9 : zQ9 x t9.2 := hLQy.t (by rw [← ht9]; exact (zfbN_q cq).1)
      have ih8 := ih
      refine lv_iload_n hx hb dX12_findBest_8 rfl (lv_at hl 3 rfl) ?_
      refine lv_aload_n hx hb dX12_findBest_9 rfl (lv_at hl 0 rfl) ?_
      refine z_calli (va_runV (As := []) (rest := [.int (nI cq)]) ⟨hx, hb, hml, hown, hts⟩ ((c_X12_codes l hG t9.2 N (zRef_q hq9 hr0) hN6) A) (cwV 0 hts gX12_findBest_X12_codes rfl rfl rfl (by decide +kernel) ⟨Nat.le_of_ble_eq_true rfl, Nat.le_of_ble_eq_true rfl⟩) (z_pV hI hK hN (z_recv hK hI (zo77 hG) rfl)) rfl rfl hl.1 rfl (lv_room (Nat.le_of_ble_eq_true rfl)) dX12_findBest_10 ⟨Nat.zero_le _, Nat.zero_le _⟩) hI (fun r_10 u H locs hw hI => ?_)
      obtain ⟨rfl, rfl⟩ := hw
      refine lv_icmp_ge (tgt := 105) hx hb dX12_findBest_13 (by decide) (fun c_13 => ?_) (fun c_13 => ?_)
      · skip
        rw [zqG (by omega) (by omega)] at c_13
        exact z_vret hx hb hr hlocks hI (⟨y, ⟨hLQy, hLTy⟩, by rw [show 8 ^ N = cq by omega, ht9]⟩) dX12_findBest_105
      · skip
        rw [zqG (by omega) (by omega)] at c_13
        refine lv_aload_n hx hb dX12_findBest_16 rfl (lv_at hl 0 rfl) ?_
        refine lv_iload_n hx hb dX12_findBest_17 rfl (lv_at hl 3 rfl) ?_
        refine z_calli (va_runV (As := [.int (nI cq)]) (rest := []) ⟨hx, hb, hml, hown, hts⟩ ((c_X12_layRow l hG t9.2 N cq (zRef_q hq9 hr0) hN6 (by have := z_pw hN6; omega)) A) (cwV 1 hts gX12_findBest_X12_layRow rfl rfl rfl (by decide +kernel) ⟨Nat.le_of_ble_eq_true rfl, Nat.le_of_ble_eq_true rfl⟩) (z_pV hI hK hN (z_recv hK hI (zo77 hG) rfl)) rfl rfl hl.1 rfl (lv_room (Nat.le_of_ble_eq_true rfl)) dX12_findBest_18 ⟨Nat.zero_le _, Nat.zero_le _⟩) hI (fun r_18 u H locs hw hI => ?_)
        obtain ⟨rfl, rfl⟩ := hw
        have hrl : zrow ((zsrI t9.2 100 (zlay t9.2 N cq).1).1 100) := by rw [zsrI_u]; exact zlay_row (by omega)
        refine lv_if_ne (tgt := 27) hx hb dX12_findBest_21 (by decide) (fun c_21 => ?_) (fun c_21 => ?_)
        · skip
          rw [zb_0, Classical.not_not] at c_21
          refine lv_aload_n hx hb dX12_findBest_27 rfl (lv_at hl 0 rfl) ?_
          refine lv_iload_n hx hb dX12_findBest_28 rfl (lv_at hl 1 rfl) ?_
          refine z_calli (va_runV (As := [.int bt]) (rest := []) ⟨hx, hb, hml, hown, hts⟩ ((c_X12_breaksThere l hG (zsrI t9.2 100 (zlay t9.2 N cq).1) bt hrl) A) (cwV 1 hts gX12_findBest_X12_breaksThere rfl rfl rfl (by decide +kernel) ⟨Nat.le_of_ble_eq_true rfl, Nat.le_of_ble_eq_true rfl⟩) (z_pV hI hK hN (z_recv hK hI (zo77 hG) rfl)) rfl rfl hl.1 rfl (lv_room (Nat.le_of_ble_eq_true rfl)) dX12_findBest_29 ⟨Nat.zero_le _, Nat.zero_le _⟩) hI (fun r_29 u H locs hw hI => ?_)
          obtain ⟨rfl, rfl⟩ := hw
          refine lv_istore (lv' := [(4, .int (zsum (zsk (zsrI t9.2 100 (zlay t9.2 N cq).1) bt) 8)), (0, .ref (za G 77)), (1, .int bt), (2, .int (if t9.1 = true then nI 1 else nI 0)), (3, .int (nI cq))]) hx hb dX12_findBest_32 hl (by decide) rfl (fun ls hl => ?_)
          refine lv_iload_n hx hb dX12_findBest_34 rfl (lv_at hl 3 rfl) ?_
          refine lv_if_eq (tgt := 50) hx hb dX12_findBest_35 (by decide) (fun c_35 => ?_) (fun c_35 => ?_)
          · skip
            rw [zb_0] at c_35
            refine lv_aload_n hx hb dX12_findBest_50 rfl (lv_at hl 1 rfl) ?_
            refine z_calli (va_runV (As := []) (rest := []) ⟨hx, hb, hml, hown, hts⟩ ((c_X12_worthThere l hG (zsrI t9.2 100 (zlay t9.2 N cq).1) hrl) A) (cwV 0 hts gX12_findBest_X12_worthThere rfl rfl rfl (by decide +kernel) ⟨Nat.le_of_ble_eq_true rfl, Nat.le_of_ble_eq_true rfl⟩) (z_pV hI hK hN (z_recv hK hI (zo77 hG) rfl)) rfl rfl hl.1 rfl (lv_room (Nat.le_of_ble_eq_true rfl)) dX12_findBest_51 ⟨Nat.zero_le _, Nat.zero_le _⟩) hI (fun r_51 u H locs hw hI => ?_)
            obtain ⟨rfl, rfl⟩ := hw
            refine lv_istore (lv' := [(5, .int (zsum (zsw (zsrI t9.2 100 (zlay t9.2 N cq).1)) 8)), (4, .int (zsum (zsk (zsrI t9.2 100 (zlay t9.2 N cq).1) bt) 8)), (0, .ref (za G 77)), (1, .int bt), (2, .int (if t9.1 = true then nI 1 else nI 0)), (3, .int (nI cq))]) hx hb dX12_findBest_54 hl (by decide) rfl (fun ls hl => ?_)
            refine lv_iload_n hx hb dX12_findBest_56 rfl (lv_at hl 4 rfl) ?_
            refine lv_if_eq (tgt := 81) hx hb dX12_findBest_57 (by decide) (fun c_57 => ?_) (fun c_57 => ?_)
            · skip
              rw [zb_0] at c_57
              refine lv_iconst (v := (nI 1)) hx hb dX12_findBest_81 rfl ?_
              refine lv_istore_n (lv' := [(2, .int (nI 1)), (5, .int (zsum (zsw (zsrI t9.2 100 (zlay t9.2 N cq).1)) 8)), (4, .int (zsum (zsk (zsrI t9.2 100 (zlay t9.2 N cq).1) bt) 8)), (0, .ref (za G 77)), (1, .int bt), (3, .int (nI cq))]) hx hb dX12_findBest_82 rfl hl (by decide) rfl (fun ls hl => ?_)
              refine lv_aload_n hx hb dX12_findBest_83 rfl (lv_at hl 3 rfl) ?_
              refine lv_iload hx hb dX12_findBest_84 (lv_at hl 2 rfl) ?_
              refine z_putI (C := RX12) (T := TX12) (N := 51) (ci := 12) (ty := .int) hx hb hts hin12 tyX12 tyX12_ok nmX12 hown hK hI (zo77 hG) rfl 34 (by decide) wF114 (fun _ h9 => h9) rfl (fun _ _ => rfl) (by decide +kernel) rfl rfl (fun _ _ => Nat.le_of_ble_eq_true rfl) dX12_findBest_86 (fun H locs hI => ?_)
              refine lv_aload_n hx hb dX12_findBest_89 rfl (lv_at hl 3 rfl) ?_
              refine lv_iload hx hb dX12_findBest_90 (lv_at hl 1 rfl) ?_
              refine z_putI (C := RX12) (T := TX12) (N := 51) (ci := 12) (ty := .int) hx hb hts hin12 tyX12 tyX12_ok nmX12 hown hK hI (zo77 hG) rfl 35 (by decide) wF117 (fun _ h9 => h9) rfl (fun _ _ => rfl) (by decide +kernel) rfl rfl (fun _ _ => Nat.le_of_ble_eq_true rfl) dX12_findBest_92 (fun H locs hI => ?_)
              refine lv_aload_n hx hb dX12_findBest_95 rfl (lv_at hl 3 rfl) ?_
              refine z_callv (va_runV (As := []) (rest := []) ⟨hx, hb, hml, hown, hts⟩ ((c_X12_keepRow l hG (zsI (zsI (zsrI t9.2 100 (zlay t9.2 N cq).1) 77 34 (zsum (zsk (zsrI t9.2 100 (zlay t9.2 N cq).1) bt) 8)) 77 35 (zsum (zsw (zsrI t9.2 100 (zlay t9.2 N cq).1)) 8)) hrl) A) (cwV 0 hts gX12_findBest_X12_keepRow rfl rfl rfl (by decide +kernel) ⟨Nat.le_of_ble_eq_true rfl, Nat.le_of_ble_eq_true rfl⟩) (z_pV hI hK hN (z_recv hK hI (zo77 hG) rfl)) rfl rfl hl.1 rfl (lv_room (Nat.le_of_ble_eq_true rfl)) dX12_findBest_96 ⟨Nat.zero_le _, Nat.zero_le _⟩) hI (fun u H locs hw hI => ?_)
              obtain rfl := hw
              refine lv_iinc (v := (nI (cq + 1))) (lv' := [(3, .int (nI (cq + 1))), (2, .int (nI 1)), (5, .int (zsum (zsw (zsrI t9.2 100 (zlay t9.2 N cq).1)) 8)), (4, .int (zsum (zsk (zsrI t9.2 100 (zlay t9.2 N cq).1) bt) 8)), (0, .ref (za G 77)), (1, .int bt)]) hx hb dX12_findBest_99 hl (k := 5) rfl (zinc cq) (by decide) rfl (fun ls hl => ?_)
              refine lv_goto (tgt := 8) hx hb dX12_findBest_102 (by decide) ?_
              exact ih8 (cq + 1) (zfb1 N bt cq t9) (by omega) (by rw [zfbN, ht9]) (by omega) _ _ (by rw [show (zfb1 N bt cq t9) = _ from (if_neg (fun h9 => h9 c_21)).trans ((if_neg (fun h9 => c_35 h9.1)).trans (if_neg (fun h9 => c_35 h9.1)))]; exact hI) ls (by rw [show (zfb1 N bt cq t9) = _ from (if_neg (fun h9 => h9 c_21)).trans ((if_neg (fun h9 => c_35 h9.1)).trans (if_neg (fun h9 => c_35 h9.1)))]; exact lv_sub hl [4, 5, 1, 0] rfl)
            · skip
              rw [zb_0, Classical.not_not] at c_57
              exact absurd c_57 c_35
          · skip
            rw [zb_0, Classical.not_not] at c_35
            refine lv_iload hx hb dX12_findBest_38 (lv_at hl 0 rfl) ?_
            refine lv_aload_n hx hb dX12_findBest_40 rfl (lv_at hl 1 rfl) ?_
            refine z_get (C := RX12) (T := TX12) (N := 51) (ci := 12) (v := .int (t9.2.1 77 34)) hx hb hts hin12 hown hK hI (zo77 hG) rfl 34 (by decide) wF114 (fun _ h9 => h9) rfl dX12_findBest_41 ?_
            refine lv_icmp_le (tgt := 50) hx hb dX12_findBest_44 (by decide) (fun c_44 => ?_) (fun c_44 => ?_)
            · skip
              refine lv_aload_n hx hb dX12_findBest_50 rfl (lv_at hl 1 rfl) ?_
              refine z_calli (va_runV (As := []) (rest := []) ⟨hx, hb, hml, hown, hts⟩ ((c_X12_worthThere l hG (zsrI t9.2 100 (zlay t9.2 N cq).1) hrl) A) (cwV 0 hts gX12_findBest_X12_worthThere rfl rfl rfl (by decide +kernel) ⟨Nat.le_of_ble_eq_true rfl, Nat.le_of_ble_eq_true rfl⟩) (z_pV hI hK hN (z_recv hK hI (zo77 hG) rfl)) rfl rfl hl.1 rfl (lv_room (Nat.le_of_ble_eq_true rfl)) dX12_findBest_51 ⟨Nat.zero_le _, Nat.zero_le _⟩) hI (fun r_51 u H locs hw hI => ?_)
              obtain ⟨rfl, rfl⟩ := hw
              refine lv_istore (lv' := [(5, .int (zsum (zsw (zsrI t9.2 100 (zlay t9.2 N cq).1)) 8)), (4, .int (zsum (zsk (zsrI t9.2 100 (zlay t9.2 N cq).1) bt) 8)), (0, .ref (za G 77)), (1, .int bt), (2, .int (if t9.1 = true then nI 1 else nI 0)), (3, .int (nI cq))]) hx hb dX12_findBest_54 hl (by decide) rfl (fun ls hl => ?_)
              refine lv_iload_n hx hb dX12_findBest_56 rfl (lv_at hl 4 rfl) ?_
              refine lv_if_eq (tgt := 81) hx hb dX12_findBest_57 (by decide) (fun c_57 => ?_) (fun c_57 => ?_)
              · skip
                rw [zb_0] at c_57
                exact absurd c_35 c_57
              · skip
                rw [zb_0, Classical.not_not] at c_57
                refine lv_iload hx hb dX12_findBest_60 (lv_at hl 1 rfl) ?_
                refine lv_aload_n hx hb dX12_findBest_62 rfl (lv_at hl 2 rfl) ?_
                refine z_get (C := RX12) (T := TX12) (N := 51) (ci := 12) (v := .int (t9.2.1 77 34)) hx hb hts hin12 hown hK hI (zo77 hG) rfl 34 (by decide) wF114 (fun _ h9 => h9) rfl dX12_findBest_63 ?_
                refine lv_icmp_ne (tgt := 81) hx hb dX12_findBest_66 (by decide) (fun c_66 => ?_) (fun c_66 => ?_)
                · skip
                  refine lv_iconst (v := (nI 1)) hx hb dX12_findBest_81 rfl ?_
                  refine lv_istore_n (lv' := [(2, .int (nI 1)), (5, .int (zsum (zsw (zsrI t9.2 100 (zlay t9.2 N cq).1)) 8)), (4, .int (zsum (zsk (zsrI t9.2 100 (zlay t9.2 N cq).1) bt) 8)), (0, .ref (za G 77)), (1, .int bt), (3, .int (nI cq))]) hx hb dX12_findBest_82 rfl hl (by decide) rfl (fun ls hl => ?_)
                  refine lv_aload_n hx hb dX12_findBest_83 rfl (lv_at hl 3 rfl) ?_
                  refine lv_iload hx hb dX12_findBest_84 (lv_at hl 2 rfl) ?_
                  refine z_putI (C := RX12) (T := TX12) (N := 51) (ci := 12) (ty := .int) hx hb hts hin12 tyX12 tyX12_ok nmX12 hown hK hI (zo77 hG) rfl 34 (by decide) wF114 (fun _ h9 => h9) rfl (fun _ _ => rfl) (by decide +kernel) rfl rfl (fun _ _ => Nat.le_of_ble_eq_true rfl) dX12_findBest_86 (fun H locs hI => ?_)
                  refine lv_aload_n hx hb dX12_findBest_89 rfl (lv_at hl 3 rfl) ?_
                  refine lv_iload hx hb dX12_findBest_90 (lv_at hl 1 rfl) ?_
                  refine z_putI (C := RX12) (T := TX12) (N := 51) (ci := 12) (ty := .int) hx hb hts hin12 tyX12 tyX12_ok nmX12 hown hK hI (zo77 hG) rfl 35 (by decide) wF117 (fun _ h9 => h9) rfl (fun _ _ => rfl) (by decide +kernel) rfl rfl (fun _ _ => Nat.le_of_ble_eq_true rfl) dX12_findBest_92 (fun H locs hI => ?_)
                  refine lv_aload_n hx hb dX12_findBest_95 rfl (lv_at hl 3 rfl) ?_
                  refine z_callv (va_runV (As := []) (rest := []) ⟨hx, hb, hml, hown, hts⟩ ((c_X12_keepRow l hG (zsI (zsI (zsrI t9.2 100 (zlay t9.2 N cq).1) 77 34 (zsum (zsk (zsrI t9.2 100 (zlay t9.2 N cq).1) bt) 8)) 77 35 (zsum (zsw (zsrI t9.2 100 (zlay t9.2 N cq).1)) 8)) hrl) A) (cwV 0 hts gX12_findBest_X12_keepRow rfl rfl rfl (by decide +kernel) ⟨Nat.le_of_ble_eq_true rfl, Nat.le_of_ble_eq_true rfl⟩) (z_pV hI hK hN (z_recv hK hI (zo77 hG) rfl)) rfl rfl hl.1 rfl (lv_room (Nat.le_of_ble_eq_true rfl)) dX12_findBest_96 ⟨Nat.zero_le _, Nat.zero_le _⟩) hI (fun u H locs hw hI => ?_)
                  obtain rfl := hw
                  refine lv_iinc (v := (nI (cq + 1))) (lv' := [(3, .int (nI (cq + 1))), (2, .int (nI 1)), (5, .int (zsum (zsw (zsrI t9.2 100 (zlay t9.2 N cq).1)) 8)), (4, .int (zsum (zsk (zsrI t9.2 100 (zlay t9.2 N cq).1) bt) 8)), (0, .ref (za G 77)), (1, .int bt)]) hx hb dX12_findBest_99 hl (k := 5) rfl (zinc cq) (by decide) rfl (fun ls hl => ?_)
                  refine lv_goto (tgt := 8) hx hb dX12_findBest_102 (by decide) ?_
                  exact ih8 (cq + 1) (zfb1 N bt cq t9) (by omega) (by rw [zfbN, ht9]) (by omega) _ _ (by rw [show (zfb1 N bt cq t9) = _ from (if_neg (fun h9 => h9 c_21)).trans ((if_neg (fun h9 => Int32.not_lt.mpr c_44 h9.2)).trans (if_neg (fun h9 => c_66 h9.2.1)))]; exact hI) ls (by rw [show (zfb1 N bt cq t9) = _ from (if_neg (fun h9 => h9 c_21)).trans ((if_neg (fun h9 => Int32.not_lt.mpr c_44 h9.2)).trans (if_neg (fun h9 => c_66 h9.2.1)))]; exact lv_sub hl [4, 5, 1, 0] rfl)
                · skip
                  refine lv_iload hx hb dX12_findBest_69 (lv_at hl 0 rfl) ?_
                  refine lv_aload_n hx hb dX12_findBest_71 rfl (lv_at hl 2 rfl) ?_
                  refine z_get (C := RX12) (T := TX12) (N := 51) (ci := 12) (v := .int (t9.2.1 77 35)) hx hb hts hin12 hown hK hI (zo77 hG) rfl 35 (by decide) wF117 (fun _ h9 => h9) rfl dX12_findBest_72 ?_
                  refine lv_icmp_gt (tgt := 81) hx hb dX12_findBest_75 (by decide) (fun c_75 => ?_) (fun c_75 => ?_)
                  · skip
                    refine lv_iconst (v := (nI 1)) hx hb dX12_findBest_81 rfl ?_
                    refine lv_istore_n (lv' := [(2, .int (nI 1)), (5, .int (zsum (zsw (zsrI t9.2 100 (zlay t9.2 N cq).1)) 8)), (4, .int (zsum (zsk (zsrI t9.2 100 (zlay t9.2 N cq).1) bt) 8)), (0, .ref (za G 77)), (1, .int bt), (3, .int (nI cq))]) hx hb dX12_findBest_82 rfl hl (by decide) rfl (fun ls hl => ?_)
                    refine lv_aload_n hx hb dX12_findBest_83 rfl (lv_at hl 3 rfl) ?_
                    refine lv_iload hx hb dX12_findBest_84 (lv_at hl 2 rfl) ?_
                    refine z_putI (C := RX12) (T := TX12) (N := 51) (ci := 12) (ty := .int) hx hb hts hin12 tyX12 tyX12_ok nmX12 hown hK hI (zo77 hG) rfl 34 (by decide) wF114 (fun _ h9 => h9) rfl (fun _ _ => rfl) (by decide +kernel) rfl rfl (fun _ _ => Nat.le_of_ble_eq_true rfl) dX12_findBest_86 (fun H locs hI => ?_)
                    refine lv_aload_n hx hb dX12_findBest_89 rfl (lv_at hl 3 rfl) ?_
                    refine lv_iload hx hb dX12_findBest_90 (lv_at hl 1 rfl) ?_
                    refine z_putI (C := RX12) (T := TX12) (N := 51) (ci := 12) (ty := .int) hx hb hts hin12 tyX12 tyX12_ok nmX12 hown hK hI (zo77 hG) rfl 35 (by decide) wF117 (fun _ h9 => h9) rfl (fun _ _ => rfl) (by decide +kernel) rfl rfl (fun _ _ => Nat.le_of_ble_eq_true rfl) dX12_findBest_92 (fun H locs hI => ?_)
                    refine lv_aload_n hx hb dX12_findBest_95 rfl (lv_at hl 3 rfl) ?_
                    refine z_callv (va_runV (As := []) (rest := []) ⟨hx, hb, hml, hown, hts⟩ ((c_X12_keepRow l hG (zsI (zsI (zsrI t9.2 100 (zlay t9.2 N cq).1) 77 34 (zsum (zsk (zsrI t9.2 100 (zlay t9.2 N cq).1) bt) 8)) 77 35 (zsum (zsw (zsrI t9.2 100 (zlay t9.2 N cq).1)) 8)) hrl) A) (cwV 0 hts gX12_findBest_X12_keepRow rfl rfl rfl (by decide +kernel) ⟨Nat.le_of_ble_eq_true rfl, Nat.le_of_ble_eq_true rfl⟩) (z_pV hI hK hN (z_recv hK hI (zo77 hG) rfl)) rfl rfl hl.1 rfl (lv_room (Nat.le_of_ble_eq_true rfl)) dX12_findBest_96 ⟨Nat.zero_le _, Nat.zero_le _⟩) hI (fun u H locs hw hI => ?_)
                    obtain rfl := hw
                    refine lv_iinc (v := (nI (cq + 1))) (lv' := [(3, .int (nI (cq + 1))), (2, .int (nI 1)), (5, .int (zsum (zsw (zsrI t9.2 100 (zlay t9.2 N cq).1)) 8)), (4, .int (zsum (zsk (zsrI t9.2 100 (zlay t9.2 N cq).1) bt) 8)), (0, .ref (za G 77)), (1, .int bt)]) hx hb dX12_findBest_99 hl (k := 5) rfl (zinc cq) (by decide) rfl (fun ls hl => ?_)
                    refine lv_goto (tgt := 8) hx hb dX12_findBest_102 (by decide) ?_
                    exact ih8 (cq + 1) (zfb1 N bt cq t9) (by omega) (by rw [zfbN, ht9]) (by omega) _ _ (by rw [show (zfb1 N bt cq t9) = _ from (if_neg (fun h9 => h9 c_21)).trans ((if_neg (fun h9 => Int32.not_lt.mpr c_44 h9.2)).trans (if_neg (fun h9 => Int32.not_le.mpr c_75 h9.2.2)))]; exact hI) ls (by rw [show (zfb1 N bt cq t9) = _ from (if_neg (fun h9 => h9 c_21)).trans ((if_neg (fun h9 => Int32.not_lt.mpr c_44 h9.2)).trans (if_neg (fun h9 => Int32.not_le.mpr c_75 h9.2.2)))]; exact lv_sub hl [4, 5, 1, 0] rfl)
                  · skip
                    refine lv_goto (tgt := 99) hx hb dX12_findBest_78 (by decide) ?_
                    refine lv_iinc (v := (nI (cq + 1))) (lv' := [(3, .int (nI (cq + 1))), (5, .int (zsum (zsw (zsrI t9.2 100 (zlay t9.2 N cq).1)) 8)), (4, .int (zsum (zsk (zsrI t9.2 100 (zlay t9.2 N cq).1) bt) 8)), (0, .ref (za G 77)), (1, .int bt), (2, .int (if t9.1 = true then nI 1 else nI 0))]) hx hb dX12_findBest_99 hl (k := 5) rfl (zinc cq) (by decide) rfl (fun ls hl => ?_)
                    refine lv_goto (tgt := 8) hx hb dX12_findBest_102 (by decide) ?_
                    exact ih8 (cq + 1) (zfb1 N bt cq t9) (by omega) (by rw [zfbN, ht9]) (by omega) _ _ (by rw [show (zfb1 N bt cq t9) = (t9.1, (zsrI t9.2 100 (zlay t9.2 N cq).1)) from (if_neg (fun h9 => h9 c_21)).trans ((if_neg (fun h9 => Int32.not_lt.mpr c_44 h9.2)).trans (if_pos ⟨c_35, c_66, Int32.not_lt.mp c_75⟩))]; exact hI) ls (by rw [show (zfb1 N bt cq t9) = (t9.1, (zsrI t9.2 100 (zlay t9.2 N cq).1)) from (if_neg (fun h9 => h9 c_21)).trans ((if_neg (fun h9 => Int32.not_lt.mpr c_44 h9.2)).trans (if_pos ⟨c_35, c_66, Int32.not_lt.mp c_75⟩))]; exact lv_sub hl [3, 4, 5, 0] rfl)
            · skip
              refine lv_goto (tgt := 99) hx hb dX12_findBest_47 (by decide) ?_
              refine lv_iinc (v := (nI (cq + 1))) (lv' := [(3, .int (nI (cq + 1))), (4, .int (zsum (zsk (zsrI t9.2 100 (zlay t9.2 N cq).1) bt) 8)), (0, .ref (za G 77)), (1, .int bt), (2, .int (if t9.1 = true then nI 1 else nI 0))]) hx hb dX12_findBest_99 hl (k := 4) rfl (zinc cq) (by decide) rfl (fun ls hl => ?_)
              refine lv_goto (tgt := 8) hx hb dX12_findBest_102 (by decide) ?_
              exact ih8 (cq + 1) (zfb1 N bt cq t9) (by omega) (by rw [zfbN, ht9]) (by omega) _ _ (by rw [show (zfb1 N bt cq t9) = (t9.1, (zsrI t9.2 100 (zlay t9.2 N cq).1)) from (if_neg (fun h9 => h9 c_21)).trans (if_pos ⟨c_35, Int32.not_le.mp c_44⟩)]; exact hI) ls (by rw [show (zfb1 N bt cq t9) = (t9.1, (zsrI t9.2 100 (zlay t9.2 N cq).1)) from (if_neg (fun h9 => h9 c_21)).trans (if_pos ⟨c_35, Int32.not_le.mp c_44⟩)]; exact lv_sub hl [2, 3, 4, 0] rfl)
        · skip
          rw [zb_0] at c_21
          refine lv_goto (tgt := 99) hx hb dX12_findBest_24 (by decide) ?_
          refine lv_iinc (v := (nI (cq + 1))) (lv' := [(3, .int (nI (cq + 1))), (0, .ref (za G 77)), (1, .int bt), (2, .int (if t9.1 = true then nI 1 else nI 0))]) hx hb dX12_findBest_99 hl (k := 3) rfl (zinc cq) (by decide) rfl (fun ls hl => ?_)
          refine lv_goto (tgt := 8) hx hb dX12_findBest_102 (by decide) ?_
          exact ih8 (cq + 1) (zfb1 N bt cq t9) (by omega) (by rw [zfbN, ht9]) (by omega) _ _ (by rw [show (zfb1 N bt cq t9) = (t9.1, (zsrI t9.2 100 (zlay t9.2 N cq).1)) from if_pos c_21]; exact hI) ls (by rw [show (zfb1 N bt cq t9) = (t9.1, (zsrI t9.2 100 (zlay t9.2 N cq).1)) from if_pos c_21]; exact lv_sub hl [1, 2, 3, 0] rfl)
  exact L8 (8 ^ N + 1) 0 (false, y) (Nat.zero_le _) rfl (by omega) _ _ hI ls (lv_sub hl [2, 3, 1, 0] rfl)
set_option maxHeartbeats 1000000 in
set_option maxRecDepth 100000 in
theorem c_X12_best (l : Launch) {G : zG} (hG : zOK G) (x : zX) (N F C : Nat) (k : Int32) (hr0 : zRef x N) (hcs : zCls x F C) (hkd : zKd x N) : zMi l yX12_best wsX12_best { frames := 6, cells := 0, slots := 0, locals := 152 } G [.ref (za G 77), .int k] x (fun (r : Int32) (u : zX) => (¬ (¬ k < (-2) ∧ ¬ (nI N - nI 1) < k) ∧ x = u ∧ -100001 = r) ∨ ((¬ k < (-2) ∧ ¬ (nI N - nI 1) < k) ∧ 5 < N ∧ x = u ∧ -9 = r) ∨ ((¬ k < (-2) ∧ ¬ (nI N - nI 1) < k) ∧ N ≤ 5 ∧ ∃ y, ((zQ9 x y ∧ zTR x N F C y)) ∧ (zfbN N (-1) y (8 ^ N)).2 = u ∧ (if k = -1 then u.1 77 35 else if k = -2 then u.1 77 34 else u.1 101 k.toNatClampNeg) = r)) := by
  intro A
  refine zBody (cc := cX12_best) (maxL := 2) (ret := (some .int)) (by decide) rfl (Nat.le_of_ble_eq_true rfl) ?_
  intro p e s m below meth c hx hb hml hown hts hr hlocks hK hN hI ls hl
  have hown : s.vm.findClass RX12 = some m.cls := hown
  have hl : lv_has ls 2 [(0, .ref (za G 77)), (1, .int k)] := hl
  have hin12 : ∀ w ∈ wsX120, w ∈ wsX12_best := (fun _ h => List.mem_cons_of_mem _ (List.mem_append_right _ (h)))
  have wF7 := hts (.fieldLink RX12 7 "WhoSitsByModel" "pupils" "I") (z_mem 1 rfl)
  have wF111 := hts (.fieldLink RX12 111 "WhoSitsByModel" "foundSeat" "[I") (z_mem 5 rfl)
  have wF114 := hts (.fieldLink RX12 114 "WhoSitsByModel" "foundBreaks" "I") (z_mem 4 rfl)
  have wF117 := hts (.fieldLink RX12 117 "WhoSitsByModel" "foundWorth" "I") (z_mem 3 rfl)
  have wK258 := hts (.constant RX12 258 (-100001)) (z_mem 2 rfl)
  have h8 := hr0.1
  refine lv_aload_n hx hb dX12_best_0 rfl (lv_at hl 0 rfl) ?_
  refine lv_iload_n hx hb dX12_best_1 rfl (lv_at hl 1 rfl) ?_
  refine lv_bipush (v := (-2)) hx hb dX12_best_2 rfl ?_
  refine lv_aload_n hx hb dX12_best_4 rfl (lv_at hl 0 rfl) ?_
  refine z_get (C := RX12) (T := TX12) (N := 51) (ci := 12) (v := .int (nI N)) hx hb hts hin12 hown hK hI (zo77 hG) rfl 0 (by decide) wF7 (fun _ h9 => h9) (congrArg (fun q => some (Value.int q)) hr0.2.1) dX12_best_5 ?_
  refine lv_iconst (v := (nI 1)) hx hb dX12_best_8 rfl ?_
  refine lv_isub hx hb dX12_best_9 ?_
  refine z_calli (va_runV (As := [.int k, .int (-2), .int ((nI N) - (nI 1))]) (rest := []) ⟨hx, hb, hml, hown, hts⟩ ((c_X12_in l hG x k (-2) ((nI N) - (nI 1))) A) (cwV 3 hts gX12_best_X12_in rfl rfl rfl (by decide +kernel) ⟨Nat.le_of_ble_eq_true rfl, Nat.le_of_ble_eq_true rfl⟩) (z_pV hI hK hN (z_recv hK hI (zo77 hG) rfl)) rfl rfl hl.1 rfl (lv_room (Nat.le_of_ble_eq_true rfl)) dX12_best_10 ⟨Nat.zero_le _, Nat.zero_le _⟩) hI (fun r_10 u H locs hw hI => ?_)
  obtain ⟨rfl, rfl⟩ := hw
  refine lv_if_ne (tgt := 20) hx hb dX12_best_13 (by decide) (fun c_13 => ?_) (fun c_13 => ?_)
  · skip
    rw [zb_0, Classical.not_not] at c_13
    refine lv_aload_n hx hb dX12_best_20 rfl (lv_at hl 0 rfl) ?_
    refine z_get (C := RX12) (T := TX12) (N := 51) (ci := 12) (v := .int (nI N)) hx hb hts hin12 hown hK hI (zo77 hG) rfl 0 (by decide) wF7 (fun _ h9 => h9) (congrArg (fun q => some (Value.int q)) hr0.2.1) dX12_best_21 ?_
    refine lv_iconst (v := (nI 5)) hx hb dX12_best_24 rfl ?_
    refine lv_icmp_le (tgt := 31) hx hb dX12_best_25 (by decide) (fun c_25 => ?_) (fun c_25 => ?_)
    · skip
      rw [zqG (by omega) (by omega)] at c_25
      refine lv_aload_n hx hb dX12_best_31 rfl (lv_at hl 0 rfl) ?_
      refine lv_iconst (v := (-1)) hx hb dX12_best_32 rfl ?_
      refine z_callv (va_runV (As := [.int (-1)]) (rest := []) ⟨hx, hb, hml, hown, hts⟩ ((c_X12_findBest l hG x N F C (-1) hr0 hcs hkd (by omega)) A) (cwV 1 hts gX12_best_X12_findBest rfl rfl rfl (by decide +kernel) ⟨Nat.le_of_ble_eq_true rfl, Nat.le_of_ble_eq_true rfl⟩) (z_pV hI hK hN (z_recv hK hI (zo77 hG) rfl)) rfl rfl hl.1 rfl (lv_room (Nat.le_of_ble_eq_true rfl)) dX12_best_33 ⟨Nat.zero_le _, Nat.zero_le _⟩) hI (fun u H locs hw hI => ?_)
      obtain ⟨y, hLy, rfl⟩ := hw
      refine lv_iload_n hx hb dX12_best_36 rfl (lv_at hl 1 rfl) ?_
      refine lv_iconst (v := (-1)) hx hb dX12_best_37 rfl ?_
      refine lv_icmp_ne (tgt := 48) hx hb dX12_best_38 (by decide) (fun c_38 => ?_) (fun c_38 => ?_)
      · skip
        refine lv_iload_n hx hb dX12_best_48 rfl (lv_at hl 1 rfl) ?_
        refine lv_bipush (v := (-2)) hx hb dX12_best_49 rfl ?_
        refine lv_icmp_ne (tgt := 61) hx hb dX12_best_51 (by decide) (fun c_51 => ?_) (fun c_51 => ?_)
        · skip
          have hk0 : ¬ k < 0 := zk_ge c_13.1 c_38 c_51
          obtain ⟨kk, hkk, rfl⟩ := z_ix hk0 ((zin_i hr0.1).mpr ⟨hk0, c_13.2⟩).2 (by have := hr0.1; omega)
          refine lv_aload_n hx hb dX12_best_61 rfl (lv_at hl 0 rfl) ?_
          refine z_get (C := RX12) (T := TX12) (N := 51) (ci := 12) (v := .ref (za G 101)) hx hb hts hin12 hown hK hI (zo77 hG) rfl 33 (by decide) wF111 (fun _ h9 => h9) rfl dX12_best_62 ?_
          refine lv_iload_n hx hb dX12_best_65 rfl (lv_at hl 1 rfl) ?_
          refine z_iald (v := ((zfbN N (-1) y (8 ^ N)).2.1 101 kk)) hx hb hK hI (zo101 hG) kk rfl (by omega) (by decide) rfl dX12_best_66 ?_
          exact z_iret hx hb hr hlocks hI (Or.inr (Or.inr ⟨c_13, by omega, y, hLy, rfl, (if_neg c_38).trans ((if_neg c_51).trans (by rw [nI_clamp (by omega)]))⟩)) dX12_best_67
        · skip
          refine lv_aload_n hx hb dX12_best_54 rfl (lv_at hl 0 rfl) ?_
          refine z_get (C := RX12) (T := TX12) (N := 51) (ci := 12) (v := .int ((zfbN N (-1) y (8 ^ N)).2.1 77 34)) hx hb hts hin12 hown hK hI (zo77 hG) rfl 34 (by decide) wF114 (fun _ h9 => h9) rfl dX12_best_55 ?_
          refine lv_goto (tgt := 67) hx hb dX12_best_58 (by decide) ?_
          exact z_iret hx hb hr hlocks hI (Or.inr (Or.inr ⟨c_13, by omega, y, hLy, rfl, (if_neg c_38).trans (if_pos c_51)⟩)) dX12_best_67
      · skip
        refine lv_aload_n hx hb dX12_best_41 rfl (lv_at hl 0 rfl) ?_
        refine z_get (C := RX12) (T := TX12) (N := 51) (ci := 12) (v := .int ((zfbN N (-1) y (8 ^ N)).2.1 77 35)) hx hb hts hin12 hown hK hI (zo77 hG) rfl 35 (by decide) wF117 (fun _ h9 => h9) rfl dX12_best_42 ?_
        refine lv_goto (tgt := 67) hx hb dX12_best_45 (by decide) ?_
        exact z_iret hx hb hr hlocks hI (Or.inr (Or.inr ⟨c_13, by omega, y, hLy, rfl, if_pos c_38⟩)) dX12_best_67
    · skip
      rw [zqG (by omega) (by omega)] at c_25
      refine lv_bipush (v := (-9)) hx hb dX12_best_28 rfl ?_
      exact z_iret hx hb hr hlocks hI (Or.inr (Or.inl ⟨c_13, by omega, rfl, rfl⟩)) dX12_best_30
  · skip
    rw [zb_0] at c_13
    refine lv_ldcw (v := (-100001)) hx hb hown wK258 dX12_best_16 ?_
    exact z_iret hx hb hr hlocks hI (Or.inl ⟨c_13, rfl, rfl⟩) dX12_best_19
set_option maxHeartbeats 1000000 in
set_option maxRecDepth 100000 in
theorem c_X12_cost (l : Launch) {G : zG} (hG : zOK G) (x : zX) (N F C : Nat) (k : Int32) (hr0 : zRef x N) (hcs : zCls x F C) (hkd : zKd x N) : zMi l yX12_cost wsX12_cost { frames := 6, cells := 0, slots := 0, locals := 152 } G [.ref (za G 77), .int k] x (fun (r : Int32) (u : zX) => (¬ (¬ k < 0 ∧ ¬ nI 1 < k) ∧ x = u ∧ -1 = r) ∨ ((¬ k < 0 ∧ ¬ nI 1 < k) ∧ 5 < N ∧ x = u ∧ -9 = r) ∨ ((¬ k < 0 ∧ ¬ nI 1 < k) ∧ N ≤ 5 ∧ ∃ y y2, ((zQ9 x y ∧ zTR x N F C y)) ∧ zQ9 (zfbN N (-1) y (8 ^ N)).2 y2 ∧ zTR (zfbN N (-1) y (8 ^ N)).2 N F C y2 ∧ (zfbN N k y2 (8 ^ N)).2 = u ∧ u.1 77 35 - (zfbN N (-1) y (8 ^ N)).2.1 77 35 = r)) := by
  intro A
  refine zBody (cc := cX12_cost) (maxL := 3) (ret := (some .int)) (by decide) rfl (Nat.le_of_ble_eq_true rfl) ?_
  intro p e s m below meth c hx hb hml hown hts hr hlocks hK hN hI ls hl
  have hown : s.vm.findClass RX12 = some m.cls := hown
  have hl : lv_has ls 3 [(0, .ref (za G 77)), (1, .int k)] := hl
  have hin12 : ∀ w ∈ wsX120, w ∈ wsX12_cost := (fun _ h => List.mem_cons_of_mem _ (List.mem_append_right _ (h)))
  have wF7 := hts (.fieldLink RX12 7 "WhoSitsByModel" "pupils" "I") (z_mem 1 rfl)
  have wF117 := hts (.fieldLink RX12 117 "WhoSitsByModel" "foundWorth" "I") (z_mem 2 rfl)
  have h8 := hr0.1
  refine lv_aload_n hx hb dX12_cost_0 rfl (lv_at hl 0 rfl) ?_
  refine lv_iload_n hx hb dX12_cost_1 rfl (lv_at hl 1 rfl) ?_
  refine lv_iconst (v := (nI 0)) hx hb dX12_cost_2 rfl ?_
  refine lv_iconst (v := (nI 1)) hx hb dX12_cost_3 rfl ?_
  refine z_calli (va_runV (As := [.int k, .int (nI 0), .int (nI 1)]) (rest := []) ⟨hx, hb, hml, hown, hts⟩ ((c_X12_in l hG x k (nI 0) (nI 1)) A) (cwV 3 hts gX12_cost_X12_in rfl rfl rfl (by decide +kernel) ⟨Nat.le_of_ble_eq_true rfl, Nat.le_of_ble_eq_true rfl⟩) (z_pV hI hK hN (z_recv hK hI (zo77 hG) rfl)) rfl rfl hl.1 rfl (lv_room (Nat.le_of_ble_eq_true rfl)) dX12_cost_4 ⟨Nat.zero_le _, Nat.zero_le _⟩) hI (fun r_4 u H locs hw hI => ?_)
  obtain ⟨rfl, rfl⟩ := hw
  refine lv_if_ne (tgt := 12) hx hb dX12_cost_7 (by decide) (fun c_7 => ?_) (fun c_7 => ?_)
  · skip
    rw [zb_0, Classical.not_not] at c_7
    refine lv_aload_n hx hb dX12_cost_12 rfl (lv_at hl 0 rfl) ?_
    refine z_get (C := RX12) (T := TX12) (N := 51) (ci := 12) (v := .int (nI N)) hx hb hts hin12 hown hK hI (zo77 hG) rfl 0 (by decide) wF7 (fun _ h9 => h9) (congrArg (fun q => some (Value.int q)) hr0.2.1) dX12_cost_13 ?_
    refine lv_iconst (v := (nI 5)) hx hb dX12_cost_16 rfl ?_
    refine lv_icmp_le (tgt := 23) hx hb dX12_cost_17 (by decide) (fun c_17 => ?_) (fun c_17 => ?_)
    · skip
      rw [zqG (by omega) (by omega)] at c_17
      refine lv_aload_n hx hb dX12_cost_23 rfl (lv_at hl 0 rfl) ?_
      refine lv_iconst (v := (-1)) hx hb dX12_cost_24 rfl ?_
      refine z_callv (va_runV (As := [.int (-1)]) (rest := []) ⟨hx, hb, hml, hown, hts⟩ ((c_X12_findBest l hG x N F C (-1) hr0 hcs hkd (by omega)) A) (cwV 1 hts gX12_cost_X12_findBest rfl rfl rfl (by decide +kernel) ⟨Nat.le_of_ble_eq_true rfl, Nat.le_of_ble_eq_true rfl⟩) (z_pV hI hK hN (z_recv hK hI (zo77 hG) rfl)) rfl rfl hl.1 rfl (lv_room (Nat.le_of_ble_eq_true rfl)) dX12_cost_25 ⟨Nat.zero_le _, Nat.zero_le _⟩) hI (fun u H locs hw hI => ?_)
      obtain ⟨y, hLy, rfl⟩ := hw
      refine lv_aload_n hx hb dX12_cost_28 rfl (lv_at hl 0 rfl) ?_
      refine z_get (C := RX12) (T := TX12) (N := 51) (ci := 12) (v := .int ((zfbN N (-1) y (8 ^ N)).2.1 77 35)) hx hb hts hin12 hown hK hI (zo77 hG) rfl 35 (by decide) wF117 (fun _ h9 => h9) rfl dX12_cost_29 ?_
      refine lv_istore_n (lv' := [(2, .int ((zfbN N (-1) y (8 ^ N)).2.1 77 35)), (0, .ref (za G 77)), (1, .int k)]) hx hb dX12_cost_32 rfl hl (by decide) rfl (fun ls hl => ?_)
      refine lv_aload_n hx hb dX12_cost_33 rfl (lv_at hl 1 rfl) ?_
      refine lv_iload_n hx hb dX12_cost_34 rfl (lv_at hl 2 rfl) ?_
      refine z_callv (va_runV (As := [.int k]) (rest := []) ⟨hx, hb, hml, hown, hts⟩ ((c_X12_findBest l hG ((zfbN N (-1) y (8 ^ N)).2) N F C k (zRef_q (hLy.1.t (zfbN_q (8 ^ N)).1) hr0) (zCls_q (hLy.1.t (zfbN_q (8 ^ N)).1) hcs) (zKd_q (hLy.1.t (zfbN_q (8 ^ N)).1) hkd) (by omega)) A) (cwV 1 hts gX12_cost_X12_findBest rfl rfl rfl (by decide +kernel) ⟨Nat.le_of_ble_eq_true rfl, Nat.le_of_ble_eq_true rfl⟩) (z_pV hI hK hN (z_recv hK hI (zo77 hG) rfl)) rfl rfl hl.1 rfl (lv_room (Nat.le_of_ble_eq_true rfl)) dX12_cost_35 ⟨Nat.zero_le _, Nat.zero_le _⟩) hI (fun u H locs hw hI => ?_)
      obtain ⟨y2, hLy2, rfl⟩ := hw
      refine lv_aload_n hx hb dX12_cost_38 rfl (lv_at hl 1 rfl) ?_
      refine z_get (C := RX12) (T := TX12) (N := 51) (ci := 12) (v := .int ((zfbN N k y2 (8 ^ N)).2.1 77 35)) hx hb hts hin12 hown hK hI (zo77 hG) rfl 35 (by decide) wF117 (fun _ h9 => h9) rfl dX12_cost_39 ?_
      refine lv_iload_n hx hb dX12_cost_42 rfl (lv_at hl 0 rfl) ?_
      refine lv_isub hx hb dX12_cost_43 ?_
      exact z_iret hx hb hr hlocks hI (Or.inr (Or.inr ⟨c_7, by omega, y, y2, hLy, hLy2.1, hLy2.2, rfl, rfl⟩)) dX12_cost_44
    · skip
      rw [zqG (by omega) (by omega)] at c_17
      refine lv_bipush (v := (-9)) hx hb dX12_cost_20 rfl ?_
      exact z_iret hx hb hr hlocks hI (Or.inr (Or.inl ⟨c_7, by omega, rfl, rfl⟩)) dX12_cost_22
  · skip
    rw [zb_0] at c_7
    refine lv_iconst (v := (-1)) hx hb dX12_cost_10 rfl ?_
    exact z_iret hx hb hr hlocks hI (Or.inl ⟨c_7, rfl, rfl⟩) dX12_cost_11
