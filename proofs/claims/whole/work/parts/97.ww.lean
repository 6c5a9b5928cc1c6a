set_option maxHeartbeats 1000000 in
set_option maxRecDepth 100000 in
theorem c_X12_sumOf (l : Launch) {G : zG} (hG : zOK G) (x : zX) (F C a b : Nat) (w0 r9 : Int32) (hcs : zCls x F C) (ha9 : a < 8) (hb9 : b < 8) (hw3 : ¬ w0 = nI 3) : zMi l yX12_sumOf wsX12_sumOf { frames := 2, cells := 0, slots := 0, locals := 53 } G [.ref (za G 77), .int w0, .int (nI a), .int (nI b), .int r9] x (fun (r : Int32) (u : zX) => zQ97 x u ∧ zsuR x F w0 (zfr9 x a b r9) C = r) := by
  intro A
  refine zBody (cc := cX12_sumOf) (maxL := 7) (ret := (some .int)) (by decide) rfl (Nat.le_of_ble_eq_true rfl) ?_
  intro p e s m below meth c hx hb hml hown hts hr hlocks hK hN hI ls hl
  have hown : s.vm.findClass RX12 = some m.cls := hown
  have hl : lv_has ls 7 [(0, .ref (za G 77)), (1, .int w0), (2, .int (nI a)), (3, .int (nI b)), (4, .int r9)] := hl
  have hin12 : ∀ w ∈ wsX120, w ∈ wsX12_sumOf := (fun _ h => List.mem_cons_of_mem _ (List.mem_append_right _ (h)))
  have wF69 := hts (.fieldLink RX12 69 "WhoSitsByModel" "word" "[I") (z_mem 1 rfl)
  have wF72 := hts (.fieldLink RX12 72 "WhoSitsByModel" "number" "[I") (z_mem 2 rfl)
  have h60 := zClR_b hcs.1
  have hI : zI G (zsrI x 97 (x.1 97)) A s.heap s.heap [] := by rw [zsrI_e]; exact hI
  refine lv_iconst (v := (nI 0)) hx hb dX12_sumOf_0 rfl ?_
  refine lv_istore (lv' := [(5, .int (nI 0)), (0, .ref (za G 77)), (1, .int w0), (2, .int (nI a)), (3, .int (nI b)), (4, .int r9)]) hx hb dX12_sumOf_1 hl (by decide) rfl (fun ls hl => ?_)
  refine lv_aload_n hx hb dX12_sumOf_3 rfl (lv_at hl 1 rfl) ?_
  refine z_calli (va_runV (As := []) (rest := []) ⟨hx, hb, hml, hown, hts⟩ ((c_X12_first l hG (zsrI x 97 (x.1 97)) F C hcs.1) A) (cwV 0 hts gX12_sumOf_X12_first rfl rfl rfl (by decide +kernel) ⟨Nat.le_of_ble_eq_true rfl, Nat.le_of_ble_eq_true rfl⟩) (z_pV hI hK hN (z_recv hK hI (zo77 hG) rfl)) rfl rfl hl.1 rfl (lv_room (Nat.le_of_ble_eq_true rfl)) dX12_sumOf_4 ⟨Nat.zero_le _, Nat.zero_le _⟩) hI (fun r_4 u H locs hw hI => ?_)
  obtain ⟨rfl, rfl⟩ := hw
  refine lv_istore (lv' := [(6, .int (nI F)), (5, .int (nI 0)), (0, .ref (za G 77)), (1, .int w0), (2, .int (nI a)), (3, .int (nI b)), (4, .int r9)]) hx hb dX12_sumOf_7 hl (by decide) rfl (fun ls hl => ?_)
  have L9 : ∀ (f : Nat) (j : Nat) (acc : Int32) (w9 : Nat → Int32), (F ≤ j) → (j ≤ F + C) → (acc = zsum (fun k => if x.1 90 (F + k) = w0 ∧ zev9 x (F + k) (zfr9 x a b r9) = true then x.1 91 (F + k) else 0) (j - F)) → F + C + 1 ≤ j + f → ∀ (H : Heap) (locs : List Loc), zI G (zsrI x 97 w9) A s.heap H locs → ∀ ls : Array Slot, lv_has ls 7 [(0, .ref (za G 77)), (1, .int w0), (2, .int (nI a)), (3, .int (nI b)), (4, .int r9), (5, .int acc), (6, .int (nI j))] → W p l e { frames := 2, cells := 0, slots := 0, locals := 53 } s m ([.ref (za G 77), .int w0, .int (nI a), .int (nI b), .int r9] : List Value).toArray below meth c H locs 0 0 (MQ below (va_Qi (fun (r : Int32) (u : zX) => zQ97 x u ∧ zsuR x F w0 (zfr9 x a b r9) C = r) (fun u t => zJ G u A t.heap) A) ([.ref (za G 77), .int w0, .int (nI a), .int (nI b), .int r9] : List Value).toArray s 0 0 A) (F0 m 9 ls []) := by
    intro f
    induction f with
    | zero =>
      intro j acc w9 j1 j2 j3 hf
      exact absurd hf (by omega)
    | succ f ih =>
      intro j acc w9 j1 j2 j3 hf H locs hI ls hl
      have ih9 := ih
      refine lv_iload hx hb dX12_sumOf_9 (lv_at hl 6 rfl) ?_
      refine lv_aload_n hx hb dX12_sumOf_11 rfl (lv_at hl 0 rfl) ?_
      refine z_calli (va_runV (As := []) (rest := [.int (nI j)]) ⟨hx, hb, hml, hown, hts⟩ ((c_X12_behind l hG (zsrI x 97 w9) F C hcs.1) A) (cwV 0 hts gX12_sumOf_X12_behind rfl rfl rfl (by decide +kernel) ⟨Nat.le_of_ble_eq_true rfl, Nat.le_of_ble_eq_true rfl⟩) (z_pV hI hK hN (z_recv hK hI (zo77 hG) rfl)) rfl rfl hl.1 rfl (lv_room (Nat.le_of_ble_eq_true rfl)) dX12_sumOf_12 ⟨Nat.zero_le _, Nat.zero_le _⟩) hI (fun r_12 u H locs hw hI => ?_)
      obtain ⟨rfl, rfl⟩ := hw
      refine lv_icmp_ge (tgt := 64) hx hb dX12_sumOf_15 (by decide) (fun c_15 => ?_) (fun c_15 => ?_)
      · skip
        rw [zqG (by omega) (by omega)] at c_15
        refine lv_iload hx hb dX12_sumOf_64 (lv_at hl 5 rfl) ?_
        exact z_iret hx hb hr hlocks hI (⟨zQ97.s, by rw [j3, show j - F = C by omega]; rfl⟩) dX12_sumOf_66
      · skip
        rw [zqG (by omega) (by omega)] at c_15
        refine lv_iload hx hb dX12_sumOf_18 (lv_at hl 5 rfl) ?_
        refine lv_aload_n hx hb dX12_sumOf_20 rfl (lv_at hl 0 rfl) ?_
        refine z_get (C := RX12) (T := TX12) (N := 51) (ci := 12) (v := .ref (za G 90)) hx hb hts hin12 hown hK hI (zo77 hG) rfl 19 (by decide) wF69 (fun _ h9 => h9) rfl dX12_sumOf_21 ?_
        refine lv_iload hx hb dX12_sumOf_24 (lv_at hl 6 rfl) ?_
        refine z_iald (v := (x.1 90 j)) hx hb hK hI (zo90 hG) j rfl (by omega) (by decide) rfl dX12_sumOf_26 ?_
        refine lv_iload_n hx hb dX12_sumOf_27 rfl (lv_at hl 1 rfl) ?_
        refine lv_icmp_ne (tgt := 54) hx hb dX12_sumOf_28 (by decide) (fun c_28 => ?_) (fun c_28 => ?_)
        · skip
          refine lv_iconst (v := (nI 0)) hx hb dX12_sumOf_54 rfl ?_
          refine lv_iadd hx hb dX12_sumOf_55 ?_
          refine lv_istore (lv' := [(5, .int (acc + (nI 0))), (0, .ref (za G 77)), (1, .int w0), (2, .int (nI a)), (3, .int (nI b)), (4, .int r9), (6, .int (nI j))]) hx hb dX12_sumOf_56 hl (by decide) rfl (fun ls hl => ?_)
          refine lv_iinc (v := (nI (j + 1))) (lv' := [(6, .int (nI (j + 1))), (5, .int (acc + (nI 0))), (0, .ref (za G 77)), (1, .int w0), (2, .int (nI a)), (3, .int (nI b)), (4, .int r9)]) hx hb dX12_sumOf_58 hl (k := 6) rfl (zinc j) (by decide) rfl (fun ls hl => ?_)
          refine lv_goto (tgt := 9) hx hb dX12_sumOf_61 (by decide) ?_
          exact ih9 (j + 1) (acc + (nI 0)) w9 (by omega) (by omega) (by rw [show j + 1 - F = (j - F) + 1 by omega]; exact zsum_t j3 (by rw [show F + (j - F) = j by omega]; exact if_neg (fun h9 => c_28 h9.1))) (by omega) _ _ hI ls (lv_sub hl [2, 3, 4, 5, 6, 1, 0] rfl)
        · skip
          refine lv_aload_n hx hb dX12_sumOf_31 rfl (lv_at hl 0 rfl) ?_
          refine lv_iload hx hb dX12_sumOf_32 (lv_at hl 6 rfl) ?_
          refine lv_iload_n hx hb dX12_sumOf_34 rfl (lv_at hl 2 rfl) ?_
          refine lv_iload_n hx hb dX12_sumOf_35 rfl (lv_at hl 3 rfl) ?_
          refine lv_iload hx hb dX12_sumOf_36 (lv_at hl 4 rfl) ?_
          refine z_calli (va_runV (As := [.int (nI j), .int (nI a), .int (nI b), .int r9]) (rest := [.int acc]) ⟨hx, hb, hml, hown, hts⟩ ((c_X12_holds l hG x j a b r9 w9 (by omega) ha9 hb9 (by have h9 := hcs.2 (j - F) (by omega); rw [show F + (j - F) = j by omega] at h9; exact h9 (by rw [c_28]; exact hw3))) A) (cwV 4 hts gX12_sumOf_X12_holds rfl rfl rfl (by decide +kernel) ⟨Nat.le_of_ble_eq_true rfl, Nat.le_of_ble_eq_true rfl⟩) (z_pV hI hK hN (z_recv hK hI (zo77 hG) rfl)) rfl rfl hl.1 rfl (lv_room (Nat.le_of_ble_eq_true rfl)) dX12_sumOf_38 ⟨Nat.zero_le _, Nat.zero_le _⟩) hI (fun r_38 u H locs hw hI => ?_)
          obtain ⟨v_38, rfl, rfl⟩ := hw
          refine lv_if_eq (tgt := 54) hx hb dX12_sumOf_41 (by decide) (fun c_41 => ?_) (fun c_41 => ?_)
          · skip
            rw [zb_0] at c_41
            refine lv_iconst (v := (nI 0)) hx hb dX12_sumOf_54 rfl ?_
            refine lv_iadd hx hb dX12_sumOf_55 ?_
            refine lv_istore (lv' := [(5, .int (acc + (nI 0))), (0, .ref (za G 77)), (1, .int w0), (2, .int (nI a)), (3, .int (nI b)), (4, .int r9), (6, .int (nI j))]) hx hb dX12_sumOf_56 hl (by decide) rfl (fun ls hl => ?_)
            refine lv_iinc (v := (nI (j + 1))) (lv' := [(6, .int (nI (j + 1))), (5, .int (acc + (nI 0))), (0, .ref (za G 77)), (1, .int w0), (2, .int (nI a)), (3, .int (nI b)), (4, .int r9)]) hx hb dX12_sumOf_58 hl (k := 6) rfl (zinc j) (by decide) rfl (fun ls hl => ?_)
            refine lv_goto (tgt := 9) hx hb dX12_sumOf_61 (by decide) ?_
            exact ih9 (j + 1) (acc + (nI 0)) v_38 (by omega) (by omega) (by rw [show j + 1 - F = (j - F) + 1 by omega]; exact zsum_t j3 (by rw [show F + (j - F) = j by omega]; exact if_neg (fun h9 => c_41 h9.2))) (by omega) _ _ hI ls (lv_sub hl [2, 3, 4, 5, 6, 1, 0] rfl)
          · skip
            rw [zb_0, Classical.not_not] at c_41
            refine lv_aload_n hx hb dX12_sumOf_44 rfl (lv_at hl 0 rfl) ?_
            refine z_get (C := RX12) (T := TX12) (N := 51) (ci := 12) (v := .ref (za G 91)) hx hb hts hin12 hown hK hI (zo77 hG) rfl 20 (by decide) wF72 (fun _ h9 => h9) rfl dX12_sumOf_45 ?_
            refine lv_iload hx hb dX12_sumOf_48 (lv_at hl 6 rfl) ?_
            refine z_iald (v := (x.1 91 j)) hx hb hK hI (zo91 hG) j rfl (by omega) (by decide) rfl dX12_sumOf_50 ?_
            refine lv_goto (tgt := 55) hx hb dX12_sumOf_51 (by decide) ?_
            refine lv_iadd hx hb dX12_sumOf_55 ?_
            refine lv_istore (lv' := [(5, .int (acc + (x.1 91 j))), (0, .ref (za G 77)), (1, .int w0), (2, .int (nI a)), (3, .int (nI b)), (4, .int r9), (6, .int (nI j))]) hx hb dX12_sumOf_56 hl (by decide) rfl (fun ls hl => ?_)
            refine lv_iinc (v := (nI (j + 1))) (lv' := [(6, .int (nI (j + 1))), (5, .int (acc + (x.1 91 j))), (0, .ref (za G 77)), (1, .int w0), (2, .int (nI a)), (3, .int (nI b)), (4, .int r9)]) hx hb dX12_sumOf_58 hl (k := 6) rfl (zinc j) (by decide) rfl (fun ls hl => ?_)
            refine lv_goto (tgt := 9) hx hb dX12_sumOf_61 (by decide) ?_
            exact ih9 (j + 1) (acc + (x.1 91 j)) v_38 (by omega) (by omega) (by rw [show j + 1 - F = (j - F) + 1 by omega]; exact zsum_t j3 (by rw [show F + (j - F) = j by omega]; exact if_pos ⟨c_28, c_41⟩)) (by omega) _ _ hI ls (lv_sub hl [2, 3, 4, 5, 6, 1, 0] rfl)
  exact L9 (C + 1) F (nI 0) (x.1 97) (Nat.le_refl _) (by omega) (by rw [Nat.sub_self]; rfl) (by omega) _ _ hI ls (lv_sub hl [2, 3, 4, 5, 6, 1, 0] rfl)
set_option maxHeartbeats 1000000 in
set_option maxRecDepth 100000 in
theorem c_X12_isBarred (l : Launch) {G : zG} (hG : zOK G) (x : zX) (F C a b : Nat) (r9 : Int32) (hcs : zCls x F C) (ha9 : a < 8) (hb9 : b < 8) : zMi l yX12_isBarred wsX12_isBarred { frames := 2, cells := 0, slots := 0, locals := 53 } G [.ref (za G 77), .int (nI a), .int (nI b), .int r9] x (fun (r : Int32) (u : zX) => zQ97 x u ∧ (if zbaR x F C a b r9 then nI 1 else nI 0) = r) := by
  intro A
  refine zBody (cc := cX12_isBarred) (maxL := 5) (ret := (some .boolean)) (by decide) rfl (Nat.le_of_ble_eq_true rfl) ?_
  intro p e s m below meth c hx hb hml hown hts hr hlocks hK hN hI ls hl
  have hown : s.vm.findClass RX12 = some m.cls := hown
  have hl : lv_has ls 5 [(0, .ref (za G 77)), (1, .int (nI a)), (2, .int (nI b)), (3, .int r9)] := hl
  have hin12 : ∀ w ∈ wsX120, w ∈ wsX12_isBarred := (fun _ h => List.mem_cons_of_mem _ (List.mem_append_right _ (h)))
  have wF69 := hts (.fieldLink RX12 69 "WhoSitsByModel" "word" "[I") (z_mem 1 rfl)
  have h60 := zClR_b hcs.1
  have hI : zI G (zsrI x 97 (x.1 97)) A s.heap s.heap [] := by rw [zsrI_e]; exact hI
  refine lv_aload_n hx hb dX12_isBarred_0 rfl (lv_at hl 0 rfl) ?_
  refine z_calli (va_runV (As := []) (rest := []) ⟨hx, hb, hml, hown, hts⟩ ((c_X12_first l hG (zsrI x 97 (x.1 97)) F C hcs.1) A) (cwV 0 hts gX12_isBarred_X12_first rfl rfl rfl (by decide +kernel) ⟨Nat.le_of_ble_eq_true rfl, Nat.le_of_ble_eq_true rfl⟩) (z_pV hI hK hN (z_recv hK hI (zo77 hG) rfl)) rfl rfl hl.1 rfl (lv_room (Nat.le_of_ble_eq_true rfl)) dX12_isBarred_1 ⟨Nat.zero_le _, Nat.zero_le _⟩) hI (fun r_1 u H locs hw hI => ?_)
  obtain ⟨rfl, rfl⟩ := hw
  refine lv_istore (lv' := [(4, .int (nI F)), (0, .ref (za G 77)), (1, .int (nI a)), (2, .int (nI b)), (3, .int r9)]) hx hb dX12_isBarred_4 hl (by decide) rfl (fun ls hl => ?_)
  have L6 : ∀ (f : Nat) (j : Nat) (w9 : Nat → Int32), (F ≤ j) → (j ≤ F + C) → (∀ k9, k9 < j - F → ¬ (x.1 90 (F + k9) = nI 2 ∧ (zev9 x (F + k9) (zfr9 x a b r9) = true ∨ zev9 x (F + k9) (zfr9 x b a r9) = true))) → F + C + 1 ≤ j + f → ∀ (H : Heap) (locs : List Loc), zI G (zsrI x 97 w9) A s.heap H locs → ∀ ls : Array Slot, lv_has ls 5 [(0, .ref (za G 77)), (1, .int (nI a)), (2, .int (nI b)), (3, .int r9), (4, .int (nI j))] → W p l e { frames := 2, cells := 0, slots := 0, locals := 53 } s m ([.ref (za G 77), .int (nI a), .int (nI b), .int r9] : List Value).toArray below meth c H locs 0 0 (MQ below (va_Qi (fun (r : Int32) (u : zX) => zQ97 x u ∧ (if zbaR x F C a b r9 then nI 1 else nI 0) = r) (fun u t => zJ G u A t.heap) A) ([.ref (za G 77), .int (nI a), .int (nI b), .int r9] : List Value).toArray s 0 0 A) (F0 m 6 ls []) := by
    intro f
    induction f with
    | zero =>
      intro j w9 j1 j2 j3 hf
      exact absurd hf (by omega)
    | succ f ih =>
      intro j w9 j1 j2 j3 hf H locs hI ls hl
      have ih6 := ih
      refine lv_iload hx hb dX12_isBarred_6 (lv_at hl 4 rfl) ?_
      refine lv_aload_n hx hb dX12_isBarred_8 rfl (lv_at hl 0 rfl) ?_
      refine z_calli (va_runV (As := []) (rest := [.int (nI j)]) ⟨hx, hb, hml, hown, hts⟩ ((c_X12_behind l hG (zsrI x 97 w9) F C hcs.1) A) (cwV 0 hts gX12_isBarred_X12_behind rfl rfl rfl (by decide +kernel) ⟨Nat.le_of_ble_eq_true rfl, Nat.le_of_ble_eq_true rfl⟩) (z_pV hI hK hN (z_recv hK hI (zo77 hG) rfl)) rfl rfl hl.1 rfl (lv_room (Nat.le_of_ble_eq_true rfl)) dX12_isBarred_9 ⟨Nat.zero_le _, Nat.zero_le _⟩) hI (fun r_9 u H locs hw hI => ?_)
      obtain ⟨rfl, rfl⟩ := hw
      refine lv_icmp_ge (tgt := 58) hx hb dX12_isBarred_12 (by decide) (fun c_12 => ?_) (fun c_12 => ?_)
      · skip
        rw [zqG (by omega) (by omega)] at c_12
        refine lv_iconst (v := (nI 0)) hx hb dX12_isBarred_58 rfl ?_
        exact z_zret hx hb hr hlocks hI (Or.inl rfl) (⟨zQ97.s, if_neg (fun ⟨k9, hk9, h9⟩ => j3 k9 (by omega) h9)⟩) dX12_isBarred_59
      · skip
        rw [zqG (by omega) (by omega)] at c_12
        refine lv_aload_n hx hb dX12_isBarred_15 rfl (lv_at hl 0 rfl) ?_
        refine z_get (C := RX12) (T := TX12) (N := 51) (ci := 12) (v := .ref (za G 90)) hx hb hts hin12 hown hK hI (zo77 hG) rfl 19 (by decide) wF69 (fun _ h9 => h9) rfl dX12_isBarred_16 ?_
        refine lv_iload hx hb dX12_isBarred_19 (lv_at hl 4 rfl) ?_
        refine z_iald (v := (x.1 90 j)) hx hb hK hI (zo90 hG) j rfl (by omega) (by decide) rfl dX12_isBarred_21 ?_
        refine lv_iconst (v := (nI 2)) hx hb dX12_isBarred_22 rfl ?_
        refine lv_icmp_ne (tgt := 52) hx hb dX12_isBarred_23 (by decide) (fun c_23 => ?_) (fun c_23 => ?_)
        · skip
          refine lv_iinc (v := (nI (j + 1))) (lv' := [(4, .int (nI (j + 1))), (0, .ref (za G 77)), (1, .int (nI a)), (2, .int (nI b)), (3, .int r9)]) hx hb dX12_isBarred_52 hl (k := 4) rfl (zinc j) (by decide) rfl (fun ls hl => ?_)
          refine lv_goto (tgt := 6) hx hb dX12_isBarred_55 (by decide) ?_
          exact ih6 (j + 1) w9 (by omega) (by omega) (fun k9 hk9 => by rcases Nat.lt_or_ge k9 (j - F) with h | h; exact j3 k9 h; rw [show F + k9 = j by omega]; exact fun h9 => c_23 h9.1) (by omega) _ _ hI ls (lv_sub hl [1, 2, 3, 4, 0] rfl)
        · skip
          refine lv_aload_n hx hb dX12_isBarred_26 rfl (lv_at hl 0 rfl) ?_
          refine lv_iload hx hb dX12_isBarred_27 (lv_at hl 4 rfl) ?_
          refine lv_iload_n hx hb dX12_isBarred_29 rfl (lv_at hl 1 rfl) ?_
          refine lv_iload_n hx hb dX12_isBarred_30 rfl (lv_at hl 2 rfl) ?_
          refine lv_iload_n hx hb dX12_isBarred_31 rfl (lv_at hl 3 rfl) ?_
          refine z_calli (va_runV (As := [.int (nI j), .int (nI a), .int (nI b), .int r9]) (rest := []) ⟨hx, hb, hml, hown, hts⟩ ((c_X12_holds l hG x j a b r9 w9 (by omega) ha9 hb9 (by have h9 := hcs.2 (j - F) (by omega); rw [show F + (j - F) = j by omega] at h9; exact h9 (by rw [c_23]; decide))) A) (cwV 4 hts gX12_isBarred_X12_holds rfl rfl rfl (by decide +kernel) ⟨Nat.le_of_ble_eq_true rfl, Nat.le_of_ble_eq_true rfl⟩) (z_pV hI hK hN (z_recv hK hI (zo77 hG) rfl)) rfl rfl hl.1 rfl (lv_room (Nat.le_of_ble_eq_true rfl)) dX12_isBarred_32 ⟨Nat.zero_le _, Nat.zero_le _⟩) hI (fun r_32 u H locs hw hI => ?_)
          obtain ⟨v_32, rfl, rfl⟩ := hw
          refine lv_if_ne (tgt := 50) hx hb dX12_isBarred_35 (by decide) (fun c_35 => ?_) (fun c_35 => ?_)
          · skip
            rw [zb_0, Classical.not_not] at c_35
            refine lv_iconst (v := (nI 1)) hx hb dX12_isBarred_50 rfl ?_
            exact z_zret hx hb hr hlocks hI (Or.inr rfl) (⟨zQ97.s, if_pos ⟨j - F, by omega, by rw [show F + (j - F) = j by omega]; exact ⟨c_23, Or.inl c_35⟩⟩⟩) dX12_isBarred_51
          · skip
            rw [zb_0] at c_35
            refine lv_aload_n hx hb dX12_isBarred_38 rfl (lv_at hl 0 rfl) ?_
            refine lv_iload hx hb dX12_isBarred_39 (lv_at hl 4 rfl) ?_
            refine lv_iload_n hx hb dX12_isBarred_41 rfl (lv_at hl 2 rfl) ?_
            refine lv_iload_n hx hb dX12_isBarred_42 rfl (lv_at hl 1 rfl) ?_
            refine lv_iload_n hx hb dX12_isBarred_43 rfl (lv_at hl 3 rfl) ?_
            refine z_calli (va_runV (As := [.int (nI j), .int (nI b), .int (nI a), .int r9]) (rest := []) ⟨hx, hb, hml, hown, hts⟩ ((c_X12_holds l hG x j b a r9 v_32 (by omega) hb9 ha9 (by have h9 := hcs.2 (j - F) (by omega); rw [show F + (j - F) = j by omega] at h9; exact h9 (by rw [c_23]; decide))) A) (cwV 4 hts gX12_isBarred_X12_holds rfl rfl rfl (by decide +kernel) ⟨Nat.le_of_ble_eq_true rfl, Nat.le_of_ble_eq_true rfl⟩) (z_pV hI hK hN (z_recv hK hI (zo77 hG) rfl)) rfl rfl hl.1 rfl (lv_room (Nat.le_of_ble_eq_true rfl)) dX12_isBarred_44 ⟨Nat.zero_le _, Nat.zero_le _⟩) hI (fun r_44 u H locs hw hI => ?_)
            obtain ⟨v_44, rfl, rfl⟩ := hw
            refine lv_if_eq (tgt := 52) hx hb dX12_isBarred_47 (by decide) (fun c_47 => ?_) (fun c_47 => ?_)
            · skip
              rw [zb_0] at c_47
              refine lv_iinc (v := (nI (j + 1))) (lv' := [(4, .int (nI (j + 1))), (0, .ref (za G 77)), (1, .int (nI a)), (2, .int (nI b)), (3, .int r9)]) hx hb dX12_isBarred_52 hl (k := 4) rfl (zinc j) (by decide) rfl (fun ls hl => ?_)
              refine lv_goto (tgt := 6) hx hb dX12_isBarred_55 (by decide) ?_
              exact ih6 (j + 1) v_44 (by omega) (by omega) (fun k9 hk9 => by rcases Nat.lt_or_ge k9 (j - F) with h | h; exact j3 k9 h; rw [show F + k9 = j by omega]; exact fun h9 => h9.2.elim c_35 c_47) (by omega) _ _ hI ls (lv_sub hl [1, 2, 3, 4, 0] rfl)
            · skip
              rw [zb_0, Classical.not_not] at c_47
              refine lv_iconst (v := (nI 1)) hx hb dX12_isBarred_50 rfl ?_
              exact z_zret hx hb hr hlocks hI (Or.inr rfl) (⟨zQ97.s, if_pos ⟨j - F, by omega, by rw [show F + (j - F) = j by omega]; exact ⟨c_23, Or.inr c_47⟩⟩⟩) dX12_isBarred_51
  exact L6 (C + 1) F (x.1 97) (Nat.le_refl _) (by omega) (fun k9 hk9 => absurd hk9 (by omega)) (by omega) _ _ hI ls (lv_sub hl [1, 2, 3, 4, 0] rfl)
