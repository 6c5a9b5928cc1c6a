set_option maxHeartbeats 1000000 in
set_option maxRecDepth 100000 in
theorem c_X12_goesText (l : Launch) {G : zG} (hG : zOK G) (x : zX) (f1 pa sa na F : Nat) (oa da : Int32) (w4 w5 : Nat → Int32) (hfd : x.1 77 14 = nI F) (hF : F ≤ 100) (hf1 : f1 < 6) (hlt : ∀ k, k < 16 → ¬ x.1 96 k = -1) : zMi l yX12_goesText wsX12_goesText { frames := 6, cells := 0, slots := 0, locals := 130 } G [.ref (za G 77), .int (nI f1)] (zrr x pa sa na oa da w4 w5) (fun (r : Int32) (u : zX) => (zrG (zrt x F) F f1 10 0 x 0 (100 * f1) na oa da w4 w5).2 = u ∧ (if (zrG (zrt x F) F f1 10 0 x 0 (100 * f1) na oa da w4 w5).1 = true then nI 1 else nI 0) = r) := by
  intro A
  refine zBody (cc := cX12_goesText) (maxL := 3) (ret := (some .boolean)) (by decide) rfl (Nat.le_of_ble_eq_true rfl) ?_
  intro p e s m below meth c hx hb hml hown hts hr hlocks hK hN hI ls hl
  have hown : s.vm.findClass RX12 = some m.cls := hown
  have hl : lv_has ls 3 [(0, .ref (za G 77)), (1, .int (nI f1))] := hl
  have hin12 : ∀ w ∈ wsX120, w ∈ wsX12_goesText := (fun _ h => List.mem_cons_of_mem _ (List.mem_append_right _ (h)))
  have wF57 := hts (.fieldLink RX12 57 "WhoSitsByModel" "at" "I") (z_mem 1 rfl)
  have wF87 := hts (.fieldLink RX12 87 "WhoSitsByModel" "signs" "I") (z_mem 2 rfl)
  have wF66 := hts (.fieldLink RX12 66 "WhoSitsByModel" "clauses" "[I") (z_mem 3 rfl)
  have wF54 := hts (.fieldLink RX12 54 "WhoSitsByModel" "fed" "I") (z_mem 4 rfl)
  refine lv_aload_n hx hb dX12_goesText_0 rfl (lv_at hl 0 rfl) ?_
  refine lv_iconst (v := (nI 0)) hx hb dX12_goesText_1 rfl ?_
  refine z_putI (C := RX12) (T := TX12) (N := 51) (ci := 12) (ty := .int) hx hb hts hin12 tyX12 tyX12_ok nmX12 hown hK hI (zo77 hG) rfl 15 (by decide) wF57 (fun _ h9 => h9) rfl (fun _ _ => rfl) (by decide +kernel) rfl rfl (fun _ _ => Nat.le_of_ble_eq_true rfl) dX12_goesText_2 (fun H locs hI => ?_)
  rw [zrr_15] at hI
  refine lv_aload_n hx hb dX12_goesText_5 rfl (lv_at hl 0 rfl) ?_
  refine lv_bipush (v := (nI 100)) hx hb dX12_goesText_6 rfl ?_
  refine lv_iload_n hx hb dX12_goesText_8 rfl (lv_at hl 1 rfl) ?_
  refine z_imul (v := (nI (100 * f1))) hx hb (pk_mul _ _) dX12_goesText_9 ?_
  refine z_putI (C := RX12) (T := TX12) (N := 51) (ci := 12) (ty := .int) hx hb hts hin12 tyX12 tyX12_ok nmX12 hown hK hI (zo77 hG) rfl 25 (by decide) wF87 (fun _ h9 => h9) rfl (fun _ _ => rfl) (by decide +kernel) rfl rfl (fun _ _ => Nat.le_of_ble_eq_true rfl) dX12_goesText_10 (fun H locs hI => ?_)
  rw [zrr_25] at hI
  refine lv_iconst (v := (nI 0)) hx hb dX12_goesText_13 rfl ?_
  refine lv_istore_n (lv' := [(2, .int (nI 0)), (0, .ref (za G 77)), (1, .int (nI f1))]) hx hb dX12_goesText_14 rfl hl (by decide) rfl (fun ls hl => ?_)
  have L15 : ∀ (f : Nat) (k : Nat) (y : zX) (p2 : Nat) (s2 : Nat) (n2 : Nat) (o2 : Int32) (d2 : Int32) (v4 : Nat → Int32) (v5 : Nat → Int32), (k ≤ 9) → (zrG (zrt x F) F f1 (10 - k) k y p2 s2 n2 o2 d2 v4 v5 = zrG (zrt x F) F f1 10 0 x 0 (100 * f1) na oa da w4 w5) → (y.1 77 14 = nI F) → (zrt y F = (zrt x F)) → (∀ k9, k9 < 16 → ¬ y.1 96 k9 = -1) → (p2 ≤ F) → (s2 + (F - p2) ≤ 600) → 10 ≤ k + f → ∀ (H : Heap) (locs : List Loc), zI G (zrr y p2 s2 n2 o2 d2 v4 v5) A s.heap H locs → ∀ ls : Array Slot, lv_has ls 3 [(0, .ref (za G 77)), (1, .int (nI f1)), (2, .int (nI k))] → W p l e { frames := 6, cells := 0, slots := 0, locals := 130 } s m ([.ref (za G 77), .int (nI f1)] : List Value).toArray below meth c H locs 0 0 (MQ below (va_Qi (fun (r : Int32) (u : zX) => (zrG (zrt x F) F f1 10 0 x 0 (100 * f1) na oa da w4 w5).2 = u ∧ (if (zrG (zrt x F) F f1 10 0 x 0 (100 * f1) na oa da w4 w5).1 = true then nI 1 else nI 0) = r) (fun u t => zJ G u A t.heap) A) ([.ref (za G 77), .int (nI f1)] : List Value).toArray s 0 0 A) (F0 m 15 ls []) := by
    intro f
    induction f with
    | zero =>
      intro k y p2 s2 n2 o2 d2 v4 v5 h1 hF9 hyF hyT hyl hp2 hs2 hf
      exact absurd hf (by omega)
    | succ f ih =>
      intro k y p2 s2 n2 o2 d2 v4 v5 h1 hF9 hyF hyT hyl hp2 hs2 hf H locs hI ls hl
      have ih15 := ih
      refine lv_aload_n hx hb dX12_goesText_15 rfl (lv_at hl 0 rfl) ?_
      refine lv_bipush (v := (nI 10)) hx hb dX12_goesText_16 rfl ?_
      refine lv_iload_n hx hb dX12_goesText_18 rfl (lv_at hl 1 rfl) ?_
      refine z_imul (v := (nI (10 * f1))) hx hb (pk_mul _ _) dX12_goesText_19 ?_
      refine lv_iload_n hx hb dX12_goesText_20 rfl (lv_at hl 2 rfl) ?_
      refine z_iadd (v := (nI ((10 * f1) + k))) hx hb (nI_add _ _) dX12_goesText_21 ?_
      refine z_calli (va_runV (As := [.int (nI ((10 * f1) + k))]) (rest := []) ⟨hx, hb, hml, hown, hts⟩ ((c_X12_takesClause l hG y ((10 * f1) + k) p2 s2 n2 F o2 d2 v4 v5 hyF hF hp2 hyl (by omega) hs2) A) (cwV 1 hts gX12_goesText_X12_takesClause rfl rfl rfl (by decide +kernel) ⟨Nat.le_of_ble_eq_true rfl, Nat.le_of_ble_eq_true rfl⟩) (z_pV hI hK hN (z_recv hK hI (zo77 hG) rfl)) rfl rfl hl.1 rfl (lv_room (Nat.le_of_ble_eq_true rfl)) dX12_goesText_22 ⟨Nat.zero_le _, Nat.zero_le _⟩) hI (fun r_22 u H locs hw hI => ?_)
      rw [hyT] at hw
      obtain ⟨rfl, rfl⟩ := hw
      have hci := zrC_in (x := y) (c := 10 * f1 + k) (n := n2) (o := o2) (d := d2) (w4 := v4) (w5 := v5) (zrt_e (x := x) (F := F)) hp2 hs2 hyl
      have hI : zI G (zrr (zrC y (zrt x F) F (10 * f1 + k) p2 s2 n2 o2 d2 v4 v5).2.1 (zrC y (zrt x F) F (10 * f1 + k) p2 s2 n2 o2 d2 v4 v5).2.2.1 (zrC y (zrt x F) F (10 * f1 + k) p2 s2 n2 o2 d2 v4 v5).2.2.2.1 (zrC y (zrt x F) F (10 * f1 + k) p2 s2 n2 o2 d2 v4 v5).2.2.2.2.1 (zrC y (zrt x F) F (10 * f1 + k) p2 s2 n2 o2 d2 v4 v5).2.2.2.2.2.1 (zrC y (zrt x F) F (10 * f1 + k) p2 s2 n2 o2 d2 v4 v5).2.2.2.2.2.2.1 (zrC y (zrt x F) F (10 * f1 + k) p2 s2 n2 o2 d2 v4 v5).2.2.2.2.2.2.2.1 (zrC y (zrt x F) F (10 * f1 + k) p2 s2 n2 o2 d2 v4 v5).2.2.2.2.2.2.2.2) A s.heap H locs := hI
      refine lv_if_ne (tgt := 30) hx hb dX12_goesText_25 (by decide) (fun c_25 => ?_) (fun c_25 => ?_)
      · skip
        rw [zb_0, Classical.not_not] at c_25
        refine lv_iinc (v := (nI (k + 1))) (lv' := [(2, .int (nI (k + 1))), (0, .ref (za G 77)), (1, .int (nI f1))]) hx hb dX12_goesText_30 hl (k := 2) rfl (zinc k) (by decide) rfl (fun ls hl => ?_)
        refine lv_aload_n hx hb dX12_goesText_33 rfl (lv_at hl 1 rfl) ?_
        refine z_get (C := RX12) (T := TX12) (N := 51) (ci := 12) (v := .ref (za G 89)) hx hb hts hin12 hown hK hI (zo77 hG) rfl 18 (by decide) wF66 (fun _ h9 => h9) rfl dX12_goesText_34 ?_
        refine lv_iload_n hx hb dX12_goesText_37 rfl (lv_at hl 2 rfl) ?_
        refine lv_iload_n hx hb dX12_goesText_38 rfl (lv_at hl 0 rfl) ?_
        refine z_iast (y := (nI (k + 1))) hx hb hK hI (zo89 hG) f1 rfl (by omega) (by decide) dX12_goesText_39 (fun H locs hI => ?_)
        rw [zrr_o (i := 89) (by decide) (by decide) (by decide)] at hI
        have hyF2 : (zsI (zrC y (zrt x F) F (10 * f1 + k) p2 s2 n2 o2 d2 v4 v5).2.1 89 f1 (nI (k + 1))).1 77 14 = nI F := (congrFun (zsI_n (by decide)) 14).trans ((congrFun (zrC_n (by decide) (by decide) (by decide) (by decide)) 14).trans hyF)
        have hyT2 : zrt (zsI (zrC y (zrt x F) F (10 * f1 + k) p2 s2 n2 o2 d2 v4 v5).2.1 89 f1 (nI (k + 1))) F = (zrt x F) := by rw [← hyT]; funext k9; show (if k9 < F then (zsI _ 89 _ _).1 88 k9 else -1) = _; rw [zsI_n (by decide), zrC_n (by decide) (by decide) (by decide) (by decide)]; rfl
        have hyl2 : ∀ k9, k9 < 16 → ¬ (zsI (zrC y (zrt x F) F (10 * f1 + k) p2 s2 n2 o2 d2 v4 v5).2.1 89 f1 (nI (k + 1))).1 96 k9 = -1 := by intro k9 hk9; rw [zsI_n (by decide), zrC_n (by decide) (by decide) (by decide) (by decide)]; exact hyl k9 hk9
        refine lv_aload_n hx hb dX12_goesText_40 rfl (lv_at hl 1 rfl) ?_
        refine z_get (C := RX12) (T := TX12) (N := 51) (ci := 12) (v := .int (nI ((zrC y (zrt x F) F (10 * f1 + k) p2 s2 n2 o2 d2 v4 v5).2.2.1))) hx hb hts hin12 hown hK hI (zo77 hG) rfl 15 (by decide) wF57 (fun _ h9 => h9) rfl dX12_goesText_41 ?_
        refine lv_aload_n hx hb dX12_goesText_44 rfl (lv_at hl 1 rfl) ?_
        refine z_get (C := RX12) (T := TX12) (N := 51) (ci := 12) (v := .int (nI F)) hx hb hts hin12 hown hK hI (zo77 hG) rfl 14 (by decide) wF54 (fun _ h9 => h9) (congrArg (fun q => some (Value.int q)) hyF2) dX12_goesText_45 ?_
        refine lv_icmp_ne (tgt := 53) hx hb dX12_goesText_48 (by decide) (fun c_48 => ?_) (fun c_48 => ?_)
        · skip
          rw [zqE (by omega) (by omega)] at c_48
          refine lv_iload_n hx hb dX12_goesText_53 rfl (lv_at hl 0 rfl) ?_
          refine lv_bipush (v := (nI 10)) hx hb dX12_goesText_54 rfl ?_
          refine lv_icmp_eq (tgt := 68) hx hb dX12_goesText_56 (by decide) (fun c_56 => ?_) (fun c_56 => ?_)
          · skip
            rw [zqE (by omega) (by omega)] at c_56
            refine lv_iconst (v := (nI 0)) hx hb dX12_goesText_68 rfl ?_
            exact z_zret hx hb hr hlocks hI (Or.inl rfl) ((by rw [← hF9, show 10 - k = (9 - k) + 1 by omega]; exact ⟨congrArg Prod.snd (((if_pos c_25).trans ((if_neg c_48).trans ((if_pos (by omega)))))), congrArg (fun q : Bool × zX => if q.1 = true then nI 1 else nI 0) (((if_pos c_25).trans ((if_neg c_48).trans ((if_pos (by omega))))))⟩)) dX12_goesText_69
          · skip
            rw [zqE (by omega) (by omega)] at c_56
            refine lv_aload_n hx hb dX12_goesText_59 rfl (lv_at hl 1 rfl) ?_
            refine lv_bipush (v := (nI 59)) hx hb dX12_goesText_60 rfl ?_
            refine z_calli (va_runV (As := [.int (nI 59)]) (rest := []) ⟨hx, hb, hml, hown, hts⟩ ((c_X12_takesR l hG (zsI (zrC y (zrt x F) F (10 * f1 + k) p2 s2 n2 o2 d2 v4 v5).2.1 89 f1 (nI (k + 1))) (zrC y (zrt x F) F (10 * f1 + k) p2 s2 n2 o2 d2 v4 v5).2.2.1 (zrC y (zrt x F) F (10 * f1 + k) p2 s2 n2 o2 d2 v4 v5).2.2.2.1 (zrC y (zrt x F) F (10 * f1 + k) p2 s2 n2 o2 d2 v4 v5).2.2.2.2.1 (zrC y (zrt x F) F (10 * f1 + k) p2 s2 n2 o2 d2 v4 v5).2.2.2.2.2.1 (zrC y (zrt x F) F (10 * f1 + k) p2 s2 n2 o2 d2 v4 v5).2.2.2.2.2.2.1 (zrC y (zrt x F) F (10 * f1 + k) p2 s2 n2 o2 d2 v4 v5).2.2.2.2.2.2.2.1 (zrC y (zrt x F) F (10 * f1 + k) p2 s2 n2 o2 d2 v4 v5).2.2.2.2.2.2.2.2 F (nI 59) hyF2 hF hci.1) A) (cwV 1 hts gX12_goesText_X12_takes rfl rfl rfl (by decide +kernel) ⟨Nat.le_of_ble_eq_true rfl, Nat.le_of_ble_eq_true rfl⟩) (z_pV hI hK hN (z_recv hK hI (zo77 hG) rfl)) rfl rfl hl.1 rfl (lv_room (Nat.le_of_ble_eq_true rfl)) dX12_goesText_62 ⟨Nat.zero_le _, Nat.zero_le _⟩) hI (fun r_62 u H locs hw hI => ?_)
            rw [show zrt (zsI (zrC y (zrt x F) F (10 * f1 + k) p2 s2 n2 o2 d2 v4 v5).2.1 89 f1 (nI (k + 1))) F = (zrt x F) from hyT2] at hw
            rcases hw with ⟨hT_62, rfl, rfl⟩ | ⟨hT_62, rfl, rfl⟩
            · skip
              have hp_62 : (zrC y (zrt x F) F (10 * f1 + k) p2 s2 n2 o2 d2 v4 v5).2.2.1 + 1 ≤ F := zrt_lt hT_62 (by decide)
              refine lv_if_ne (tgt := 15) hx hb dX12_goesText_65 (by decide) (fun c_65 => ?_) (fun c_65 => absurd c_65 (by decide))
              exact ih15 (k + 1) (zsI (zrC y (zrt x F) F (10 * f1 + k) p2 s2 n2 o2 d2 v4 v5).2.1 89 f1 (nI (k + 1))) ((zrC y (zrt x F) F (10 * f1 + k) p2 s2 n2 o2 d2 v4 v5).2.2.1 + 1) ((zrC y (zrt x F) F (10 * f1 + k) p2 s2 n2 o2 d2 v4 v5).2.2.2.1) ((zrC y (zrt x F) F (10 * f1 + k) p2 s2 n2 o2 d2 v4 v5).2.2.2.2.1) ((zrC y (zrt x F) F (10 * f1 + k) p2 s2 n2 o2 d2 v4 v5).2.2.2.2.2.1) ((zrC y (zrt x F) F (10 * f1 + k) p2 s2 n2 o2 d2 v4 v5).2.2.2.2.2.2.1) ((zrC y (zrt x F) F (10 * f1 + k) p2 s2 n2 o2 d2 v4 v5).2.2.2.2.2.2.2.1) ((zrC y (zrt x F) F (10 * f1 + k) p2 s2 n2 o2 d2 v4 v5).2.2.2.2.2.2.2.2) (by omega) (by rw [← hF9, show 10 - k = (10 - (k + 1)) + 1 by omega]; exact (((if_pos c_25).trans ((if_neg c_48).trans ((if_neg (by omega)).trans ((if_pos hT_62)))))).symm) hyF2 hyT2 hyl2 hp_62 (by have h9 := hci.2; omega) (by omega) _ _ hI ls (lv_sub hl [1, 2, 0] rfl)
            · skip
              refine lv_if_ne (tgt := 15) hx hb dX12_goesText_65 (by decide) (fun c_65 => absurd c_65 (by decide)) (fun c_65 => ?_)
              refine lv_iconst (v := (nI 0)) hx hb dX12_goesText_68 rfl ?_
              exact z_zret hx hb hr hlocks hI (Or.inl rfl) ((by rw [← hF9, show 10 - k = (9 - k) + 1 by omega]; exact ⟨congrArg Prod.snd (((if_pos c_25).trans ((if_neg c_48).trans ((if_neg (by omega)).trans ((if_neg hT_62)))))), congrArg (fun q : Bool × zX => if q.1 = true then nI 1 else nI 0) (((if_pos c_25).trans ((if_neg c_48).trans ((if_neg (by omega)).trans ((if_neg hT_62))))))⟩)) dX12_goesText_69
        · skip
          rw [zqE (by omega) (by omega)] at c_48
          refine lv_iconst (v := (nI 1)) hx hb dX12_goesText_51 rfl ?_
          exact z_zret hx hb hr hlocks hI (Or.inr rfl) ((by rw [← hF9, show 10 - k = (9 - k) + 1 by omega]; exact ⟨congrArg Prod.snd (((if_pos c_25).trans ((if_pos c_48)))), congrArg (fun q : Bool × zX => if q.1 = true then nI 1 else nI 0) (((if_pos c_25).trans ((if_pos c_48))))⟩)) dX12_goesText_52
      · skip
        rw [zb_0] at c_25
        refine lv_iconst (v := (nI 0)) hx hb dX12_goesText_28 rfl ?_
        exact z_zret hx hb hr hlocks hI (Or.inl rfl) ((by rw [← hF9, show 10 - k = (9 - k) + 1 by omega]; exact ⟨congrArg Prod.snd (((if_neg c_25))), congrArg (fun q : Bool × zX => if q.1 = true then nI 1 else nI 0) (((if_neg c_25)))⟩)) dX12_goesText_29
  exact L15 (10) 0 x 0 (100 * f1) na oa da w4 w5 (by omega) rfl hfd rfl hlt (by omega) (by omega) (by omega) _ _ hI ls (lv_sub hl [1, 2, 0] rfl)
set_option maxHeartbeats 1000000 in
set_option maxRecDepth 100000 in
theorem c_X12_room (l : Launch) {G : zG} (hG : zOK G) (x : zX) (Rn pa sa na F : Nat) (hrn : x.1 77 12 = nI Rn) (hR6 : Rn ≤ 6) (hat : x.1 77 15 = nI pa) (hsg : x.1 77 25 = nI sa) (hwa : x.1 77 26 = nI na) (hfd : x.1 77 14 = nI F) (hF : F ≤ 100) (hlt : ∀ k, k < 16 → ¬ x.1 96 k = -1) : zMi l yX12_room wsX12_room { frames := 7, cells := 0, slots := 0, locals := 152 } G [.ref (za G 77)] x (fun (r : Int32) (u : zX) => (Rn = 6 ∧ x = u ∧ -4 = r) ∨ (Rn < 6 ∧ ¬ (zrG (zrt x F) F Rn 10 0 x 0 (100 * Rn) na (x.1 77 27) (x.1 77 16) (x.1 94) (x.1 95)).1 = true ∧ zsI (zrG (zrt x F) F Rn 10 0 x 0 (100 * Rn) na (x.1 77 27) (x.1 77 16) (x.1 94) (x.1 95)).2 77 14 (nI 0) = u ∧ (-10) - (zrG (zrt x F) F Rn 10 0 x 0 (100 * Rn) na (x.1 77 27) (x.1 77 16) (x.1 94) (x.1 95)).2.1 77 15 = r) ∨ (Rn < 6 ∧ (zrG (zrt x F) F Rn 10 0 x 0 (100 * Rn) na (x.1 77 27) (x.1 77 16) (x.1 94) (x.1 95)).1 = true ∧ zsI (zsI (zsI (zrG (zrt x F) F Rn 10 0 x 0 (100 * Rn) na (x.1 77 27) (x.1 77 16) (x.1 94) (x.1 95)).2 77 14 (nI 0)) 77 13 (nI Rn)) 77 12 (nI (Rn + 1)) = u ∧ nI Rn = r)) := by
  intro A
  refine zBody (cc := cX12_room) (maxL := 2) (ret := (some .int)) (by decide) rfl (Nat.le_of_ble_eq_true rfl) ?_
  intro p e s m below meth c hx hb hml hown hts hr hlocks hK hN hI ls hl
  have hown : s.vm.findClass RX12 = some m.cls := hown
  have hl : lv_has ls 2 [(0, .ref (za G 77))] := hl
  have hin12 : ∀ w ∈ wsX120, w ∈ wsX12_room := (fun _ h => List.mem_cons_of_mem _ (List.mem_append_right _ (h)))
  have wF48 := hts (.fieldLink RX12 48 "WhoSitsByModel" "rooms" "I") (z_mem 1 rfl)
  have wF54 := hts (.fieldLink RX12 54 "WhoSitsByModel" "fed" "I") (z_mem 2 rfl)
  have wF51 := hts (.fieldLink RX12 51 "WhoSitsByModel" "the" "I") (z_mem 4 rfl)
  have wF57 := hts (.fieldLink RX12 57 "WhoSitsByModel" "at" "I") (z_mem 3 rfl)
  refine lv_aload_n hx hb dX12_room_0 rfl (lv_at hl 0 rfl) ?_
  refine z_get (C := RX12) (T := TX12) (N := 51) (ci := 12) (v := .int (nI Rn)) hx hb hts hin12 hown hK hI (zo77 hG) rfl 12 (by decide) wF48 (fun _ h9 => h9) (congrArg (fun q => some (Value.int q)) hrn) dX12_room_1 ?_
  refine lv_bipush (v := (nI 6)) hx hb dX12_room_4 rfl ?_
  refine lv_icmp_ne (tgt := 12) hx hb dX12_room_6 (by decide) (fun c_6 => ?_) (fun c_6 => ?_)
  · skip
    rw [zqE (by omega) (by omega)] at c_6
    have hI : zI G (zrr x pa sa na (x.1 77 27) (x.1 77 16) (x.1 94) (x.1 95)) A s.heap s.heap [] := by rw [zrr_e hat hsg hwa]; exact hI
    refine lv_aload_n hx hb dX12_room_12 rfl (lv_at hl 0 rfl) ?_
    refine lv_aload_n hx hb dX12_room_13 rfl (lv_at hl 0 rfl) ?_
    refine z_get (C := RX12) (T := TX12) (N := 51) (ci := 12) (v := .int (nI Rn)) hx hb hts hin12 hown hK hI (zo77 hG) rfl 12 (by decide) wF48 (fun _ h9 => h9) (congrArg (fun q => some (Value.int q)) hrn) dX12_room_14 ?_
    refine z_calli (va_runV (As := [.int (nI Rn)]) (rest := []) ⟨hx, hb, hml, hown, hts⟩ ((c_X12_goesText l hG x Rn pa sa na F (x.1 77 27) (x.1 77 16) (x.1 94) (x.1 95) hfd hF (by omega) hlt) A) (cwV 1 hts gX12_room_X12_goesText rfl rfl rfl (by decide +kernel) ⟨Nat.le_of_ble_eq_true rfl, Nat.le_of_ble_eq_true rfl⟩) (z_pV hI hK hN (z_recv hK hI (zo77 hG) rfl)) rfl rfl hl.1 rfl (lv_room (Nat.le_of_ble_eq_true rfl)) dX12_room_17 ⟨Nat.zero_le _, Nat.zero_le _⟩) hI (fun r_17 u H locs hw hI => ?_)
    obtain ⟨rfl, rfl⟩ := hw
    have hrm : (zrG (zrt x F) F Rn 10 0 x 0 (100 * Rn) na (x.1 77 27) (x.1 77 16) (x.1 94) (x.1 95)).2.1 77 12 = nI Rn := (zrG_7 (by decide) (by decide) (by decide) (by decide) (by decide) _ _ _ _ _ _ _ _ _ _).trans hrn
    refine lv_istore_n (lv' := [(1, .int (if (zrG (zrt x F) F Rn 10 0 x 0 (100 * Rn) na (x.1 77 27) (x.1 77 16) (x.1 94) (x.1 95)).1 = true then nI 1 else nI 0)), (0, .ref (za G 77))]) hx hb dX12_room_20 rfl hl (by decide) rfl (fun ls hl => ?_)
    refine lv_aload_n hx hb dX12_room_21 rfl (lv_at hl 1 rfl) ?_
    refine lv_iconst (v := (nI 0)) hx hb dX12_room_22 rfl ?_
    refine z_putI (C := RX12) (T := TX12) (N := 51) (ci := 12) (ty := .int) hx hb hts hin12 tyX12 tyX12_ok nmX12 hown hK hI (zo77 hG) rfl 14 (by decide) wF54 (fun _ h9 => h9) rfl (fun _ _ => rfl) (by decide +kernel) rfl rfl (fun _ _ => Nat.le_of_ble_eq_true rfl) dX12_room_23 (fun H locs hI => ?_)
    refine lv_iload_n hx hb dX12_room_26 rfl (lv_at hl 0 rfl) ?_
    refine lv_if_ne (tgt := 38) hx hb dX12_room_27 (by decide) (fun c_27 => ?_) (fun c_27 => ?_)
    · skip
      rw [zb_0, Classical.not_not] at c_27
      refine lv_aload_n hx hb dX12_room_38 rfl (lv_at hl 1 rfl) ?_
      refine lv_aload_n hx hb dX12_room_39 rfl (lv_at hl 1 rfl) ?_
      refine z_get (C := RX12) (T := TX12) (N := 51) (ci := 12) (v := .int (nI Rn)) hx hb hts hin12 hown hK hI (zo77 hG) rfl 12 (by decide) wF48 (fun _ h9 => h9) (congrArg (fun q => some (Value.int q)) hrm) dX12_room_40 ?_
      refine z_putI (C := RX12) (T := TX12) (N := 51) (ci := 12) (ty := .int) hx hb hts hin12 tyX12 tyX12_ok nmX12 hown hK hI (zo77 hG) rfl 13 (by decide) wF51 (fun _ h9 => h9) rfl (fun _ _ => rfl) (by decide +kernel) rfl rfl (fun _ _ => Nat.le_of_ble_eq_true rfl) dX12_room_43 (fun H locs hI => ?_)
      refine lv_aload_n hx hb dX12_room_46 rfl (lv_at hl 1 rfl) ?_
      refine lv_dup hx hb dX12_room_47 rfl ?_
      refine z_get (C := RX12) (T := TX12) (N := 51) (ci := 12) (v := .int (nI Rn)) hx hb hts hin12 hown hK hI (zo77 hG) rfl 12 (by decide) wF48 (fun _ h9 => h9) (congrArg (fun q => some (Value.int q)) hrm) dX12_room_48 ?_
      refine lv_iconst (v := (nI 1)) hx hb dX12_room_51 rfl ?_
      refine z_iadd (v := (nI (Rn + 1))) hx hb (nI_add _ _) dX12_room_52 ?_
      refine z_putI (C := RX12) (T := TX12) (N := 51) (ci := 12) (ty := .int) hx hb hts hin12 tyX12 tyX12_ok nmX12 hown hK hI (zo77 hG) rfl 12 (by decide) wF48 (fun _ h9 => h9) rfl (fun _ _ => rfl) (by decide +kernel) rfl rfl (fun _ _ => Nat.le_of_ble_eq_true rfl) dX12_room_53 (fun H locs hI => ?_)
      refine lv_aload_n hx hb dX12_room_56 rfl (lv_at hl 1 rfl) ?_
      refine z_get (C := RX12) (T := TX12) (N := 51) (ci := 12) (v := .int (nI Rn)) hx hb hts hin12 hown hK hI (zo77 hG) rfl 13 (by decide) wF51 (fun _ h9 => h9) rfl dX12_room_57 ?_
      exact z_iret hx hb hr hlocks hI (Or.inr (Or.inr ⟨by omega, c_27, rfl, rfl⟩)) dX12_room_60
    · skip
      rw [zb_0] at c_27
      refine lv_bipush (v := (-10)) hx hb dX12_room_30 rfl ?_
      refine lv_aload_n hx hb dX12_room_32 rfl (lv_at hl 1 rfl) ?_
      refine z_get (C := RX12) (T := TX12) (N := 51) (ci := 12) (v := .int (((zrG (zrt x F) F Rn 10 0 x 0 (100 * Rn) na (x.1 77 27) (x.1 77 16) (x.1 94) (x.1 95)).2).1 77 15)) hx hb hts hin12 hown hK hI (zo77 hG) rfl 15 (by decide) wF57 (fun _ h9 => h9) rfl dX12_room_33 ?_
      refine lv_isub hx hb dX12_room_36 ?_
      exact z_iret hx hb hr hlocks hI (Or.inr (Or.inl ⟨by omega, c_27, rfl, rfl⟩)) dX12_room_37
  · skip
    rw [zqE (by omega) (by omega)] at c_6
    refine lv_bipush (v := (-4)) hx hb dX12_room_9 rfl ?_
    exact z_iret hx hb hr hlocks hI (Or.inl ⟨by omega, rfl, rfl⟩) dX12_room_11
