set_option maxHeartbeats 1000000 in
set_option maxRecDepth 100000 in
theorem c_X12_takesWord (l : Launch) {G : zG} (hG : zOK G) (x : zX) (fr m1 : Nat) (p1 s1 n1 F : Nat) (o1 d1 : Int32) (w4 w5 : Nat → Int32) (hfd : x.1 77 14 = nI F) (hF : F ≤ 100) (hp1 : p1 ≤ F) (hlt : ∀ k, k < 16 → ¬ x.1 96 k = -1) (hfm : fr + m1 ≤ 16) : zMi l yX12_takesWord wsX12_takesWord { frames := 2, cells := 0, slots := 0, locals := 41 } G [.ref (za G 77), .int (nI fr), .int (nI m1)] (zrr x p1 s1 n1 o1 d1 w4 w5) (fun (r : Int32) (u : zX) => zrr x (zrw (zrt x F) (fun k9 => x.1 96 (fr + k9)) p1 m1).2 s1 n1 o1 d1 w4 w5 = u ∧ (if (zrw (zrt x F) (fun k9 => x.1 96 (fr + k9)) p1 m1).1 = true then nI 1 else nI 0) = r) := by
  intro A
  refine zBody (cc := cX12_takesWord) (maxL := 4) (ret := (some .boolean)) (by decide) rfl (Nat.le_of_ble_eq_true rfl) ?_
  intro p e s m below meth c hx hb hml hown hts hr hlocks hK hN hI ls hl
  have hown : s.vm.findClass RX12 = some m.cls := hown
  have hl : lv_has ls 4 [(0, .ref (za G 77)), (1, .int (nI fr)), (2, .int (nI m1))] := hl
  have hin12 : ∀ w ∈ wsX120, w ∈ wsX12_takesWord := (fun _ h => List.mem_cons_of_mem _ (List.mem_append_right _ (h)))
  have wF96 := hts (.fieldLink RX12 96 "WhoSitsByModel" "letters" "[I") (z_mem 1 rfl)
  refine lv_iconst (v := (nI 0)) hx hb dX12_takesWord_0 rfl ?_
  refine lv_istore_n (lv' := [(3, .int (nI 0)), (0, .ref (za G 77)), (1, .int (nI fr)), (2, .int (nI m1))]) hx hb dX12_takesWord_1 rfl hl (by decide) rfl (fun ls hl => ?_)
  have L2 : ∀ (f : Nat) (k : Nat), (k ≤ m1) → (zmt (zrt x F) (fun k9 => x.1 96 (fr + k9)) p1 k = k) → m1 + 1 ≤ k + f → ∀ (H : Heap) (locs : List Loc), zI G (zrr x (p1 + k) s1 n1 o1 d1 w4 w5) A s.heap H locs → ∀ ls : Array Slot, lv_has ls 4 [(0, .ref (za G 77)), (1, .int (nI fr)), (2, .int (nI m1)), (3, .int (nI k))] → W p l e { frames := 2, cells := 0, slots := 0, locals := 41 } s m ([.ref (za G 77), .int (nI fr), .int (nI m1)] : List Value).toArray below meth c H locs 0 0 (MQ below (va_Qi (fun (r : Int32) (u : zX) => zrr x (zrw (zrt x F) (fun k9 => x.1 96 (fr + k9)) p1 m1).2 s1 n1 o1 d1 w4 w5 = u ∧ (if (zrw (zrt x F) (fun k9 => x.1 96 (fr + k9)) p1 m1).1 = true then nI 1 else nI 0) = r) (fun u t => zJ G u A t.heap) A) ([.ref (za G 77), .int (nI fr), .int (nI m1)] : List Value).toArray s 0 0 A) (F0 m 2 ls []) := by
    intro f
    induction f with
    | zero =>
      intro k h1 h2 hf
      exact absurd hf (by omega)
    | succ f ih =>
      intro k h1 h2 hf H locs hI ls hl
      have ih2 := ih
      refine lv_iload_n hx hb dX12_takesWord_2 rfl (lv_at hl 3 rfl) ?_
      refine lv_iload_n hx hb dX12_takesWord_3 rfl (lv_at hl 2 rfl) ?_
      refine lv_icmp_ge (tgt := 30) hx hb dX12_takesWord_4 (by decide) (fun c_4 => ?_) (fun c_4 => ?_)
      · skip
        rw [zqG (by omega) (by omega)] at c_4
        have hpk : p1 + k ≤ F := by have h9 := zmt_in (T := zrt x F) (l := (fun k9 => x.1 96 (fr + k9))) zrt_e hp1 k (fun k9 hk9 => hlt _ (by omega)); rw [h2] at h9; exact h9
        have hk9 : k = m1 := by omega
        rw [hk9] at h2 hI hl hpk
        have hmk := h2
        refine lv_aload_n hx hb dX12_takesWord_30 rfl (lv_at hl 0 rfl) ?_
        refine lv_bipush (v := (nI 32)) hx hb dX12_takesWord_31 rfl ?_
        refine z_calli (va_runV (As := [.int (nI 32)]) (rest := []) ⟨hx, hb, hml, hown, hts⟩ ((c_X12_takesR l hG x (p1 + m1) s1 n1 o1 d1 w4 w5 F (nI 32) hfd hF (by omega)) A) (cwV 1 hts gX12_takesWord_X12_takes rfl rfl rfl (by decide +kernel) ⟨Nat.le_of_ble_eq_true rfl, Nat.le_of_ble_eq_true rfl⟩) (z_pV hI hK hN (z_recv hK hI (zo77 hG) rfl)) rfl rfl hl.1 rfl (lv_room (Nat.le_of_ble_eq_true rfl)) dX12_takesWord_33 ⟨Nat.zero_le _, Nat.zero_le _⟩) hI (fun r_33 u H locs hw hI => ?_)
        rcases hw with ⟨hT_33, rfl, rfl⟩ | ⟨hT_33, rfl, rfl⟩
        · skip
          have hp_33 : (p1 + m1) + 1 ≤ F := zrt_lt hT_33 (by decide)
          exact z_zret hx hb hr hlocks hI (Or.inr rfl) ((by rw [show (zrw (zrt x F) (fun k9 => x.1 96 (fr + k9)) p1 m1) = _ from (if_pos hmk).trans (if_pos hT_33)]; exact ⟨rfl, rfl⟩)) dX12_takesWord_36
        · skip
          exact z_zret hx hb hr hlocks hI (Or.inl rfl) ((by rw [show (zrw (zrt x F) (fun k9 => x.1 96 (fr + k9)) p1 m1) = _ from (if_pos hmk).trans (if_neg hT_33)]; exact ⟨rfl, rfl⟩)) dX12_takesWord_36
      · skip
        rw [zqG (by omega) (by omega)] at c_4
        have hpk : p1 + k ≤ F := by have h9 := zmt_in (T := zrt x F) (l := (fun k9 => x.1 96 (fr + k9))) zrt_e hp1 k (fun k9 hk9 => hlt _ (by omega)); rw [h2] at h9; exact h9
        refine lv_aload_n hx hb dX12_takesWord_7 rfl (lv_at hl 0 rfl) ?_
        refine lv_aload_n hx hb dX12_takesWord_8 rfl (lv_at hl 0 rfl) ?_
        refine z_get (C := RX12) (T := TX12) (N := 51) (ci := 12) (v := .ref (za G 96)) hx hb hts hin12 hown hK hI (zo77 hG) rfl 28 (by decide) wF96 (fun _ h9 => h9) rfl dX12_takesWord_9 ?_
        refine lv_iload_n hx hb dX12_takesWord_12 rfl (lv_at hl 1 rfl) ?_
        refine lv_iload_n hx hb dX12_takesWord_13 rfl (lv_at hl 3 rfl) ?_
        refine z_iadd (v := (nI (fr + k))) hx hb (nI_add _ _) dX12_takesWord_14 ?_
        refine z_iald (v := (x.1 96 (fr + k))) hx hb hK hI (zo96 hG) (fr + k) rfl (by omega) (by decide) rfl dX12_takesWord_15 ?_
        refine z_calli (va_runV (As := [.int (x.1 96 (fr + k))]) (rest := []) ⟨hx, hb, hml, hown, hts⟩ ((c_X12_takesR l hG x (p1 + k) s1 n1 o1 d1 w4 w5 F (x.1 96 (fr + k)) hfd hF (by omega)) A) (cwV 1 hts gX12_takesWord_X12_takes rfl rfl rfl (by decide +kernel) ⟨Nat.le_of_ble_eq_true rfl, Nat.le_of_ble_eq_true rfl⟩) (z_pV hI hK hN (z_recv hK hI (zo77 hG) rfl)) rfl rfl hl.1 rfl (lv_room (Nat.le_of_ble_eq_true rfl)) dX12_takesWord_16 ⟨Nat.zero_le _, Nat.zero_le _⟩) hI (fun r_16 u H locs hw hI => ?_)
        rcases hw with ⟨hT_16, rfl, rfl⟩ | ⟨hT_16, rfl, rfl⟩
        · skip
          have hp_16 : (p1 + k) + 1 ≤ F := zrt_lt hT_16 (hlt _ (by omega))
          refine lv_if_ne (tgt := 24) hx hb dX12_takesWord_19 (by decide) (fun c_19 => ?_) (fun c_19 => absurd c_19 (by decide))
          refine lv_iinc (v := (nI (k + 1))) (lv' := [(3, .int (nI (k + 1))), (0, .ref (za G 77)), (1, .int (nI fr)), (2, .int (nI m1))]) hx hb dX12_takesWord_24 hl (k := 3) rfl (zinc k) (by decide) rfl (fun ls hl => ?_)
          refine lv_goto (tgt := 2) hx hb dX12_takesWord_27 (by decide) ?_
          exact ih2 (k + 1) (by omega) (if_pos ⟨h2, hT_16⟩) (by omega) _ _ hI ls (lv_sub hl [1, 2, 3, 0] rfl)
        · skip
          refine lv_if_ne (tgt := 24) hx hb dX12_takesWord_19 (by decide) (fun c_19 => absurd c_19 (by decide)) (fun c_19 => ?_)
          have hmk : zmt (zrt x F) (fun k9 => x.1 96 (fr + k9)) p1 m1 = k := by rw [show m1 = k + 1 + (m1 - (k + 1)) by omega]; exact zmt_x h2 hT_16 _
          refine lv_iconst (v := (nI 0)) hx hb dX12_takesWord_22 rfl ?_
          exact z_zret hx hb hr hlocks hI (Or.inl rfl) ((by rw [show (zrw (zrt x F) (fun k9 => x.1 96 (fr + k9)) p1 m1) = (false, p1 + k) from (if_neg (by rw [hmk]; omega)).trans (by rw [hmk])]; exact ⟨rfl, rfl⟩)) dX12_takesWord_23
  exact L2 (m1 + 1) 0 (by omega) rfl (by omega) _ _ hI ls (lv_sub hl [1, 2, 3, 0] rfl)
set_option maxHeartbeats 1000000 in
set_option maxRecDepth 100000 in
theorem c_X12_takesHead (l : Launch) {G : zG} (hG : zOK G) (x : zX) (c1 : Nat) (p1 s1 n1 F : Nat) (o1 d1 : Int32) (w4 w5 : Nat → Int32) (hfd : x.1 77 14 = nI F) (hF : F ≤ 100) (hp1 : p1 ≤ F) (hlt : ∀ k, k < 16 → ¬ x.1 96 k = -1) (hc9 : c1 < 60) : zMi l yX12_takesHead wsX12_takesHead { frames := 3, cells := 0, slots := 0, locals := 64 } G [.ref (za G 77), .int (nI c1)] (zrr x p1 s1 n1 o1 d1 w4 w5) (fun (r : Int32) (u : zX) => zrr (zsI x 90 c1 (zrhw (zrt x F) p1)) (zrH x (zrt x F) p1).2 s1 n1 o1 d1 w4 w5 = u ∧ (if (zrH x (zrt x F) p1).1 = true then nI 1 else nI 0) = r) := by
  intro A
  refine zBody (cc := cX12_takesHead) (maxL := 3) (ret := (some .boolean)) (by decide) rfl (Nat.le_of_ble_eq_true rfl) ?_
  intro p e s m below meth c hx hb hml hown hts hr hlocks hK hN hI ls hl
  have hown : s.vm.findClass RX12 = some m.cls := hown
  have hl : lv_has ls 3 [(0, .ref (za G 77)), (1, .int (nI c1))] := hl
  have hin12 : ∀ w ∈ wsX120, w ∈ wsX12_takesHead := (fun _ h => List.mem_cons_of_mem _ (List.mem_append_right _ (h)))
  have wF69 := hts (.fieldLink RX12 69 "WhoSitsByModel" "word" "[I") (z_mem 1 rfl)
  refine lv_aload_n hx hb dX12_takesHead_0 rfl (lv_at hl 0 rfl) ?_
  refine z_calli (va_runV (As := []) (rest := []) ⟨hx, hb, hml, hown, hts⟩ ((c_X12_secondR l hG x p1 s1 n1 o1 d1 w4 w5 F hfd hF (by omega)) A) (cwV 0 hts gX12_takesHead_X12_second rfl rfl rfl (by decide +kernel) ⟨Nat.le_of_ble_eq_true rfl, Nat.le_of_ble_eq_true rfl⟩) (z_pV hI hK hN (z_recv hK hI (zo77 hG) rfl)) rfl rfl hl.1 rfl (lv_room (Nat.le_of_ble_eq_true rfl)) dX12_takesHead_1 ⟨Nat.zero_le _, Nat.zero_le _⟩) hI (fun r_1 u H locs hw hI => ?_)
  obtain ⟨rfl, rfl⟩ := hw
  refine lv_istore_n (lv' := [(2, .int ((zrt x F) (p1 + 1))), (0, .ref (za G 77)), (1, .int (nI c1))]) hx hb dX12_takesHead_4 rfl hl (by decide) rfl (fun ls hl => ?_)
  refine lv_aload_n hx hb dX12_takesHead_5 rfl (lv_at hl 1 rfl) ?_
  refine z_calli (va_runV (As := []) (rest := []) ⟨hx, hb, hml, hown, hts⟩ ((c_X12_nextR l hG x p1 s1 n1 o1 d1 w4 w5 F hfd hF (by omega)) A) (cwV 0 hts gX12_takesHead_X12_next rfl rfl rfl (by decide +kernel) ⟨Nat.le_of_ble_eq_true rfl, Nat.le_of_ble_eq_true rfl⟩) (z_pV hI hK hN (z_recv hK hI (zo77 hG) rfl)) rfl rfl hl.1 rfl (lv_room (Nat.le_of_ble_eq_true rfl)) dX12_takesHead_6 ⟨Nat.zero_le _, Nat.zero_le _⟩) hI (fun r_6 u H locs hw hI => ?_)
  obtain ⟨rfl, rfl⟩ := hw
  by_cases q9_98 : ((zrt x F) p1) = (nI 98)
  · skip
    refine lv_lookup (off := 66) (tgt := 75) hx hb dX12_takesHead_9 (by decide) (by rw [q9_98]; decide) (by decide) ?_
    refine lv_aload_n hx hb dX12_takesHead_75 rfl (lv_at hl 1 rfl) ?_
    refine z_get (C := RX12) (T := TX12) (N := 51) (ci := 12) (v := .ref (za G 90)) hx hb hts hin12 hown hK hI (zo77 hG) rfl 19 (by decide) wF69 (fun _ h9 => h9) rfl dX12_takesHead_76 ?_
    refine lv_iload_n hx hb dX12_takesHead_79 rfl (lv_at hl 2 rfl) ?_
    refine lv_iconst (v := (nI 2)) hx hb dX12_takesHead_80 rfl ?_
    refine z_iast (y := (nI 2)) hx hb hK hI (zo90 hG) c1 rfl (by omega) (by decide) dX12_takesHead_81 (fun H locs hI => ?_)
    rw [zrr_o (i := 90) (by decide) (by decide) (by decide)] at hI
    refine lv_aload_n hx hb dX12_takesHead_82 rfl (lv_at hl 1 rfl) ?_
    refine lv_bipush (v := (nI 9)) hx hb dX12_takesHead_83 rfl ?_
    refine lv_iconst (v := (nI 3)) hx hb dX12_takesHead_85 rfl ?_
    refine z_calli (va_runV (As := [.int (nI 9), .int (nI 3)]) (rest := []) ⟨hx, hb, hml, hown, hts⟩ ((c_X12_takesWord l hG (zsI x 90 c1 (nI 2)) 9 3 p1 s1 n1 F o1 d1 w4 w5 hfd hF (by omega) hlt (by omega)) A) (cwV 2 hts gX12_takesHead_X12_takesWord rfl rfl rfl (by decide +kernel) ⟨Nat.le_of_ble_eq_true rfl, Nat.le_of_ble_eq_true rfl⟩) (z_pV hI hK hN (z_recv hK hI (zo77 hG) rfl)) rfl rfl hl.1 rfl (lv_room (Nat.le_of_ble_eq_true rfl)) dX12_takesHead_86 ⟨Nat.zero_le _, Nat.zero_le _⟩) hI (fun r_86 u H locs hw hI => ?_)
    rw [show zrt (zsI x 90 c1 (nI 2)) F = zrt x F from rfl] at hw
    obtain ⟨rfl, rfl⟩ := hw
    exact z_zret hx hb hr hlocks hI (zb01 _) ((by have hw9 : (zrhw (zrt x F) p1) = nI 2 := (if_pos q9_98); unfold zrH; rw [hw9]; exact ⟨rfl, rfl⟩)) dX12_takesHead_89
  by_cases q9_108 : ((zrt x F) p1) = (nI 108)
  · skip
    refine lv_lookup (off := 27) (tgt := 36) hx hb dX12_takesHead_9 (by decide) (by rw [q9_108]; decide) (by decide) ?_
    refine lv_aload_n hx hb dX12_takesHead_36 rfl (lv_at hl 1 rfl) ?_
    refine z_get (C := RX12) (T := TX12) (N := 51) (ci := 12) (v := .ref (za G 90)) hx hb hts hin12 hown hK hI (zo77 hG) rfl 19 (by decide) wF69 (fun _ h9 => h9) rfl dX12_takesHead_37 ?_
    refine lv_iload_n hx hb dX12_takesHead_40 rfl (lv_at hl 2 rfl) ?_
    refine lv_iload_n hx hb dX12_takesHead_41 rfl (lv_at hl 0 rfl) ?_
    refine lv_bipush (v := (nI 111)) hx hb dX12_takesHead_42 rfl ?_
    refine lv_icmp_ne (tgt := 51) hx hb dX12_takesHead_44 (by decide) (fun c_44 => ?_) (fun c_44 => ?_)
    · skip
      refine lv_iconst (v := (nI 0)) hx hb dX12_takesHead_51 rfl ?_
      refine z_iast (y := (nI 0)) hx hb hK hI (zo90 hG) c1 rfl (by omega) (by decide) dX12_takesHead_52 (fun H locs hI => ?_)
      rw [zrr_o (i := 90) (by decide) (by decide) (by decide)] at hI
      refine lv_iload_n hx hb dX12_takesHead_53 rfl (lv_at hl 0 rfl) ?_
      refine lv_bipush (v := (nI 111)) hx hb dX12_takesHead_54 rfl ?_
      refine lv_icmp_ne (tgt := 68) hx hb dX12_takesHead_56 (by decide) (fun c_56 => ?_) (fun c_56 => ?_)
      · skip
        refine lv_aload_n hx hb dX12_takesHead_68 rfl (lv_at hl 1 rfl) ?_
        refine lv_iconst (v := (nI 0)) hx hb dX12_takesHead_69 rfl ?_
        refine lv_iconst (v := (nI 5)) hx hb dX12_takesHead_70 rfl ?_
        refine z_calli (va_runV (As := [.int (nI 0), .int (nI 5)]) (rest := []) ⟨hx, hb, hml, hown, hts⟩ ((c_X12_takesWord l hG (zsI x 90 c1 (nI 0)) 0 5 p1 s1 n1 F o1 d1 w4 w5 hfd hF (by omega) hlt (by omega)) A) (cwV 2 hts gX12_takesHead_X12_takesWord rfl rfl rfl (by decide +kernel) ⟨Nat.le_of_ble_eq_true rfl, Nat.le_of_ble_eq_true rfl⟩) (z_pV hI hK hN (z_recv hK hI (zo77 hG) rfl)) rfl rfl hl.1 rfl (lv_room (Nat.le_of_ble_eq_true rfl)) dX12_takesHead_71 ⟨Nat.zero_le _, Nat.zero_le _⟩) hI (fun r_71 u H locs hw hI => ?_)
        rw [show zrt (zsI x 90 c1 (nI 0)) F = zrt x F from rfl] at hw
        obtain ⟨rfl, rfl⟩ := hw
        exact z_zret hx hb hr hlocks hI (zb01 _) ((by have hw9 : (zrhw (zrt x F) p1) = nI 0 := ((if_neg (by rw [q9_108]; decide)).trans ((if_pos q9_108).trans (if_neg c_44))); unfold zrH; rw [hw9]; exact ⟨rfl, rfl⟩)) dX12_takesHead_74
      · skip
        exact absurd c_56 c_44
    · skip
      refine lv_iconst (v := (nI 1)) hx hb dX12_takesHead_47 rfl ?_
      refine lv_goto (tgt := 52) hx hb dX12_takesHead_48 (by decide) ?_
      refine z_iast (y := (nI 1)) hx hb hK hI (zo90 hG) c1 rfl (by omega) (by decide) dX12_takesHead_52 (fun H locs hI => ?_)
      rw [zrr_o (i := 90) (by decide) (by decide) (by decide)] at hI
      refine lv_iload_n hx hb dX12_takesHead_53 rfl (lv_at hl 0 rfl) ?_
      refine lv_bipush (v := (nI 111)) hx hb dX12_takesHead_54 rfl ?_
      refine lv_icmp_ne (tgt := 68) hx hb dX12_takesHead_56 (by decide) (fun c_56 => ?_) (fun c_56 => ?_)
      · skip
        exact absurd c_44 c_56
      · skip
        refine lv_aload_n hx hb dX12_takesHead_59 rfl (lv_at hl 1 rfl) ?_
        refine lv_iconst (v := (nI 5)) hx hb dX12_takesHead_60 rfl ?_
        refine lv_iconst (v := (nI 4)) hx hb dX12_takesHead_61 rfl ?_
        refine z_calli (va_runV (As := [.int (nI 5), .int (nI 4)]) (rest := []) ⟨hx, hb, hml, hown, hts⟩ ((c_X12_takesWord l hG (zsI x 90 c1 (nI 1)) 5 4 p1 s1 n1 F o1 d1 w4 w5 hfd hF (by omega) hlt (by omega)) A) (cwV 2 hts gX12_takesHead_X12_takesWord rfl rfl rfl (by decide +kernel) ⟨Nat.le_of_ble_eq_true rfl, Nat.le_of_ble_eq_true rfl⟩) (z_pV hI hK hN (z_recv hK hI (zo77 hG) rfl)) rfl rfl hl.1 rfl (lv_room (Nat.le_of_ble_eq_true rfl)) dX12_takesHead_62 ⟨Nat.zero_le _, Nat.zero_le _⟩) hI (fun r_62 u H locs hw hI => ?_)
        rw [show zrt (zsI x 90 c1 (nI 1)) F = zrt x F from rfl] at hw
        obtain ⟨rfl, rfl⟩ := hw
        refine lv_goto (tgt := 74) hx hb dX12_takesHead_65 (by decide) ?_
        exact z_zret hx hb hr hlocks hI (zb01 _) ((by have hw9 : (zrhw (zrt x F) p1) = nI 1 := ((if_neg (by rw [q9_108]; decide)).trans ((if_pos q9_108).trans (if_pos c_44))); unfold zrH; rw [hw9]; exact ⟨rfl, rfl⟩)) dX12_takesHead_74
  refine lv_lookup (off := 81) (tgt := 90) hx hb dX12_takesHead_9 (by decide) ((lv_osw (k := nI 98) q9_98 rfl).trans ((lv_osw (k := nI 108) q9_108 rfl).trans (rfl))) (by decide) ?_
  refine lv_aload_n hx hb dX12_takesHead_90 rfl (lv_at hl 1 rfl) ?_
  refine z_get (C := RX12) (T := TX12) (N := 51) (ci := 12) (v := .ref (za G 90)) hx hb hts hin12 hown hK hI (zo77 hG) rfl 19 (by decide) wF69 (fun _ h9 => h9) rfl dX12_takesHead_91 ?_
  refine lv_iload_n hx hb dX12_takesHead_94 rfl (lv_at hl 2 rfl) ?_
  refine lv_iconst (v := (nI 3)) hx hb dX12_takesHead_95 rfl ?_
  refine z_iast (y := (nI 3)) hx hb hK hI (zo90 hG) c1 rfl (by omega) (by decide) dX12_takesHead_96 (fun H locs hI => ?_)
  rw [zrr_o (i := 90) (by decide) (by decide) (by decide)] at hI
  refine lv_aload_n hx hb dX12_takesHead_97 rfl (lv_at hl 1 rfl) ?_
  refine lv_bipush (v := (nI 12)) hx hb dX12_takesHead_98 rfl ?_
  refine lv_iconst (v := (nI 4)) hx hb dX12_takesHead_100 rfl ?_
  refine z_calli (va_runV (As := [.int (nI 12), .int (nI 4)]) (rest := []) ⟨hx, hb, hml, hown, hts⟩ ((c_X12_takesWord l hG (zsI x 90 c1 (nI 3)) 12 4 p1 s1 n1 F o1 d1 w4 w5 hfd hF (by omega) hlt (by omega)) A) (cwV 2 hts gX12_takesHead_X12_takesWord rfl rfl rfl (by decide +kernel) ⟨Nat.le_of_ble_eq_true rfl, Nat.le_of_ble_eq_true rfl⟩) (z_pV hI hK hN (z_recv hK hI (zo77 hG) rfl)) rfl rfl hl.1 rfl (lv_room (Nat.le_of_ble_eq_true rfl)) dX12_takesHead_101 ⟨Nat.zero_le _, Nat.zero_le _⟩) hI (fun r_101 u H locs hw hI => ?_)
  rw [show zrt (zsI x 90 c1 (nI 3)) F = zrt x F from rfl] at hw
  obtain ⟨rfl, rfl⟩ := hw
  exact z_zret hx hb hr hlocks hI (zb01 _) ((by have hw9 : (zrhw (zrt x F) p1) = nI 3 := ((if_neg q9_98).trans (if_neg q9_108)); unfold zrH; rw [hw9]; exact ⟨rfl, rfl⟩)) dX12_takesHead_104
