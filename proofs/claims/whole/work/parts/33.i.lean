set_option maxHeartbeats 4000000 in
set_option maxRecDepth 100000 in
theorem c_X6_beginN (l : Launch) {G : zG} (hG : zOK G) (x : zX)   : zMv l yX6_begin wsX6_begin { frames := 0, cells := 0, slots := 0, locals := 0 } G [.ref (za G 11), .null] x (fun (u : zX) => zbg x (fun _ => -1) = u) := by
  intro A
  refine zBody (cc := cX6_begin) (maxL := 3) (ret := none) (by decide) rfl (Nat.le_of_ble_eq_true rfl) ?_
  intro p e s m below meth c hx hb hml hown hts hr hlocks hK hN hI ls hl
  have hown : s.vm.findClass RX6 = some m.cls := hown
  have hl : lv_has ls 3 [(0, .ref (za G 11)), (1, .null)] := hl
  have hin6 : ∀ w ∈ wsX60, w ∈ wsX6_begin := (fun _ h => List.mem_cons_of_mem _ (List.mem_append_right _ (h)))
  have wF96 := hts (.fieldLink RX6 96 "WhoSitsBy$Sittings" "any" "Z") (z_mem 1 rfl)
  have wF100 := hts (.fieldLink RX6 100 "WhoSitsBy$Sittings" "foundBreaks" "I") (z_mem 2 rfl)
  have wF103 := hts (.fieldLink RX6 103 "WhoSitsBy$Sittings" "foundWorth" "I") (z_mem 3 rfl)
  have wF22 := hts (.fieldLink RX6 22 "WhoSitsBy$Sittings" "trial" "[I") (z_mem 4 rfl)
  refine lv_aload_n hx hb dX6_begin_0 rfl (lv_at hl 0 rfl) ?_
  refine lv_iconst (v := (nI 0)) hx hb dX6_begin_1 rfl ?_
  refine z_putI (C := RX6) (T := TX6) (N := 8) (ci := 6) (ty := .boolean) hx hb hts hin6 tyX6 tyX6_ok nmX6 hown hK hI (zo11 hG) rfl 5 (by decide) wF96 (fun _ h9 => h9) rfl (fun _ _ => rfl) (by decide +kernel) rfl rfl (fun _ _ => Nat.le_of_ble_eq_true rfl) dX6_begin_2 (fun H locs hI => ?_)
  refine lv_aload_n hx hb dX6_begin_5 rfl (lv_at hl 0 rfl) ?_
  refine lv_iconst (v := (nI 0)) hx hb dX6_begin_6 rfl ?_
  refine z_putI (C := RX6) (T := TX6) (N := 8) (ci := 6) (ty := .int) hx hb hts hin6 tyX6 tyX6_ok nmX6 hown hK hI (zo11 hG) rfl 6 (by decide) wF100 (fun _ h9 => h9) rfl (fun _ _ => rfl) (by decide +kernel) rfl rfl (fun _ _ => Nat.le_of_ble_eq_true rfl) dX6_begin_7 (fun H locs hI => ?_)
  refine lv_aload_n hx hb dX6_begin_10 rfl (lv_at hl 0 rfl) ?_
  refine lv_iconst (v := (nI 0)) hx hb dX6_begin_11 rfl ?_
  refine z_putI (C := RX6) (T := TX6) (N := 8) (ci := 6) (ty := .int) hx hb hts hin6 tyX6 tyX6_ok nmX6 hown hK hI (zo11 hG) rfl 7 (by decide) wF103 (fun _ h9 => h9) rfl (fun _ _ => rfl) (by decide +kernel) rfl rfl (fun _ _ => Nat.le_of_ble_eq_true rfl) dX6_begin_12 (fun H locs hI => ?_)
  refine lv_iconst (v := (nI 0)) hx hb dX6_begin_15 rfl ?_
  refine lv_istore_n (lv' := [(2, .int (nI 0)), (0, .ref (za G 11)), (1, .null)]) hx hb dX6_begin_16 rfl hl (by decide) rfl (fun ls hl => ?_)
  have L17 : ∀ (f : Nat) (j : Nat) (u : zX), (j ≤ 8) → (zsrI (zsI (zsI (zsI x 11 5 (nI 0)) 11 6 (nI 0)) 11 7 (nI 0)) 15 (zputn (fun _ => -1) (x.1 15) j) = u) → 9 ≤ j + f → ∀ (H : Heap) (locs : List Loc), zI G u A s.heap H locs → ∀ ls : Array Slot, lv_has ls 3 [(0, .ref (za G 11)), (1, .null), (2, .int (nI j))] → W p l e { frames := 0, cells := 0, slots := 0, locals := 0 } s m ([.ref (za G 11), .null] : List Value).toArray below meth c H locs 0 0 (MQ below (va_Qv (fun (u : zX) => zbg x (fun _ => -1) = u) (fun u t => zJ G u A t.heap) A) ([.ref (za G 11), .null] : List Value).toArray s 0 0 A) (F0 m 17 ls []) := by
    intro f
    induction f with
    | zero =>
      intro j u h1 hst hf
      exact absurd hf (by omega)
    | succ f ih =>
      intro j u h1 hst hf H locs hI ls hl
      have ih17 := ih
      refine lv_iload_n hx hb dX6_begin_17 rfl (lv_at hl 2 rfl) ?_
      refine lv_bipush (v := (nI 8)) hx hb dX6_begin_18 rfl ?_
      refine lv_icmp_ge (tgt := 52) hx hb dX6_begin_20 (by decide) (fun c_20 => ?_) (fun c_20 => ?_)
      · skip
        rw [zqG (by omega) (by omega)] at c_20
        exact z_vret hx hb hr hlocks hI ((by rw [← hst, show j = 8 by omega]; rfl)) dX6_begin_52
      · skip
        rw [zqG (by omega) (by omega)] at c_20
        refine lv_aload_n hx hb dX6_begin_23 rfl (lv_at hl 0 rfl) ?_
        refine z_get (C := RX6) (T := TX6) (N := 8) (ci := 6) (v := .ref (za G 15)) hx hb hts hin6 hown hK hI (zo11 hG) rfl 3 (by decide) wF22 (fun _ h9 => h9) rfl dX6_begin_24 ?_
        refine lv_iload_n hx hb dX6_begin_27 rfl (lv_at hl 2 rfl) ?_
        refine lv_aload_nN hx hb dX6_begin_28 rfl (lv_at hl 1 rfl) ?_
        refine lv_ifnullN (tgt := 44) hx hb dX6_begin_29 (by decide) ?_
        refine lv_iconst (v := (-1)) hx hb dX6_begin_44 rfl ?_
        refine z_iast (y := (-1)) hx hb hK hI (zo15 hG) j rfl (by omega) (by decide) dX6_begin_45 (fun H locs hI => ?_)
        refine lv_iinc (v := (nI (j + 1))) (lv' := [(2, .int (nI (j + 1))), (0, .ref (za G 11)), (1, .null)]) hx hb dX6_begin_46 hl (k := 2) rfl (zinc j) (by decide) rfl (fun ls hl => ?_)
        refine lv_goto (tgt := 17) hx hb dX6_begin_49 (by decide) ?_
        exact ih17 (j + 1) (zsI u 15 j (-1)) (by omega) (by subst hst; exact (zput_w (g := fun _ => -1)).symm) (by omega) _ _ hI ls (lv_sub hl [1, 2, 0] rfl)
  exact L17 (9) 0 (zsI (zsI (zsI x 11 5 (nI 0)) 11 6 (nI 0)) 11 7 (nI 0)) (by omega) (by rw [zput_0]; exact zsrI_e) (by omega) _ _ hI ls (lv_sub hl [1, 2, 0] rfl)
set_option maxHeartbeats 4000000 in
set_option maxRecDepth 100000 in
theorem c_X6_place0 (l : Launch) {G : zG} (hG : zOK G) (x : zX) (N q : Nat) (aim : Int32) (hsz : x.1 1 3 = nI N) (hN6 : N ≤ 6) (hq : q + 0 = N) (hrw : zrow (x.1 15)) : zMv l yX6_place wsX6_place { frames := 4, cells := 0, slots := 0, locals := 110 } G [.ref (za G 11), .ref (za G 1), .int aim, .int (nI q)] x (fun (u : zX) => zplc aim 0 q x = u) := by
  intro A
  refine zBody (cc := cX6_place) (maxL := 5) (ret := none) (by decide) rfl (Nat.le_of_ble_eq_true rfl) ?_
  intro p e s m below meth c hx hb hml hown hts hr hlocks hK hN hI ls hl
  have hown : s.vm.findClass RX6 = some m.cls := hown
  have hl : lv_has ls 5 [(0, .ref (za G 11)), (1, .ref (za G 1)), (2, .int aim), (3, .int (nI q))] := hl
  have hin7 : ∀ w ∈ wsX70, w ∈ wsX6_place := (fun _ h => List.mem_cons_of_mem _ (List.mem_append_left _ (List.mem_append_right _ (h))))
  have wF28 := hts (.fieldLink RX6 28 "WhoSitsBy$Standing" "size" "I") (z_mem 1 rfl)
  refine lv_iload_n hx hb dX6_place_0 rfl (lv_at hl 3 rfl) ?_
  refine lv_aload_n hx hb dX6_place_1 rfl (lv_at hl 1 rfl) ?_
  refine z_get (C := RX7) (T := TX7) (N := 7) (ci := 7) (v := .int (nI N)) hx hb hts hin7 hown hK hI (zo1 hG) rfl 3 (by decide) wF28 (fun _ h9 => h9) (congrArg (fun q => some (Value.int q)) hsz) dX6_place_2 ?_
  refine lv_icmp_ge (tgt := 14) hx hb dX6_place_5 (by decide) (fun c_5 => ?_) (fun c_5 => ?_)
  · skip
    rw [zqG (by omega) (by omega)] at c_5
    refine lv_aload_n hx hb dX6_place_14 rfl (lv_at hl 0 rfl) ?_
    refine lv_aload_n hx hb dX6_place_15 rfl (lv_at hl 1 rfl) ?_
    refine lv_iload_n hx hb dX6_place_16 rfl (lv_at hl 2 rfl) ?_
    refine z_calli (va_runV (As := [.ref (za G 1), .int aim]) (rest := []) ⟨hx, hb, hml, hown, hts⟩ ((c_X6_weigh l hG x aim hrw) A) (cwV 2 hts gX6_place_X6_weigh rfl rfl rfl (by decide +kernel) ⟨Nat.le_of_ble_eq_true rfl, Nat.le_of_ble_eq_true rfl⟩) (z_pV hI hK hN (z_recv hK hI (zo11 hG) rfl)) rfl rfl hl.1 rfl (lv_room (Nat.le_of_ble_eq_true rfl)) dX6_place_17 ⟨Nat.zero_le _, Nat.zero_le _⟩) hI (fun r_17 u H locs hw hI => ?_)
    obtain ⟨rfl, rfl⟩ := hw
    refine lv_pop hx hb dX6_place_20 rfl ?_
    exact z_vret hx hb hr hlocks hI (rfl) dX6_place_21
  · skip
    rw [zqG (by omega) (by omega)] at c_5
    exact absurd c_5 (by omega)
set_option maxHeartbeats 4000000 in
set_option maxRecDepth 100000 in
theorem c_X6_place1 (l : Launch) {G : zG} (hG : zOK G) (x : zX) (N q : Nat) (aim : Int32) (hsz : x.1 1 3 = nI N) (hN6 : N ≤ 6) (hq : q + 1 = N) (hrw : zrow (x.1 15)) : zMv l yX6_place wsX6_place { frames := 5, cells := 0, slots := 0, locals := 134 } G [.ref (za G 11), .ref (za G 1), .int aim, .int (nI q)] x (fun (u : zX) => zplc aim 1 q x = u) := by
  intro A
  refine zBody (cc := cX6_place) (maxL := 5) (ret := none) (by decide) rfl (Nat.le_of_ble_eq_true rfl) ?_
  intro p e s m below meth c hx hb hml hown hts hr hlocks hK hN hI ls hl
  have hown : s.vm.findClass RX6 = some m.cls := hown
  have hl : lv_has ls 5 [(0, .ref (za G 11)), (1, .ref (za G 1)), (2, .int aim), (3, .int (nI q))] := hl
  have hin6 : ∀ w ∈ wsX60, w ∈ wsX6_place := (fun _ h => List.mem_cons_of_mem _ (List.mem_append_right _ (h)))
  have hin7 : ∀ w ∈ wsX70, w ∈ wsX6_place := (fun _ h => List.mem_cons_of_mem _ (List.mem_append_left _ (List.mem_append_right _ (h))))
  have wF28 := hts (.fieldLink RX6 28 "WhoSitsBy$Standing" "size" "I") (z_mem 1 rfl)
  have wF22 := hts (.fieldLink RX6 22 "WhoSitsBy$Sittings" "trial" "[I") (z_mem 2 rfl)
  refine lv_iload_n hx hb dX6_place_0 rfl (lv_at hl 3 rfl) ?_
  refine lv_aload_n hx hb dX6_place_1 rfl (lv_at hl 1 rfl) ?_
  refine z_get (C := RX7) (T := TX7) (N := 7) (ci := 7) (v := .int (nI N)) hx hb hts hin7 hown hK hI (zo1 hG) rfl 3 (by decide) wF28 (fun _ h9 => h9) (congrArg (fun q => some (Value.int q)) hsz) dX6_place_2 ?_
  refine lv_icmp_ge (tgt := 14) hx hb dX6_place_5 (by decide) (fun c_5 => ?_) (fun c_5 => ?_)
  · skip
    rw [zqG (by omega) (by omega)] at c_5
    exact absurd c_5 (by omega)
  · skip
    rw [zqG (by omega) (by omega)] at c_5
    refine lv_iload_n hx hb dX6_place_8 rfl (lv_at hl 3 rfl) ?_
    refine lv_bipush (v := (nI 8)) hx hb dX6_place_9 rfl ?_
    refine lv_icmp_lt (tgt := 22) hx hb dX6_place_11 (by decide) (fun c_11 => ?_) (fun c_11 => ?_)
    · skip
      rw [zqL (by omega) (by omega)] at c_11
      refine lv_iconst (v := (nI 0)) hx hb dX6_place_22 rfl ?_
      refine lv_istore (lv' := [(4, .int (nI 0)), (0, .ref (za G 11)), (1, .ref (za G 1)), (2, .int aim), (3, .int (nI q))]) hx hb dX6_place_23 hl (by decide) rfl (fun ls hl => ?_)
      have L25 : ∀ (f : Nat) (t : Nat) (u : zX), (t ≤ 8) → (zplc.zfold8 (fun qq y => if zunl (y.1 15) qq then zsI (zplc aim 0 (q + 1) (zsI y 15 qq (nI q))) 15 qq (-1) else y) t x = u) → (zOnly x u) → 9 ≤ t + f → ∀ (H : Heap) (locs : List Loc), zI G u A s.heap H locs → ∀ ls : Array Slot, lv_has ls 5 [(0, .ref (za G 11)), (1, .ref (za G 1)), (2, .int aim), (3, .int (nI q)), (4, .int (nI t))] → W p l e { frames := 5, cells := 0, slots := 0, locals := 134 } s m ([.ref (za G 11), .ref (za G 1), .int aim, .int (nI q)] : List Value).toArray below meth c H locs 0 0 (MQ below (va_Qv (fun (u : zX) => zplc aim 1 q x = u) (fun u t => zJ G u A t.heap) A) ([.ref (za G 11), .ref (za G 1), .int aim, .int (nI q)] : List Value).toArray s 0 0 A) (F0 m 25 ls []) := by
        intro f
        induction f with
        | zero =>
          intro t u h1 hst ho hf
          exact absurd hf (by omega)
        | succ f ih =>
          intro t u h1 hst ho hf H locs hI ls hl
          have ih25 := ih
          refine lv_iload hx hb dX6_place_25 (lv_at hl 4 rfl) ?_
          refine lv_bipush (v := (nI 8)) hx hb dX6_place_27 rfl ?_
          refine lv_icmp_ge (tgt := 72) hx hb dX6_place_29 (by decide) (fun c_29 => ?_) (fun c_29 => ?_)
          · skip
            rw [zqG (by omega) (by omega)] at c_29
            exact z_vret hx hb hr hlocks hI ((by rw [← hst, show t = 8 by omega]; rfl)) dX6_place_72
          · skip
            rw [zqG (by omega) (by omega)] at c_29
            refine lv_aload_n hx hb dX6_place_32 rfl (lv_at hl 0 rfl) ?_
            refine lv_iload hx hb dX6_place_33 (lv_at hl 4 rfl) ?_
            refine z_calli (va_runV (As := [.int (nI t)]) (rest := []) ⟨hx, hb, hml, hown, hts⟩ ((c_X6_isUnlike l hG u t (by omega)) A) (cwV 1 hts gX6_place_X6_isUnlike rfl rfl rfl (by decide +kernel) ⟨Nat.le_of_ble_eq_true rfl, Nat.le_of_ble_eq_true rfl⟩) (z_pV hI hK hN (z_recv hK hI (zo11 hG) rfl)) rfl rfl hl.1 rfl (lv_room (Nat.le_of_ble_eq_true rfl)) dX6_place_35 ⟨Nat.zero_le _, Nat.zero_le _⟩) hI (fun r_35 u H locs hw hI => ?_)
            obtain ⟨rfl, rfl⟩ := hw
            refine lv_if_eq (tgt := 66) hx hb dX6_place_38 (by decide) (fun c_38 => ?_) (fun c_38 => ?_)
            · skip
              rw [zb_0] at c_38
              refine lv_iinc (v := (nI (t + 1))) (lv' := [(4, .int (nI (t + 1))), (0, .ref (za G 11)), (1, .ref (za G 1)), (2, .int aim), (3, .int (nI q))]) hx hb dX6_place_66 hl (k := 4) rfl (zinc t) (by decide) rfl (fun ls hl => ?_)
              refine lv_goto (tgt := 25) hx hb dX6_place_69 (by decide) ?_
              exact ih25 (t + 1) u (by omega) (by rw [zplc.zfold8, hst]; exact if_neg c_38) ho (by omega) _ _ hI ls (lv_sub hl [1, 2, 3, 4, 0] rfl)
            · skip
              rw [zb_0, Classical.not_not] at c_38
              refine lv_aload_n hx hb dX6_place_41 rfl (lv_at hl 0 rfl) ?_
              refine z_get (C := RX6) (T := TX6) (N := 8) (ci := 6) (v := .ref (za G 15)) hx hb hts hin6 hown hK hI (zo11 hG) rfl 3 (by decide) wF22 (fun _ h9 => h9) rfl dX6_place_42 ?_
              refine lv_iload hx hb dX6_place_45 (lv_at hl 4 rfl) ?_
              refine lv_iload_n hx hb dX6_place_47 rfl (lv_at hl 3 rfl) ?_
              refine z_iast (y := (nI q)) hx hb hK hI (zo15 hG) t rfl (by omega) (by decide) dX6_place_48 (fun H locs hI => ?_)
              refine lv_aload_n hx hb dX6_place_49 rfl (lv_at hl 0 rfl) ?_
              refine lv_aload_n hx hb dX6_place_50 rfl (lv_at hl 1 rfl) ?_
              refine lv_iload_n hx hb dX6_place_51 rfl (lv_at hl 2 rfl) ?_
              refine lv_iload_n hx hb dX6_place_52 rfl (lv_at hl 3 rfl) ?_
              refine lv_iconst (v := (nI 1)) hx hb dX6_place_53 rfl ?_
              refine z_iadd (v := (nI (q + 1))) hx hb (nI_add _ _) dX6_place_54 ?_
              refine z_callv (va_runS (As := [.ref (za G 11), .ref (za G 1), .int aim, .int (nI (q + 1))]) (rest := []) ⟨hx, hb, hml, hown, hts⟩ ((c_X6_place0 l hG (zsI u 15 t (nI q)) N (q + 1) aim (show u.1 1 3 = _ from (congrFun (ho.2 1 (by decide) (by decide)) 3).trans hsz) hN6 (by omega) (zrow_st hrw ho (by omega))) A) (va_cwS 4 hts gX6_place_X6_place rfl rfl rfl (by decide +kernel) ⟨Nat.le_of_ble_eq_true rfl, Nat.le_of_ble_eq_true rfl⟩) (z_pS hI hK hN) rfl rfl hl.1 rfl (lv_room (Nat.le_of_ble_eq_true rfl)) dX6_place_55 ⟨Nat.zero_le _, Nat.zero_le _⟩) hI (fun u H locs hw hI => ?_)
              obtain rfl := hw
              refine lv_aload_n hx hb dX6_place_58 rfl (lv_at hl 0 rfl) ?_
              refine z_get (C := RX6) (T := TX6) (N := 8) (ci := 6) (v := .ref (za G 15)) hx hb hts hin6 hown hK hI (zo11 hG) rfl 3 (by decide) wF22 (fun _ h9 => h9) rfl dX6_place_59 ?_
              refine lv_iload hx hb dX6_place_62 (lv_at hl 4 rfl) ?_
              refine lv_iconst (v := (-1)) hx hb dX6_place_64 rfl ?_
              refine z_iast (y := (-1)) hx hb hK hI (zo15 hG) t rfl (by omega) (by decide) dX6_place_65 (fun H locs hI => ?_)
              refine lv_iinc (v := (nI (t + 1))) (lv' := [(4, .int (nI (t + 1))), (0, .ref (za G 11)), (1, .ref (za G 1)), (2, .int aim), (3, .int (nI q))]) hx hb dX6_place_66 hl (k := 4) rfl (zinc t) (by decide) rfl (fun ls hl => ?_)
              refine lv_goto (tgt := 25) hx hb dX6_place_69 (by decide) ?_
              exact ih25 (t + 1) (zsI (zplc aim 0 (q + 1) (zsI u 15 t (nI q))) 15 t (-1)) (by omega) (by rw [zplc.zfold8, hst]; exact if_pos c_38) (ho.t (zplc_st c_38.1 (zplc_o aim 0 (q + 1) _))) (by omega) _ _ hI ls (lv_sub hl [1, 2, 3, 4, 0] rfl)
      exact L25 (9) 0 x (by omega) rfl zOnly.r (by omega) _ _ hI ls (lv_sub hl [1, 2, 3, 4, 0] rfl)
    · skip
      rw [zqL (by omega) (by omega)] at c_11
      exact absurd c_11 (by omega)
set_option maxHeartbeats 4000000 in
set_option maxRecDepth 100000 in
theorem c_X6_place2 (l : Launch) {G : zG} (hG : zOK G) (x : zX) (N q : Nat) (aim : Int32) (hsz : x.1 1 3 = nI N) (hN6 : N ≤ 6) (hq : q + 2 = N) (hrw : zrow (x.1 15)) : zMv l yX6_place wsX6_place { frames := 6, cells := 0, slots := 0, locals := 158 } G [.ref (za G 11), .ref (za G 1), .int aim, .int (nI q)] x (fun (u : zX) => zplc aim 2 q x = u) := by
  intro A
  refine zBody (cc := cX6_place) (maxL := 5) (ret := none) (by decide) rfl (Nat.le_of_ble_eq_true rfl) ?_
  intro p e s m below meth c hx hb hml hown hts hr hlocks hK hN hI ls hl
  have hown : s.vm.findClass RX6 = some m.cls := hown
  have hl : lv_has ls 5 [(0, .ref (za G 11)), (1, .ref (za G 1)), (2, .int aim), (3, .int (nI q))] := hl
  have hin6 : ∀ w ∈ wsX60, w ∈ wsX6_place := (fun _ h => List.mem_cons_of_mem _ (List.mem_append_right _ (h)))
  have hin7 : ∀ w ∈ wsX70, w ∈ wsX6_place := (fun _ h => List.mem_cons_of_mem _ (List.mem_append_left _ (List.mem_append_right _ (h))))
  have wF28 := hts (.fieldLink RX6 28 "WhoSitsBy$Standing" "size" "I") (z_mem 1 rfl)
  have wF22 := hts (.fieldLink RX6 22 "WhoSitsBy$Sittings" "trial" "[I") (z_mem 2 rfl)
  refine lv_iload_n hx hb dX6_place_0 rfl (lv_at hl 3 rfl) ?_
  refine lv_aload_n hx hb dX6_place_1 rfl (lv_at hl 1 rfl) ?_
  refine z_get (C := RX7) (T := TX7) (N := 7) (ci := 7) (v := .int (nI N)) hx hb hts hin7 hown hK hI (zo1 hG) rfl 3 (by decide) wF28 (fun _ h9 => h9) (congrArg (fun q => some (Value.int q)) hsz) dX6_place_2 ?_
  refine lv_icmp_ge (tgt := 14) hx hb dX6_place_5 (by decide) (fun c_5 => ?_) (fun c_5 => ?_)
  · skip
    rw [zqG (by omega) (by omega)] at c_5
    exact absurd c_5 (by omega)
  · skip
    rw [zqG (by omega) (by omega)] at c_5
    refine lv_iload_n hx hb dX6_place_8 rfl (lv_at hl 3 rfl) ?_
    refine lv_bipush (v := (nI 8)) hx hb dX6_place_9 rfl ?_
    refine lv_icmp_lt (tgt := 22) hx hb dX6_place_11 (by decide) (fun c_11 => ?_) (fun c_11 => ?_)
    · skip
      rw [zqL (by omega) (by omega)] at c_11
      refine lv_iconst (v := (nI 0)) hx hb dX6_place_22 rfl ?_
      refine lv_istore (lv' := [(4, .int (nI 0)), (0, .ref (za G 11)), (1, .ref (za G 1)), (2, .int aim), (3, .int (nI q))]) hx hb dX6_place_23 hl (by decide) rfl (fun ls hl => ?_)
      have L25 : ∀ (f : Nat) (t : Nat) (u : zX), (t ≤ 8) → (zplc.zfold8 (fun qq y => if zunl (y.1 15) qq then zsI (zplc aim 1 (q + 1) (zsI y 15 qq (nI q))) 15 qq (-1) else y) t x = u) → (zOnly x u) → 9 ≤ t + f → ∀ (H : Heap) (locs : List Loc), zI G u A s.heap H locs → ∀ ls : Array Slot, lv_has ls 5 [(0, .ref (za G 11)), (1, .ref (za G 1)), (2, .int aim), (3, .int (nI q)), (4, .int (nI t))] → W p l e { frames := 6, cells := 0, slots := 0, locals := 158 } s m ([.ref (za G 11), .ref (za G 1), .int aim, .int (nI q)] : List Value).toArray below meth c H locs 0 0 (MQ below (va_Qv (fun (u : zX) => zplc aim 2 q x = u) (fun u t => zJ G u A t.heap) A) ([.ref (za G 11), .ref (za G 1), .int aim, .int (nI q)] : List Value).toArray s 0 0 A) (F0 m 25 ls []) := by
        intro f
        induction f with
        | zero =>
          intro t u h1 hst ho hf
          exact absurd hf (by omega)
        | succ f ih =>
          intro t u h1 hst ho hf H locs hI ls hl
          have ih25 := ih
          refine lv_iload hx hb dX6_place_25 (lv_at hl 4 rfl) ?_
          refine lv_bipush (v := (nI 8)) hx hb dX6_place_27 rfl ?_
          refine lv_icmp_ge (tgt := 72) hx hb dX6_place_29 (by decide) (fun c_29 => ?_) (fun c_29 => ?_)
          · skip
            rw [zqG (by omega) (by omega)] at c_29
            exact z_vret hx hb hr hlocks hI ((by rw [← hst, show t = 8 by omega]; rfl)) dX6_place_72
          · skip
            rw [zqG (by omega) (by omega)] at c_29
            refine lv_aload_n hx hb dX6_place_32 rfl (lv_at hl 0 rfl) ?_
            refine lv_iload hx hb dX6_place_33 (lv_at hl 4 rfl) ?_
            refine z_calli (va_runV (As := [.int (nI t)]) (rest := []) ⟨hx, hb, hml, hown, hts⟩ ((c_X6_isUnlike l hG u t (by omega)) A) (cwV 1 hts gX6_place_X6_isUnlike rfl rfl rfl (by decide +kernel) ⟨Nat.le_of_ble_eq_true rfl, Nat.le_of_ble_eq_true rfl⟩) (z_pV hI hK hN (z_recv hK hI (zo11 hG) rfl)) rfl rfl hl.1 rfl (lv_room (Nat.le_of_ble_eq_true rfl)) dX6_place_35 ⟨Nat.zero_le _, Nat.zero_le _⟩) hI (fun r_35 u H locs hw hI => ?_)
            obtain ⟨rfl, rfl⟩ := hw
            refine lv_if_eq (tgt := 66) hx hb dX6_place_38 (by decide) (fun c_38 => ?_) (fun c_38 => ?_)
            · skip
              rw [zb_0] at c_38
              refine lv_iinc (v := (nI (t + 1))) (lv' := [(4, .int (nI (t + 1))), (0, .ref (za G 11)), (1, .ref (za G 1)), (2, .int aim), (3, .int (nI q))]) hx hb dX6_place_66 hl (k := 4) rfl (zinc t) (by decide) rfl (fun ls hl => ?_)
              refine lv_goto (tgt := 25) hx hb dX6_place_69 (by decide) ?_
              exact ih25 (t + 1) u (by omega) (by rw [zplc.zfold8, hst]; exact if_neg c_38) ho (by omega) _ _ hI ls (lv_sub hl [1, 2, 3, 4, 0] rfl)
            · skip
              rw [zb_0, Classical.not_not] at c_38
              refine lv_aload_n hx hb dX6_place_41 rfl (lv_at hl 0 rfl) ?_
              refine z_get (C := RX6) (T := TX6) (N := 8) (ci := 6) (v := .ref (za G 15)) hx hb hts hin6 hown hK hI (zo11 hG) rfl 3 (by decide) wF22 (fun _ h9 => h9) rfl dX6_place_42 ?_
              refine lv_iload hx hb dX6_place_45 (lv_at hl 4 rfl) ?_
              refine lv_iload_n hx hb dX6_place_47 rfl (lv_at hl 3 rfl) ?_
              refine z_iast (y := (nI q)) hx hb hK hI (zo15 hG) t rfl (by omega) (by decide) dX6_place_48 (fun H locs hI => ?_)
              refine lv_aload_n hx hb dX6_place_49 rfl (lv_at hl 0 rfl) ?_
              refine lv_aload_n hx hb dX6_place_50 rfl (lv_at hl 1 rfl) ?_
              refine lv_iload_n hx hb dX6_place_51 rfl (lv_at hl 2 rfl) ?_
              refine lv_iload_n hx hb dX6_place_52 rfl (lv_at hl 3 rfl) ?_
              refine lv_iconst (v := (nI 1)) hx hb dX6_place_53 rfl ?_
              refine z_iadd (v := (nI (q + 1))) hx hb (nI_add _ _) dX6_place_54 ?_
              refine z_callv (va_runS (As := [.ref (za G 11), .ref (za G 1), .int aim, .int (nI (q + 1))]) (rest := []) ⟨hx, hb, hml, hown, hts⟩ ((c_X6_place1 l hG (zsI u 15 t (nI q)) N (q + 1) aim (show u.1 1 3 = _ from (congrFun (ho.2 1 (by decide) (by decide)) 3).trans hsz) hN6 (by omega) (zrow_st hrw ho (by omega))) A) (va_cwS 4 hts gX6_place_X6_place rfl rfl rfl (by decide +kernel) ⟨Nat.le_of_ble_eq_true rfl, Nat.le_of_ble_eq_true rfl⟩) (z_pS hI hK hN) rfl rfl hl.1 rfl (lv_room (Nat.le_of_ble_eq_true rfl)) dX6_place_55 ⟨Nat.zero_le _, Nat.zero_le _⟩) hI (fun u H locs hw hI => ?_)
              obtain rfl := hw
              refine lv_aload_n hx hb dX6_place_58 rfl (lv_at hl 0 rfl) ?_
              refine z_get (C := RX6) (T := TX6) (N := 8) (ci := 6) (v := .ref (za G 15)) hx hb hts hin6 hown hK hI (zo11 hG) rfl 3 (by decide) wF22 (fun _ h9 => h9) rfl dX6_place_59 ?_
              refine lv_iload hx hb dX6_place_62 (lv_at hl 4 rfl) ?_
              refine lv_iconst (v := (-1)) hx hb dX6_place_64 rfl ?_
              refine z_iast (y := (-1)) hx hb hK hI (zo15 hG) t rfl (by omega) (by decide) dX6_place_65 (fun H locs hI => ?_)
              refine lv_iinc (v := (nI (t + 1))) (lv' := [(4, .int (nI (t + 1))), (0, .ref (za G 11)), (1, .ref (za G 1)), (2, .int aim), (3, .int (nI q))]) hx hb dX6_place_66 hl (k := 4) rfl (zinc t) (by decide) rfl (fun ls hl => ?_)
              refine lv_goto (tgt := 25) hx hb dX6_place_69 (by decide) ?_
              exact ih25 (t + 1) (zsI (zplc aim 1 (q + 1) (zsI u 15 t (nI q))) 15 t (-1)) (by omega) (by rw [zplc.zfold8, hst]; exact if_pos c_38) (ho.t (zplc_st c_38.1 (zplc_o aim 1 (q + 1) _))) (by omega) _ _ hI ls (lv_sub hl [1, 2, 3, 4, 0] rfl)
      exact L25 (9) 0 x (by omega) rfl zOnly.r (by omega) _ _ hI ls (lv_sub hl [1, 2, 3, 4, 0] rfl)
    · skip
      rw [zqL (by omega) (by omega)] at c_11
      exact absurd c_11 (by omega)
set_option maxHeartbeats 4000000 in
set_option maxRecDepth 100000 in
theorem c_X6_place3 (l : Launch) {G : zG} (hG : zOK G) (x : zX) (N q : Nat) (aim : Int32) (hsz : x.1 1 3 = nI N) (hN6 : N ≤ 6) (hq : q + 3 = N) (hrw : zrow (x.1 15)) : zMv l yX6_place wsX6_place { frames := 7, cells := 0, slots := 0, locals := 182 } G [.ref (za G 11), .ref (za G 1), .int aim, .int (nI q)] x (fun (u : zX) => zplc aim 3 q x = u) := by
  intro A
  refine zBody (cc := cX6_place) (maxL := 5) (ret := none) (by decide) rfl (Nat.le_of_ble_eq_true rfl) ?_
  intro p e s m below meth c hx hb hml hown hts hr hlocks hK hN hI ls hl
  have hown : s.vm.findClass RX6 = some m.cls := hown
  have hl : lv_has ls 5 [(0, .ref (za G 11)), (1, .ref (za G 1)), (2, .int aim), (3, .int (nI q))] := hl
  have hin6 : ∀ w ∈ wsX60, w ∈ wsX6_place := (fun _ h => List.mem_cons_of_mem _ (List.mem_append_right _ (h)))
  have hin7 : ∀ w ∈ wsX70, w ∈ wsX6_place := (fun _ h => List.mem_cons_of_mem _ (List.mem_append_left _ (List.mem_append_right _ (h))))
  have wF28 := hts (.fieldLink RX6 28 "WhoSitsBy$Standing" "size" "I") (z_mem 1 rfl)
  have wF22 := hts (.fieldLink RX6 22 "WhoSitsBy$Sittings" "trial" "[I") (z_mem 2 rfl)
  refine lv_iload_n hx hb dX6_place_0 rfl (lv_at hl 3 rfl) ?_
  refine lv_aload_n hx hb dX6_place_1 rfl (lv_at hl 1 rfl) ?_
  refine z_get (C := RX7) (T := TX7) (N := 7) (ci := 7) (v := .int (nI N)) hx hb hts hin7 hown hK hI (zo1 hG) rfl 3 (by decide) wF28 (fun _ h9 => h9) (congrArg (fun q => some (Value.int q)) hsz) dX6_place_2 ?_
  refine lv_icmp_ge (tgt := 14) hx hb dX6_place_5 (by decide) (fun c_5 => ?_) (fun c_5 => ?_)
  · skip
    rw [zqG (by omega) (by omega)] at c_5
    exact absurd c_5 (by omega)
  · skip
    rw [zqG (by omega) (by omega)] at c_5
    refine lv_iload_n hx hb dX6_place_8 rfl (lv_at hl 3 rfl) ?_
    refine lv_bipush (v := (nI 8)) hx hb dX6_place_9 rfl ?_
    refine lv_icmp_lt (tgt := 22) hx hb dX6_place_11 (by decide) (fun c_11 => ?_) (fun c_11 => ?_)
    · skip
      rw [zqL (by omega) (by omega)] at c_11
      refine lv_iconst (v := (nI 0)) hx hb dX6_place_22 rfl ?_
      refine lv_istore (lv' := [(4, .int (nI 0)), (0, .ref (za G 11)), (1, .ref (za G 1)), (2, .int aim), (3, .int (nI q))]) hx hb dX6_place_23 hl (by decide) rfl (fun ls hl => ?_)
      have L25 : ∀ (f : Nat) (t : Nat) (u : zX), (t ≤ 8) → (zplc.zfold8 (fun qq y => if zunl (y.1 15) qq then zsI (zplc aim 2 (q + 1) (zsI y 15 qq (nI q))) 15 qq (-1) else y) t x = u) → (zOnly x u) → 9 ≤ t + f → ∀ (H : Heap) (locs : List Loc), zI G u A s.heap H locs → ∀ ls : Array Slot, lv_has ls 5 [(0, .ref (za G 11)), (1, .ref (za G 1)), (2, .int aim), (3, .int (nI q)), (4, .int (nI t))] → W p l e { frames := 7, cells := 0, slots := 0, locals := 182 } s m ([.ref (za G 11), .ref (za G 1), .int aim, .int (nI q)] : List Value).toArray below meth c H locs 0 0 (MQ below (va_Qv (fun (u : zX) => zplc aim 3 q x = u) (fun u t => zJ G u A t.heap) A) ([.ref (za G 11), .ref (za G 1), .int aim, .int (nI q)] : List Value).toArray s 0 0 A) (F0 m 25 ls []) := by
        intro f
        induction f with
        | zero =>
          intro t u h1 hst ho hf
          exact absurd hf (by omega)
        | succ f ih =>
          intro t u h1 hst ho hf H locs hI ls hl
          have ih25 := ih
          refine lv_iload hx hb dX6_place_25 (lv_at hl 4 rfl) ?_
          refine lv_bipush (v := (nI 8)) hx hb dX6_place_27 rfl ?_
          refine lv_icmp_ge (tgt := 72) hx hb dX6_place_29 (by decide) (fun c_29 => ?_) (fun c_29 => ?_)
          · skip
            rw [zqG (by omega) (by omega)] at c_29
            exact z_vret hx hb hr hlocks hI ((by rw [← hst, show t = 8 by omega]; rfl)) dX6_place_72
          · skip
            rw [zqG (by omega) (by omega)] at c_29
            refine lv_aload_n hx hb dX6_place_32 rfl (lv_at hl 0 rfl) ?_
            refine lv_iload hx hb dX6_place_33 (lv_at hl 4 rfl) ?_
            refine z_calli (va_runV (As := [.int (nI t)]) (rest := []) ⟨hx, hb, hml, hown, hts⟩ ((c_X6_isUnlike l hG u t (by omega)) A) (cwV 1 hts gX6_place_X6_isUnlike rfl rfl rfl (by decide +kernel) ⟨Nat.le_of_ble_eq_true rfl, Nat.le_of_ble_eq_true rfl⟩) (z_pV hI hK hN (z_recv hK hI (zo11 hG) rfl)) rfl rfl hl.1 rfl (lv_room (Nat.le_of_ble_eq_true rfl)) dX6_place_35 ⟨Nat.zero_le _, Nat.zero_le _⟩) hI (fun r_35 u H locs hw hI => ?_)
            obtain ⟨rfl, rfl⟩ := hw
            refine lv_if_eq (tgt := 66) hx hb dX6_place_38 (by decide) (fun c_38 => ?_) (fun c_38 => ?_)
            · skip
              rw [zb_0] at c_38
              refine lv_iinc (v := (nI (t + 1))) (lv' := [(4, .int (nI (t + 1))), (0, .ref (za G 11)), (1, .ref (za G 1)), (2, .int aim), (3, .int (nI q))]) hx hb dX6_place_66 hl (k := 4) rfl (zinc t) (by decide) rfl (fun ls hl => ?_)
              refine lv_goto (tgt := 25) hx hb dX6_place_69 (by decide) ?_
              exact ih25 (t + 1) u (by omega) (by rw [zplc.zfold8, hst]; exact if_neg c_38) ho (by omega) _ _ hI ls (lv_sub hl [1, 2, 3, 4, 0] rfl)
            · skip
              rw [zb_0, Classical.not_not] at c_38
              refine lv_aload_n hx hb dX6_place_41 rfl (lv_at hl 0 rfl) ?_
              refine z_get (C := RX6) (T := TX6) (N := 8) (ci := 6) (v := .ref (za G 15)) hx hb hts hin6 hown hK hI (zo11 hG) rfl 3 (by decide) wF22 (fun _ h9 => h9) rfl dX6_place_42 ?_
              refine lv_iload hx hb dX6_place_45 (lv_at hl 4 rfl) ?_
              refine lv_iload_n hx hb dX6_place_47 rfl (lv_at hl 3 rfl) ?_
              refine z_iast (y := (nI q)) hx hb hK hI (zo15 hG) t rfl (by omega) (by decide) dX6_place_48 (fun H locs hI => ?_)
              refine lv_aload_n hx hb dX6_place_49 rfl (lv_at hl 0 rfl) ?_
              refine lv_aload_n hx hb dX6_place_50 rfl (lv_at hl 1 rfl) ?_
              refine lv_iload_n hx hb dX6_place_51 rfl (lv_at hl 2 rfl) ?_
              refine lv_iload_n hx hb dX6_place_52 rfl (lv_at hl 3 rfl) ?_
              refine lv_iconst (v := (nI 1)) hx hb dX6_place_53 rfl ?_
              refine z_iadd (v := (nI (q + 1))) hx hb (nI_add _ _) dX6_place_54 ?_
              refine z_callv (va_runS (As := [.ref (za G 11), .ref (za G 1), .int aim, .int (nI (q + 1))]) (rest := []) ⟨hx, hb, hml, hown, hts⟩ ((c_X6_place2 l hG (zsI u 15 t (nI q)) N (q + 1) aim (show u.1 1 3 = _ from (congrFun (ho.2 1 (by decide) (by decide)) 3).trans hsz) hN6 (by omega) (zrow_st hrw ho (by omega))) A) (va_cwS 4 hts gX6_place_X6_place rfl rfl rfl (by decide +kernel) ⟨Nat.le_of_ble_eq_true rfl, Nat.le_of_ble_eq_true rfl⟩) (z_pS hI hK hN) rfl rfl hl.1 rfl (lv_room (Nat.le_of_ble_eq_true rfl)) dX6_place_55 ⟨Nat.zero_le _, Nat.zero_le _⟩) hI (fun u H locs hw hI => ?_)
              obtain rfl := hw
              refine lv_aload_n hx hb dX6_place_58 rfl (lv_at hl 0 rfl) ?_
              refine z_get (C := RX6) (T := TX6) (N := 8) (ci := 6) (v := .ref (za G 15)) hx hb hts hin6 hown hK hI (zo11 hG) rfl 3 (by decide) wF22 (fun _ h9 => h9) rfl dX6_place_59 ?_
              refine lv_iload hx hb dX6_place_62 (lv_at hl 4 rfl) ?_
              refine lv_iconst (v := (-1)) hx hb dX6_place_64 rfl ?_
              refine z_iast (y := (-1)) hx hb hK hI (zo15 hG) t rfl (by omega) (by decide) dX6_place_65 (fun H locs hI => ?_)
              refine lv_iinc (v := (nI (t + 1))) (lv' := [(4, .int (nI (t + 1))), (0, .ref (za G 11)), (1, .ref (za G 1)), (2, .int aim), (3, .int (nI q))]) hx hb dX6_place_66 hl (k := 4) rfl (zinc t) (by decide) rfl (fun ls hl => ?_)
              refine lv_goto (tgt := 25) hx hb dX6_place_69 (by decide) ?_
              exact ih25 (t + 1) (zsI (zplc aim 2 (q + 1) (zsI u 15 t (nI q))) 15 t (-1)) (by omega) (by rw [zplc.zfold8, hst]; exact if_pos c_38) (ho.t (zplc_st c_38.1 (zplc_o aim 2 (q + 1) _))) (by omega) _ _ hI ls (lv_sub hl [1, 2, 3, 4, 0] rfl)
      exact L25 (9) 0 x (by omega) rfl zOnly.r (by omega) _ _ hI ls (lv_sub hl [1, 2, 3, 4, 0] rfl)
    · skip
      rw [zqL (by omega) (by omega)] at c_11
      exact absurd c_11 (by omega)
set_option maxHeartbeats 4000000 in
set_option maxRecDepth 100000 in
theorem c_X6_place4 (l : Launch) {G : zG} (hG : zOK G) (x : zX) (N q : Nat) (aim : Int32) (hsz : x.1 1 3 = nI N) (hN6 : N ≤ 6) (hq : q + 4 = N) (hrw : zrow (x.1 15)) : zMv l yX6_place wsX6_place { frames := 8, cells := 0, slots := 0, locals := 206 } G [.ref (za G 11), .ref (za G 1), .int aim, .int (nI q)] x (fun (u : zX) => zplc aim 4 q x = u) := by
  intro A
  refine zBody (cc := cX6_place) (maxL := 5) (ret := none) (by decide) rfl (Nat.le_of_ble_eq_true rfl) ?_
  intro p e s m below meth c hx hb hml hown hts hr hlocks hK hN hI ls hl
  have hown : s.vm.findClass RX6 = some m.cls := hown
  have hl : lv_has ls 5 [(0, .ref (za G 11)), (1, .ref (za G 1)), (2, .int aim), (3, .int (nI q))] := hl
  have hin6 : ∀ w ∈ wsX60, w ∈ wsX6_place := (fun _ h => List.mem_cons_of_mem _ (List.mem_append_right _ (h)))
  have hin7 : ∀ w ∈ wsX70, w ∈ wsX6_place := (fun _ h => List.mem_cons_of_mem _ (List.mem_append_left _ (List.mem_append_right _ (h))))
  have wF28 := hts (.fieldLink RX6 28 "WhoSitsBy$Standing" "size" "I") (z_mem 1 rfl)
  have wF22 := hts (.fieldLink RX6 22 "WhoSitsBy$Sittings" "trial" "[I") (z_mem 2 rfl)
  refine lv_iload_n hx hb dX6_place_0 rfl (lv_at hl 3 rfl) ?_
  refine lv_aload_n hx hb dX6_place_1 rfl (lv_at hl 1 rfl) ?_
  refine z_get (C := RX7) (T := TX7) (N := 7) (ci := 7) (v := .int (nI N)) hx hb hts hin7 hown hK hI (zo1 hG) rfl 3 (by decide) wF28 (fun _ h9 => h9) (congrArg (fun q => some (Value.int q)) hsz) dX6_place_2 ?_
  refine lv_icmp_ge (tgt := 14) hx hb dX6_place_5 (by decide) (fun c_5 => ?_) (fun c_5 => ?_)
  · skip
    rw [zqG (by omega) (by omega)] at c_5
    exact absurd c_5 (by omega)
  · skip
    rw [zqG (by omega) (by omega)] at c_5
    refine lv_iload_n hx hb dX6_place_8 rfl (lv_at hl 3 rfl) ?_
    refine lv_bipush (v := (nI 8)) hx hb dX6_place_9 rfl ?_
    refine lv_icmp_lt (tgt := 22) hx hb dX6_place_11 (by decide) (fun c_11 => ?_) (fun c_11 => ?_)
    · skip
      rw [zqL (by omega) (by omega)] at c_11
      refine lv_iconst (v := (nI 0)) hx hb dX6_place_22 rfl ?_
      refine lv_istore (lv' := [(4, .int (nI 0)), (0, .ref (za G 11)), (1, .ref (za G 1)), (2, .int aim), (3, .int (nI q))]) hx hb dX6_place_23 hl (by decide) rfl (fun ls hl => ?_)
      have L25 : ∀ (f : Nat) (t : Nat) (u : zX), (t ≤ 8) → (zplc.zfold8 (fun qq y => if zunl (y.1 15) qq then zsI (zplc aim 3 (q + 1) (zsI y 15 qq (nI q))) 15 qq (-1) else y) t x = u) → (zOnly x u) → 9 ≤ t + f → ∀ (H : Heap) (locs : List Loc), zI G u A s.heap H locs → ∀ ls : Array Slot, lv_has ls 5 [(0, .ref (za G 11)), (1, .ref (za G 1)), (2, .int aim), (3, .int (nI q)), (4, .int (nI t))] → W p l e { frames := 8, cells := 0, slots := 0, locals := 206 } s m ([.ref (za G 11), .ref (za G 1), .int aim, .int (nI q)] : List Value).toArray below meth c H locs 0 0 (MQ below (va_Qv (fun (u : zX) => zplc aim 4 q x = u) (fun u t => zJ G u A t.heap) A) ([.ref (za G 11), .ref (za G 1), .int aim, .int (nI q)] : List Value).toArray s 0 0 A) (F0 m 25 ls []) := by
        intro f
        induction f with
        | zero =>
          intro t u h1 hst ho hf
          exact absurd hf (by omega)
        | succ f ih =>
          intro t u h1 hst ho hf H locs hI ls hl
          have ih25 := ih
          refine lv_iload hx hb dX6_place_25 (lv_at hl 4 rfl) ?_
          refine lv_bipush (v := (nI 8)) hx hb dX6_place_27 rfl ?_
          refine lv_icmp_ge (tgt := 72) hx hb dX6_place_29 (by decide) (fun c_29 => ?_) (fun c_29 => ?_)
          · skip
            rw [zqG (by omega) (by omega)] at c_29
            exact z_vret hx hb hr hlocks hI ((by rw [← hst, show t = 8 by omega]; rfl)) dX6_place_72
          · skip
            rw [zqG (by omega) (by omega)] at c_29
            refine lv_aload_n hx hb dX6_place_32 rfl (lv_at hl 0 rfl) ?_
            refine lv_iload hx hb dX6_place_33 (lv_at hl 4 rfl) ?_
            refine z_calli (va_runV (As := [.int (nI t)]) (rest := []) ⟨hx, hb, hml, hown, hts⟩ ((c_X6_isUnlike l hG u t (by omega)) A) (cwV 1 hts gX6_place_X6_isUnlike rfl rfl rfl (by decide +kernel) ⟨Nat.le_of_ble_eq_true rfl, Nat.le_of_ble_eq_true rfl⟩) (z_pV hI hK hN (z_recv hK hI (zo11 hG) rfl)) rfl rfl hl.1 rfl (lv_room (Nat.le_of_ble_eq_true rfl)) dX6_place_35 ⟨Nat.zero_le _, Nat.zero_le _⟩) hI (fun r_35 u H locs hw hI => ?_)
            obtain ⟨rfl, rfl⟩ := hw
            refine lv_if_eq (tgt := 66) hx hb dX6_place_38 (by decide) (fun c_38 => ?_) (fun c_38 => ?_)
            · skip
              rw [zb_0] at c_38
              refine lv_iinc (v := (nI (t + 1))) (lv' := [(4, .int (nI (t + 1))), (0, .ref (za G 11)), (1, .ref (za G 1)), (2, .int aim), (3, .int (nI q))]) hx hb dX6_place_66 hl (k := 4) rfl (zinc t) (by decide) rfl (fun ls hl => ?_)
              refine lv_goto (tgt := 25) hx hb dX6_place_69 (by decide) ?_
              exact ih25 (t + 1) u (by omega) (by rw [zplc.zfold8, hst]; exact if_neg c_38) ho (by omega) _ _ hI ls (lv_sub hl [1, 2, 3, 4, 0] rfl)
            · skip
              rw [zb_0, Classical.not_not] at c_38
              refine lv_aload_n hx hb dX6_place_41 rfl (lv_at hl 0 rfl) ?_
              refine z_get (C := RX6) (T := TX6) (N := 8) (ci := 6) (v := .ref (za G 15)) hx hb hts hin6 hown hK hI (zo11 hG) rfl 3 (by decide) wF22 (fun _ h9 => h9) rfl dX6_place_42 ?_
              refine lv_iload hx hb dX6_place_45 (lv_at hl 4 rfl) ?_
              refine lv_iload_n hx hb dX6_place_47 rfl (lv_at hl 3 rfl) ?_
              refine z_iast (y := (nI q)) hx hb hK hI (zo15 hG) t rfl (by omega) (by decide) dX6_place_48 (fun H locs hI => ?_)
              refine lv_aload_n hx hb dX6_place_49 rfl (lv_at hl 0 rfl) ?_
              refine lv_aload_n hx hb dX6_place_50 rfl (lv_at hl 1 rfl) ?_
              refine lv_iload_n hx hb dX6_place_51 rfl (lv_at hl 2 rfl) ?_
              refine lv_iload_n hx hb dX6_place_52 rfl (lv_at hl 3 rfl) ?_
              refine lv_iconst (v := (nI 1)) hx hb dX6_place_53 rfl ?_
              refine z_iadd (v := (nI (q + 1))) hx hb (nI_add _ _) dX6_place_54 ?_
              refine z_callv (va_runS (As := [.ref (za G 11), .ref (za G 1), .int aim, .int (nI (q + 1))]) (rest := []) ⟨hx, hb, hml, hown, hts⟩ ((c_X6_place3 l hG (zsI u 15 t (nI q)) N (q + 1) aim (show u.1 1 3 = _ from (congrFun (ho.2 1 (by decide) (by decide)) 3).trans hsz) hN6 (by omega) (zrow_st hrw ho (by omega))) A) (va_cwS 4 hts gX6_place_X6_place rfl rfl rfl (by decide +kernel) ⟨Nat.le_of_ble_eq_true rfl, Nat.le_of_ble_eq_true rfl⟩) (z_pS hI hK hN) rfl rfl hl.1 rfl (lv_room (Nat.le_of_ble_eq_true rfl)) dX6_place_55 ⟨Nat.zero_le _, Nat.zero_le _⟩) hI (fun u H locs hw hI => ?_)
              obtain rfl := hw
              refine lv_aload_n hx hb dX6_place_58 rfl (lv_at hl 0 rfl) ?_
              refine z_get (C := RX6) (T := TX6) (N := 8) (ci := 6) (v := .ref (za G 15)) hx hb hts hin6 hown hK hI (zo11 hG) rfl 3 (by decide) wF22 (fun _ h9 => h9) rfl dX6_place_59 ?_
              refine lv_iload hx hb dX6_place_62 (lv_at hl 4 rfl) ?_
              refine lv_iconst (v := (-1)) hx hb dX6_place_64 rfl ?_
              refine z_iast (y := (-1)) hx hb hK hI (zo15 hG) t rfl (by omega) (by decide) dX6_place_65 (fun H locs hI => ?_)
              refine lv_iinc (v := (nI (t + 1))) (lv' := [(4, .int (nI (t + 1))), (0, .ref (za G 11)), (1, .ref (za G 1)), (2, .int aim), (3, .int (nI q))]) hx hb dX6_place_66 hl (k := 4) rfl (zinc t) (by decide) rfl (fun ls hl => ?_)
              refine lv_goto (tgt := 25) hx hb dX6_place_69 (by decide) ?_
              exact ih25 (t + 1) (zsI (zplc aim 3 (q + 1) (zsI u 15 t (nI q))) 15 t (-1)) (by omega) (by rw [zplc.zfold8, hst]; exact if_pos c_38) (ho.t (zplc_st c_38.1 (zplc_o aim 3 (q + 1) _))) (by omega) _ _ hI ls (lv_sub hl [1, 2, 3, 4, 0] rfl)
      exact L25 (9) 0 x (by omega) rfl zOnly.r (by omega) _ _ hI ls (lv_sub hl [1, 2, 3, 4, 0] rfl)
    · skip
      rw [zqL (by omega) (by omega)] at c_11
      exact absurd c_11 (by omega)
set_option maxHeartbeats 4000000 in
set_option maxRecDepth 100000 in
theorem c_X6_place5 (l : Launch) {G : zG} (hG : zOK G) (x : zX) (N q : Nat) (aim : Int32) (hsz : x.1 1 3 = nI N) (hN6 : N ≤ 6) (hq : q + 5 = N) (hrw : zrow (x.1 15)) : zMv l yX6_place wsX6_place { frames := 9, cells := 0, slots := 0, locals := 230 } G [.ref (za G 11), .ref (za G 1), .int aim, .int (nI q)] x (fun (u : zX) => zplc aim 5 q x = u) := by
  intro A
  refine zBody (cc := cX6_place) (maxL := 5) (ret := none) (by decide) rfl (Nat.le_of_ble_eq_true rfl) ?_
  intro p e s m below meth c hx hb hml hown hts hr hlocks hK hN hI ls hl
  have hown : s.vm.findClass RX6 = some m.cls := hown
  have hl : lv_has ls 5 [(0, .ref (za G 11)), (1, .ref (za G 1)), (2, .int aim), (3, .int (nI q))] := hl
  have hin6 : ∀ w ∈ wsX60, w ∈ wsX6_place := (fun _ h => List.mem_cons_of_mem _ (List.mem_append_right _ (h)))
  have hin7 : ∀ w ∈ wsX70, w ∈ wsX6_place := (fun _ h => List.mem_cons_of_mem _ (List.mem_append_left _ (List.mem_append_right _ (h))))
  have wF28 := hts (.fieldLink RX6 28 "WhoSitsBy$Standing" "size" "I") (z_mem 1 rfl)
  have wF22 := hts (.fieldLink RX6 22 "WhoSitsBy$Sittings" "trial" "[I") (z_mem 2 rfl)
  refine lv_iload_n hx hb dX6_place_0 rfl (lv_at hl 3 rfl) ?_
  refine lv_aload_n hx hb dX6_place_1 rfl (lv_at hl 1 rfl) ?_
  refine z_get (C := RX7) (T := TX7) (N := 7) (ci := 7) (v := .int (nI N)) hx hb hts hin7 hown hK hI (zo1 hG) rfl 3 (by decide) wF28 (fun _ h9 => h9) (congrArg (fun q => some (Value.int q)) hsz) dX6_place_2 ?_
  refine lv_icmp_ge (tgt := 14) hx hb dX6_place_5 (by decide) (fun c_5 => ?_) (fun c_5 => ?_)
  · skip
    rw [zqG (by omega) (by omega)] at c_5
    exact absurd c_5 (by omega)
  · skip
    rw [zqG (by omega) (by omega)] at c_5
    refine lv_iload_n hx hb dX6_place_8 rfl (lv_at hl 3 rfl) ?_
    refine lv_bipush (v := (nI 8)) hx hb dX6_place_9 rfl ?_
    refine lv_icmp_lt (tgt := 22) hx hb dX6_place_11 (by decide) (fun c_11 => ?_) (fun c_11 => ?_)
    · skip
      rw [zqL (by omega) (by omega)] at c_11
      refine lv_iconst (v := (nI 0)) hx hb dX6_place_22 rfl ?_
      refine lv_istore (lv' := [(4, .int (nI 0)), (0, .ref (za G 11)), (1, .ref (za G 1)), (2, .int aim), (3, .int (nI q))]) hx hb dX6_place_23 hl (by decide) rfl (fun ls hl => ?_)
      have L25 : ∀ (f : Nat) (t : Nat) (u : zX), (t ≤ 8) → (zplc.zfold8 (fun qq y => if zunl (y.1 15) qq then zsI (zplc aim 4 (q + 1) (zsI y 15 qq (nI q))) 15 qq (-1) else y) t x = u) → (zOnly x u) → 9 ≤ t + f → ∀ (H : Heap) (locs : List Loc), zI G u A s.heap H locs → ∀ ls : Array Slot, lv_has ls 5 [(0, .ref (za G 11)), (1, .ref (za G 1)), (2, .int aim), (3, .int (nI q)), (4, .int (nI t))] → W p l e { frames := 9, cells := 0, slots := 0, locals := 230 } s m ([.ref (za G 11), .ref (za G 1), .int aim, .int (nI q)] : List Value).toArray below meth c H locs 0 0 (MQ below (va_Qv (fun (u : zX) => zplc aim 5 q x = u) (fun u t => zJ G u A t.heap) A) ([.ref (za G 11), .ref (za G 1), .int aim, .int (nI q)] : List Value).toArray s 0 0 A) (F0 m 25 ls []) := by
        intro f
        induction f with
        | zero =>
          intro t u h1 hst ho hf
          exact absurd hf (by omega)
        | succ f ih =>
          intro t u h1 hst ho hf H locs hI ls hl
          have ih25 := ih
          refine lv_iload hx hb dX6_place_25 (lv_at hl 4 rfl) ?_
          refine lv_bipush (v := (nI 8)) hx hb dX6_place_27 rfl ?_
          refine lv_icmp_ge (tgt := 72) hx hb dX6_place_29 (by decide) (fun c_29 => ?_) (fun c_29 => ?_)
          · skip
            rw [zqG (by omega) (by omega)] at c_29
            exact z_vret hx hb hr hlocks hI ((by rw [← hst, show t = 8 by omega]; rfl)) dX6_place_72
          · skip
            rw [zqG (by omega) (by omega)] at c_29
            refine lv_aload_n hx hb dX6_place_32 rfl (lv_at hl 0 rfl) ?_
            refine lv_iload hx hb dX6_place_33 (lv_at hl 4 rfl) ?_
            refine z_calli (va_runV (As := [.int (nI t)]) (rest := []) ⟨hx, hb, hml, hown, hts⟩ ((c_X6_isUnlike l hG u t (by omega)) A) (cwV 1 hts gX6_place_X6_isUnlike rfl rfl rfl (by decide +kernel) ⟨Nat.le_of_ble_eq_true rfl, Nat.le_of_ble_eq_true rfl⟩) (z_pV hI hK hN (z_recv hK hI (zo11 hG) rfl)) rfl rfl hl.1 rfl (lv_room (Nat.le_of_ble_eq_true rfl)) dX6_place_35 ⟨Nat.zero_le _, Nat.zero_le _⟩) hI (fun r_35 u H locs hw hI => ?_)
            obtain ⟨rfl, rfl⟩ := hw
            refine lv_if_eq (tgt := 66) hx hb dX6_place_38 (by decide) (fun c_38 => ?_) (fun c_38 => ?_)
            · skip
              rw [zb_0] at c_38
              refine lv_iinc (v := (nI (t + 1))) (lv' := [(4, .int (nI (t + 1))), (0, .ref (za G 11)), (1, .ref (za G 1)), (2, .int aim), (3, .int (nI q))]) hx hb dX6_place_66 hl (k := 4) rfl (zinc t) (by decide) rfl (fun ls hl => ?_)
              refine lv_goto (tgt := 25) hx hb dX6_place_69 (by decide) ?_
              exact ih25 (t + 1) u (by omega) (by rw [zplc.zfold8, hst]; exact if_neg c_38) ho (by omega) _ _ hI ls (lv_sub hl [1, 2, 3, 4, 0] rfl)
            · skip
              rw [zb_0, Classical.not_not] at c_38
              refine lv_aload_n hx hb dX6_place_41 rfl (lv_at hl 0 rfl) ?_
              refine z_get (C := RX6) (T := TX6) (N := 8) (ci := 6) (v := .ref (za G 15)) hx hb hts hin6 hown hK hI (zo11 hG) rfl 3 (by decide) wF22 (fun _ h9 => h9) rfl dX6_place_42 ?_
              refine lv_iload hx hb dX6_place_45 (lv_at hl 4 rfl) ?_
              refine lv_iload_n hx hb dX6_place_47 rfl (lv_at hl 3 rfl) ?_
              refine z_iast (y := (nI q)) hx hb hK hI (zo15 hG) t rfl (by omega) (by decide) dX6_place_48 (fun H locs hI => ?_)
              refine lv_aload_n hx hb dX6_place_49 rfl (lv_at hl 0 rfl) ?_
              refine lv_aload_n hx hb dX6_place_50 rfl (lv_at hl 1 rfl) ?_
              refine lv_iload_n hx hb dX6_place_51 rfl (lv_at hl 2 rfl) ?_
              refine lv_iload_n hx hb dX6_place_52 rfl (lv_at hl 3 rfl) ?_
              refine lv_iconst (v := (nI 1)) hx hb dX6_place_53 rfl ?_
              refine z_iadd (v := (nI (q + 1))) hx hb (nI_add _ _) dX6_place_54 ?_
              refine z_callv (va_runS (As := [.ref (za G 11), .ref (za G 1), .int aim, .int (nI (q + 1))]) (rest := []) ⟨hx, hb, hml, hown, hts⟩ ((c_X6_place4 l hG (zsI u 15 t (nI q)) N (q + 1) aim (show u.1 1 3 = _ from (congrFun (ho.2 1 (by decide) (by decide)) 3).trans hsz) hN6 (by omega) (zrow_st hrw ho (by omega))) A) (va_cwS 4 hts gX6_place_X6_place rfl rfl rfl (by decide +kernel) ⟨Nat.le_of_ble_eq_true rfl, Nat.le_of_ble_eq_true rfl⟩) (z_pS hI hK hN) rfl rfl hl.1 rfl (lv_room (Nat.le_of_ble_eq_true rfl)) dX6_place_55 ⟨Nat.zero_le _, Nat.zero_le _⟩) hI (fun u H locs hw hI => ?_)
              obtain rfl := hw
              refine lv_aload_n hx hb dX6_place_58 rfl (lv_at hl 0 rfl) ?_
              refine z_get (C := RX6) (T := TX6) (N := 8) (ci := 6) (v := .ref (za G 15)) hx hb hts hin6 hown hK hI (zo11 hG) rfl 3 (by decide) wF22 (fun _ h9 => h9) rfl dX6_place_59 ?_
              refine lv_iload hx hb dX6_place_62 (lv_at hl 4 rfl) ?_
              refine lv_iconst (v := (-1)) hx hb dX6_place_64 rfl ?_
              refine z_iast (y := (-1)) hx hb hK hI (zo15 hG) t rfl (by omega) (by decide) dX6_place_65 (fun H locs hI => ?_)
              refine lv_iinc (v := (nI (t + 1))) (lv' := [(4, .int (nI (t + 1))), (0, .ref (za G 11)), (1, .ref (za G 1)), (2, .int aim), (3, .int (nI q))]) hx hb dX6_place_66 hl (k := 4) rfl (zinc t) (by decide) rfl (fun ls hl => ?_)
              refine lv_goto (tgt := 25) hx hb dX6_place_69 (by decide) ?_
              exact ih25 (t + 1) (zsI (zplc aim 4 (q + 1) (zsI u 15 t (nI q))) 15 t (-1)) (by omega) (by rw [zplc.zfold8, hst]; exact if_pos c_38) (ho.t (zplc_st c_38.1 (zplc_o aim 4 (q + 1) _))) (by omega) _ _ hI ls (lv_sub hl [1, 2, 3, 4, 0] rfl)
      exact L25 (9) 0 x (by omega) rfl zOnly.r (by omega) _ _ hI ls (lv_sub hl [1, 2, 3, 4, 0] rfl)
    · skip
      rw [zqL (by omega) (by omega)] at c_11
      exact absurd c_11 (by omega)
set_option maxHeartbeats 4000000 in
set_option maxRecDepth 100000 in
theorem c_X6_place6 (l : Launch) {G : zG} (hG : zOK G) (x : zX) (N q : Nat) (aim : Int32) (hsz : x.1 1 3 = nI N) (hN6 : N ≤ 6) (hq : q + 6 = N) (hrw : zrow (x.1 15)) : zMv l yX6_place wsX6_place { frames := 10, cells := 0, slots := 0, locals := 254 } G [.ref (za G 11), .ref (za G 1), .int aim, .int (nI q)] x (fun (u : zX) => zplc aim 6 q x = u) := by
  intro A
  refine zBody (cc := cX6_place) (maxL := 5) (ret := none) (by decide) rfl (Nat.le_of_ble_eq_true rfl) ?_
  intro p e s m below meth c hx hb hml hown hts hr hlocks hK hN hI ls hl
  have hown : s.vm.findClass RX6 = some m.cls := hown
  have hl : lv_has ls 5 [(0, .ref (za G 11)), (1, .ref (za G 1)), (2, .int aim), (3, .int (nI q))] := hl
  have hin6 : ∀ w ∈ wsX60, w ∈ wsX6_place := (fun _ h => List.mem_cons_of_mem _ (List.mem_append_right _ (h)))
  have hin7 : ∀ w ∈ wsX70, w ∈ wsX6_place := (fun _ h => List.mem_cons_of_mem _ (List.mem_append_left _ (List.mem_append_right _ (h))))
  have wF28 := hts (.fieldLink RX6 28 "WhoSitsBy$Standing" "size" "I") (z_mem 1 rfl)
  have wF22 := hts (.fieldLink RX6 22 "WhoSitsBy$Sittings" "trial" "[I") (z_mem 2 rfl)
  refine lv_iload_n hx hb dX6_place_0 rfl (lv_at hl 3 rfl) ?_
  refine lv_aload_n hx hb dX6_place_1 rfl (lv_at hl 1 rfl) ?_
  refine z_get (C := RX7) (T := TX7) (N := 7) (ci := 7) (v := .int (nI N)) hx hb hts hin7 hown hK hI (zo1 hG) rfl 3 (by decide) wF28 (fun _ h9 => h9) (congrArg (fun q => some (Value.int q)) hsz) dX6_place_2 ?_
  refine lv_icmp_ge (tgt := 14) hx hb dX6_place_5 (by decide) (fun c_5 => ?_) (fun c_5 => ?_)
  · skip
    rw [zqG (by omega) (by omega)] at c_5
    exact absurd c_5 (by omega)
  · skip
    rw [zqG (by omega) (by omega)] at c_5
    refine lv_iload_n hx hb dX6_place_8 rfl (lv_at hl 3 rfl) ?_
    refine lv_bipush (v := (nI 8)) hx hb dX6_place_9 rfl ?_
    refine lv_icmp_lt (tgt := 22) hx hb dX6_place_11 (by decide) (fun c_11 => ?_) (fun c_11 => ?_)
    · skip
      rw [zqL (by omega) (by omega)] at c_11
      refine lv_iconst (v := (nI 0)) hx hb dX6_place_22 rfl ?_
      refine lv_istore (lv' := [(4, .int (nI 0)), (0, .ref (za G 11)), (1, .ref (za G 1)), (2, .int aim), (3, .int (nI q))]) hx hb dX6_place_23 hl (by decide) rfl (fun ls hl => ?_)
      have L25 : ∀ (f : Nat) (t : Nat) (u : zX), (t ≤ 8) → (zplc.zfold8 (fun qq y => if zunl (y.1 15) qq then zsI (zplc aim 5 (q + 1) (zsI y 15 qq (nI q))) 15 qq (-1) else y) t x = u) → (zOnly x u) → 9 ≤ t + f → ∀ (H : Heap) (locs : List Loc), zI G u A s.heap H locs → ∀ ls : Array Slot, lv_has ls 5 [(0, .ref (za G 11)), (1, .ref (za G 1)), (2, .int aim), (3, .int (nI q)), (4, .int (nI t))] → W p l e { frames := 10, cells := 0, slots := 0, locals := 254 } s m ([.ref (za G 11), .ref (za G 1), .int aim, .int (nI q)] : List Value).toArray below meth c H locs 0 0 (MQ below (va_Qv (fun (u : zX) => zplc aim 6 q x = u) (fun u t => zJ G u A t.heap) A) ([.ref (za G 11), .ref (za G 1), .int aim, .int (nI q)] : List Value).toArray s 0 0 A) (F0 m 25 ls []) := by
        intro f
        induction f with
        | zero =>
          intro t u h1 hst ho hf
          exact absurd hf (by omega)
        | succ f ih =>
          intro t u h1 hst ho hf H locs hI ls hl
          have ih25 := ih
          refine lv_iload hx hb dX6_place_25 (lv_at hl 4 rfl) ?_
          refine lv_bipush (v := (nI 8)) hx hb dX6_place_27 rfl ?_
          refine lv_icmp_ge (tgt := 72) hx hb dX6_place_29 (by decide) (fun c_29 => ?_) (fun c_29 => ?_)
          · skip
            rw [zqG (by omega) (by omega)] at c_29
            exact z_vret hx hb hr hlocks hI ((by rw [← hst, show t = 8 by omega]; rfl)) dX6_place_72
          · skip
            rw [zqG (by omega) (by omega)] at c_29
            refine lv_aload_n hx hb dX6_place_32 rfl (lv_at hl 0 rfl) ?_
            refine lv_iload hx hb dX6_place_33 (lv_at hl 4 rfl) ?_
            refine z_calli (va_runV (As := [.int (nI t)]) (rest := []) ⟨hx, hb, hml, hown, hts⟩ ((c_X6_isUnlike l hG u t (by omega)) A) (cwV 1 hts gX6_place_X6_isUnlike rfl rfl rfl (by decide +kernel) ⟨Nat.le_of_ble_eq_true rfl, Nat.le_of_ble_eq_true rfl⟩) (z_pV hI hK hN (z_recv hK hI (zo11 hG) rfl)) rfl rfl hl.1 rfl (lv_room (Nat.le_of_ble_eq_true rfl)) dX6_place_35 ⟨Nat.zero_le _, Nat.zero_le _⟩) hI (fun r_35 u H locs hw hI => ?_)
            obtain ⟨rfl, rfl⟩ := hw
            refine lv_if_eq (tgt := 66) hx hb dX6_place_38 (by decide) (fun c_38 => ?_) (fun c_38 => ?_)
            · skip
              rw [zb_0] at c_38
              refine lv_iinc (v := (nI (t + 1))) (lv' := [(4, .int (nI (t + 1))), (0, .ref (za G 11)), (1, .ref (za G 1)), (2, .int aim), (3, .int (nI q))]) hx hb dX6_place_66 hl (k := 4) rfl (zinc t) (by decide) rfl (fun ls hl => ?_)
              refine lv_goto (tgt := 25) hx hb dX6_place_69 (by decide) ?_
              exact ih25 (t + 1) u (by omega) (by rw [zplc.zfold8, hst]; exact if_neg c_38) ho (by omega) _ _ hI ls (lv_sub hl [1, 2, 3, 4, 0] rfl)
            · skip
              rw [zb_0, Classical.not_not] at c_38
              refine lv_aload_n hx hb dX6_place_41 rfl (lv_at hl 0 rfl) ?_
              refine z_get (C := RX6) (T := TX6) (N := 8) (ci := 6) (v := .ref (za G 15)) hx hb hts hin6 hown hK hI (zo11 hG) rfl 3 (by decide) wF22 (fun _ h9 => h9) rfl dX6_place_42 ?_
              refine lv_iload hx hb dX6_place_45 (lv_at hl 4 rfl) ?_
              refine lv_iload_n hx hb dX6_place_47 rfl (lv_at hl 3 rfl) ?_
              refine z_iast (y := (nI q)) hx hb hK hI (zo15 hG) t rfl (by omega) (by decide) dX6_place_48 (fun H locs hI => ?_)
              refine lv_aload_n hx hb dX6_place_49 rfl (lv_at hl 0 rfl) ?_
              refine lv_aload_n hx hb dX6_place_50 rfl (lv_at hl 1 rfl) ?_
              refine lv_iload_n hx hb dX6_place_51 rfl (lv_at hl 2 rfl) ?_
              refine lv_iload_n hx hb dX6_place_52 rfl (lv_at hl 3 rfl) ?_
              refine lv_iconst (v := (nI 1)) hx hb dX6_place_53 rfl ?_
              refine z_iadd (v := (nI (q + 1))) hx hb (nI_add _ _) dX6_place_54 ?_
              refine z_callv (va_runS (As := [.ref (za G 11), .ref (za G 1), .int aim, .int (nI (q + 1))]) (rest := []) ⟨hx, hb, hml, hown, hts⟩ ((c_X6_place5 l hG (zsI u 15 t (nI q)) N (q + 1) aim (show u.1 1 3 = _ from (congrFun (ho.2 1 (by decide) (by decide)) 3).trans hsz) hN6 (by omega) (zrow_st hrw ho (by omega))) A) (va_cwS 4 hts gX6_place_X6_place rfl rfl rfl (by decide +kernel) ⟨Nat.le_of_ble_eq_true rfl, Nat.le_of_ble_eq_true rfl⟩) (z_pS hI hK hN) rfl rfl hl.1 rfl (lv_room (Nat.le_of_ble_eq_true rfl)) dX6_place_55 ⟨Nat.zero_le _, Nat.zero_le _⟩) hI (fun u H locs hw hI => ?_)
              obtain rfl := hw
              refine lv_aload_n hx hb dX6_place_58 rfl (lv_at hl 0 rfl) ?_
              refine z_get (C := RX6) (T := TX6) (N := 8) (ci := 6) (v := .ref (za G 15)) hx hb hts hin6 hown hK hI (zo11 hG) rfl 3 (by decide) wF22 (fun _ h9 => h9) rfl dX6_place_59 ?_
              refine lv_iload hx hb dX6_place_62 (lv_at hl 4 rfl) ?_
              refine lv_iconst (v := (-1)) hx hb dX6_place_64 rfl ?_
              refine z_iast (y := (-1)) hx hb hK hI (zo15 hG) t rfl (by omega) (by decide) dX6_place_65 (fun H locs hI => ?_)
              refine lv_iinc (v := (nI (t + 1))) (lv' := [(4, .int (nI (t + 1))), (0, .ref (za G 11)), (1, .ref (za G 1)), (2, .int aim), (3, .int (nI q))]) hx hb dX6_place_66 hl (k := 4) rfl (zinc t) (by decide) rfl (fun ls hl => ?_)
              refine lv_goto (tgt := 25) hx hb dX6_place_69 (by decide) ?_
              exact ih25 (t + 1) (zsI (zplc aim 5 (q + 1) (zsI u 15 t (nI q))) 15 t (-1)) (by omega) (by rw [zplc.zfold8, hst]; exact if_pos c_38) (ho.t (zplc_st c_38.1 (zplc_o aim 5 (q + 1) _))) (by omega) _ _ hI ls (lv_sub hl [1, 2, 3, 4, 0] rfl)
      exact L25 (9) 0 x (by omega) rfl zOnly.r (by omega) _ _ hI ls (lv_sub hl [1, 2, 3, 4, 0] rfl)
    · skip
      rw [zqL (by omega) (by omega)] at c_11
      exact absurd c_11 (by omega)
set_option maxHeartbeats 4000000 in
set_option maxRecDepth 100000 in
theorem c_X6_search (l : Launch) {G : zG} (hG : zOK G) (x : zX) (N : Nat) (aim : Int32) (h8 : N ≤ 8) (hsz : x.1 1 3 = nI N) : zMv l yX6_search wsX6_search { frames := 11, cells := 0, slots := 0, locals := 278 } G [.ref (za G 11), .ref (za G 1), .int aim] x (fun (u : zX) => (if 6 < N then (zbg x (fun _ => -1)) else zplc aim N 0 (zbg x (fun _ => -1))) = u) := by
  intro A
  refine zBody (cc := cX6_search) (maxL := 3) (ret := none) (by decide) rfl (Nat.le_of_ble_eq_true rfl) ?_
  intro p e s m below meth c hx hb hml hown hts hr hlocks hK hN hI ls hl
  have hown : s.vm.findClass RX6 = some m.cls := hown
  have hl : lv_has ls 3 [(0, .ref (za G 11)), (1, .ref (za G 1)), (2, .int aim)] := hl
  have hin7 : ∀ w ∈ wsX70, w ∈ wsX6_search := (fun _ h => List.mem_cons_of_mem _ (List.mem_append_left _ (List.mem_append_right _ (h))))
  have wF28 := hts (.fieldLink RX6 28 "WhoSitsBy$Standing" "size" "I") (z_mem 1 rfl)
  refine lv_aload_n hx hb dX6_search_0 rfl (lv_at hl 0 rfl) ?_
  refine lv_null hx hb dX6_search_1 ?_
  refine z_callv (va_runV (As := [.null]) (rest := []) ⟨hx, hb, hml, hown, hts⟩ ((c_X6_beginN l hG x) A) (cwV 1 hts gX6_search_X6_begin rfl rfl rfl (by decide +kernel) ⟨Nat.le_of_ble_eq_true rfl, Nat.le_of_ble_eq_true rfl⟩) (z_pV hI hK hN (z_recv hK hI (zo11 hG) rfl)) rfl rfl hl.1 rfl (lv_room (Nat.le_of_ble_eq_true rfl)) dX6_search_2 ⟨Nat.zero_le _, Nat.zero_le _⟩) hI (fun u H locs hw hI => ?_)
  obtain rfl := hw
  refine lv_aload_n hx hb dX6_search_5 rfl (lv_at hl 1 rfl) ?_
  refine z_get (C := RX7) (T := TX7) (N := 7) (ci := 7) (v := .int (nI N)) hx hb hts hin7 hown hK hI (zo1 hG) rfl 3 (by decide) wF28 (fun _ h9 => h9) (congrArg (fun q => some (Value.int q)) hsz) dX6_search_6 ?_
  refine lv_bipush (v := (nI 6)) hx hb dX6_search_9 rfl ?_
  refine lv_icmp_gt (tgt := 21) hx hb dX6_search_11 (by decide) (fun c_11 => ?_) (fun c_11 => ?_)
  · skip
    rw [zqL (by omega) (by omega)] at c_11
    exact z_vret hx hb hr hlocks hI (if_pos (by omega)) dX6_search_21
  · skip
    rw [zqL (by omega) (by omega)] at c_11
    rcases (show N = 0 ∨ N = 1 ∨ N = 2 ∨ N = 3 ∨ N = 4 ∨ N = 5 ∨ N = 6 by omega) with rfl | rfl | rfl | rfl | rfl | rfl | rfl
    · skip
      refine lv_aload_n hx hb dX6_search_14 rfl (lv_at hl 0 rfl) ?_
      refine lv_aload_n hx hb dX6_search_15 rfl (lv_at hl 1 rfl) ?_
      refine lv_iload_n hx hb dX6_search_16 rfl (lv_at hl 2 rfl) ?_
      refine lv_iconst (v := (nI 0)) hx hb dX6_search_17 rfl ?_
      refine z_callv (va_runS (As := [.ref (za G 11), .ref (za G 1), .int aim, .int (nI 0)]) (rest := []) ⟨hx, hb, hml, hown, hts⟩ ((c_X6_place0 l hG (zbg x (fun _ => -1)) 0 0 aim hsz (by omega) (by omega) (zrow_g zrow_n)) A) (va_cwS 4 hts gX6_search_X6_place rfl rfl rfl (by decide +kernel) ⟨Nat.le_of_ble_eq_true rfl, Nat.le_of_ble_eq_true rfl⟩) (z_pS hI hK hN) rfl rfl hl.1 rfl (lv_room (Nat.le_of_ble_eq_true rfl)) dX6_search_18 ⟨Nat.zero_le _, Nat.zero_le _⟩) hI (fun u H locs hw hI => ?_)
      obtain rfl := hw
      exact z_vret hx hb hr hlocks hI (if_neg (by omega)) dX6_search_21
    · skip
      refine lv_aload_n hx hb dX6_search_14 rfl (lv_at hl 0 rfl) ?_
      refine lv_aload_n hx hb dX6_search_15 rfl (lv_at hl 1 rfl) ?_
      refine lv_iload_n hx hb dX6_search_16 rfl (lv_at hl 2 rfl) ?_
      refine lv_iconst (v := (nI 0)) hx hb dX6_search_17 rfl ?_
      refine z_callv (va_runS (As := [.ref (za G 11), .ref (za G 1), .int aim, .int (nI 0)]) (rest := []) ⟨hx, hb, hml, hown, hts⟩ ((c_X6_place1 l hG (zbg x (fun _ => -1)) 1 0 aim hsz (by omega) (by omega) (zrow_g zrow_n)) A) (va_cwS 4 hts gX6_search_X6_place rfl rfl rfl (by decide +kernel) ⟨Nat.le_of_ble_eq_true rfl, Nat.le_of_ble_eq_true rfl⟩) (z_pS hI hK hN) rfl rfl hl.1 rfl (lv_room (Nat.le_of_ble_eq_true rfl)) dX6_search_18 ⟨Nat.zero_le _, Nat.zero_le _⟩) hI (fun u H locs hw hI => ?_)
      obtain rfl := hw
      exact z_vret hx hb hr hlocks hI (if_neg (by omega)) dX6_search_21
    · skip
      refine lv_aload_n hx hb dX6_search_14 rfl (lv_at hl 0 rfl) ?_
      refine lv_aload_n hx hb dX6_search_15 rfl (lv_at hl 1 rfl) ?_
      refine lv_iload_n hx hb dX6_search_16 rfl (lv_at hl 2 rfl) ?_
      refine lv_iconst (v := (nI 0)) hx hb dX6_search_17 rfl ?_
      refine z_callv (va_runS (As := [.ref (za G 11), .ref (za G 1), .int aim, .int (nI 0)]) (rest := []) ⟨hx, hb, hml, hown, hts⟩ ((c_X6_place2 l hG (zbg x (fun _ => -1)) 2 0 aim hsz (by omega) (by omega) (zrow_g zrow_n)) A) (va_cwS 4 hts gX6_search_X6_place rfl rfl rfl (by decide +kernel) ⟨Nat.le_of_ble_eq_true rfl, Nat.le_of_ble_eq_true rfl⟩) (z_pS hI hK hN) rfl rfl hl.1 rfl (lv_room (Nat.le_of_ble_eq_true rfl)) dX6_search_18 ⟨Nat.zero_le _, Nat.zero_le _⟩) hI (fun u H locs hw hI => ?_)
      obtain rfl := hw
      exact z_vret hx hb hr hlocks hI (if_neg (by omega)) dX6_search_21
    · skip
      refine lv_aload_n hx hb dX6_search_14 rfl (lv_at hl 0 rfl) ?_
      refine lv_aload_n hx hb dX6_search_15 rfl (lv_at hl 1 rfl) ?_
      refine lv_iload_n hx hb dX6_search_16 rfl (lv_at hl 2 rfl) ?_
      refine lv_iconst (v := (nI 0)) hx hb dX6_search_17 rfl ?_
      refine z_callv (va_runS (As := [.ref (za G 11), .ref (za G 1), .int aim, .int (nI 0)]) (rest := []) ⟨hx, hb, hml, hown, hts⟩ ((c_X6_place3 l hG (zbg x (fun _ => -1)) 3 0 aim hsz (by omega) (by omega) (zrow_g zrow_n)) A) (va_cwS 4 hts gX6_search_X6_place rfl rfl rfl (by decide +kernel) ⟨Nat.le_of_ble_eq_true rfl, Nat.le_of_ble_eq_true rfl⟩) (z_pS hI hK hN) rfl rfl hl.1 rfl (lv_room (Nat.le_of_ble_eq_true rfl)) dX6_search_18 ⟨Nat.zero_le _, Nat.zero_le _⟩) hI (fun u H locs hw hI => ?_)
      obtain rfl := hw
      exact z_vret hx hb hr hlocks hI (if_neg (by omega)) dX6_search_21
    · skip
      refine lv_aload_n hx hb dX6_search_14 rfl (lv_at hl 0 rfl) ?_
      refine lv_aload_n hx hb dX6_search_15 rfl (lv_at hl 1 rfl) ?_
      refine lv_iload_n hx hb dX6_search_16 rfl (lv_at hl 2 rfl) ?_
      refine lv_iconst (v := (nI 0)) hx hb dX6_search_17 rfl ?_
      refine z_callv (va_runS (As := [.ref (za G 11), .ref (za G 1), .int aim, .int (nI 0)]) (rest := []) ⟨hx, hb, hml, hown, hts⟩ ((c_X6_place4 l hG (zbg x (fun _ => -1)) 4 0 aim hsz (by omega) (by omega) (zrow_g zrow_n)) A) (va_cwS 4 hts gX6_search_X6_place rfl rfl rfl (by decide +kernel) ⟨Nat.le_of_ble_eq_true rfl, Nat.le_of_ble_eq_true rfl⟩) (z_pS hI hK hN) rfl rfl hl.1 rfl (lv_room (Nat.le_of_ble_eq_true rfl)) dX6_search_18 ⟨Nat.zero_le _, Nat.zero_le _⟩) hI (fun u H locs hw hI => ?_)
      obtain rfl := hw
      exact z_vret hx hb hr hlocks hI (if_neg (by omega)) dX6_search_21
    · skip
      refine lv_aload_n hx hb dX6_search_14 rfl (lv_at hl 0 rfl) ?_
      refine lv_aload_n hx hb dX6_search_15 rfl (lv_at hl 1 rfl) ?_
      refine lv_iload_n hx hb dX6_search_16 rfl (lv_at hl 2 rfl) ?_
      refine lv_iconst (v := (nI 0)) hx hb dX6_search_17 rfl ?_
      refine z_callv (va_runS (As := [.ref (za G 11), .ref (za G 1), .int aim, .int (nI 0)]) (rest := []) ⟨hx, hb, hml, hown, hts⟩ ((c_X6_place5 l hG (zbg x (fun _ => -1)) 5 0 aim hsz (by omega) (by omega) (zrow_g zrow_n)) A) (va_cwS 4 hts gX6_search_X6_place rfl rfl rfl (by decide +kernel) ⟨Nat.le_of_ble_eq_true rfl, Nat.le_of_ble_eq_true rfl⟩) (z_pS hI hK hN) rfl rfl hl.1 rfl (lv_room (Nat.le_of_ble_eq_true rfl)) dX6_search_18 ⟨Nat.zero_le _, Nat.zero_le _⟩) hI (fun u H locs hw hI => ?_)
      obtain rfl := hw
      exact z_vret hx hb hr hlocks hI (if_neg (by omega)) dX6_search_21
    · skip
      refine lv_aload_n hx hb dX6_search_14 rfl (lv_at hl 0 rfl) ?_
      refine lv_aload_n hx hb dX6_search_15 rfl (lv_at hl 1 rfl) ?_
      refine lv_iload_n hx hb dX6_search_16 rfl (lv_at hl 2 rfl) ?_
      refine lv_iconst (v := (nI 0)) hx hb dX6_search_17 rfl ?_
      refine z_callv (va_runS (As := [.ref (za G 11), .ref (za G 1), .int aim, .int (nI 0)]) (rest := []) ⟨hx, hb, hml, hown, hts⟩ ((c_X6_place6 l hG (zbg x (fun _ => -1)) 6 0 aim hsz (by omega) (by omega) (zrow_g zrow_n)) A) (va_cwS 4 hts gX6_search_X6_place rfl rfl rfl (by decide +kernel) ⟨Nat.le_of_ble_eq_true rfl, Nat.le_of_ble_eq_true rfl⟩) (z_pS hI hK hN) rfl rfl hl.1 rfl (lv_room (Nat.le_of_ble_eq_true rfl)) dX6_search_18 ⟨Nat.zero_le _, Nat.zero_le _⟩) hI (fun u H locs hw hI => ?_)
      obtain rfl := hw
      exact z_vret hx hb hr hlocks hI (if_neg (by omega)) dX6_search_21
set_option maxHeartbeats 4000000 in
set_option maxRecDepth 100000 in
theorem c_X6_beginS (l : Launch) {G : zG} (hG : zOK G) (x : zX)   : zMv l yX6_begin wsX6_begin { frames := 0, cells := 0, slots := 0, locals := 0 } G [.ref (za G 11), .ref (za G 4)] x (fun (u : zX) => zbg x (x.1 4) = u) := by
  intro A
  refine zBody (cc := cX6_begin) (maxL := 3) (ret := none) (by decide) rfl (Nat.le_of_ble_eq_true rfl) ?_
  intro p e s m below meth c hx hb hml hown hts hr hlocks hK hN hI ls hl
  have hown : s.vm.findClass RX6 = some m.cls := hown
  have hl : lv_has ls 3 [(0, .ref (za G 11)), (1, .ref (za G 4))] := hl
  have hin6 : ∀ w ∈ wsX60, w ∈ wsX6_begin := (fun _ h => List.mem_cons_of_mem _ (List.mem_append_right _ (h)))
  have wF96 := hts (.fieldLink RX6 96 "WhoSitsBy$Sittings" "any" "Z") (z_mem 1 rfl)
  have wF100 := hts (.fieldLink RX6 100 "WhoSitsBy$Sittings" "foundBreaks" "I") (z_mem 2 rfl)
  have wF103 := hts (.fieldLink RX6 103 "WhoSitsBy$Sittings" "foundWorth" "I") (z_mem 3 rfl)
  have wF22 := hts (.fieldLink RX6 22 "WhoSitsBy$Sittings" "trial" "[I") (z_mem 4 rfl)
  refine lv_aload_n hx hb dX6_begin_0 rfl (lv_at hl 0 rfl) ?_
  refine lv_iconst (v := (nI 0)) hx hb dX6_begin_1 rfl ?_
  refine z_putI (C := RX6) (T := TX6) (N := 8) (ci := 6) (ty := .boolean) hx hb hts hin6 tyX6 tyX6_ok nmX6 hown hK hI (zo11 hG) rfl 5 (by decide) wF96 (fun _ h9 => h9) rfl (fun _ _ => rfl) (by decide +kernel) rfl rfl (fun _ _ => Nat.le_of_ble_eq_true rfl) dX6_begin_2 (fun H locs hI => ?_)
  refine lv_aload_n hx hb dX6_begin_5 rfl (lv_at hl 0 rfl) ?_
  refine lv_iconst (v := (nI 0)) hx hb dX6_begin_6 rfl ?_
  refine z_putI (C := RX6) (T := TX6) (N := 8) (ci := 6) (ty := .int) hx hb hts hin6 tyX6 tyX6_ok nmX6 hown hK hI (zo11 hG) rfl 6 (by decide) wF100 (fun _ h9 => h9) rfl (fun _ _ => rfl) (by decide +kernel) rfl rfl (fun _ _ => Nat.le_of_ble_eq_true rfl) dX6_begin_7 (fun H locs hI => ?_)
  refine lv_aload_n hx hb dX6_begin_10 rfl (lv_at hl 0 rfl) ?_
  refine lv_iconst (v := (nI 0)) hx hb dX6_begin_11 rfl ?_
  refine z_putI (C := RX6) (T := TX6) (N := 8) (ci := 6) (ty := .int) hx hb hts hin6 tyX6 tyX6_ok nmX6 hown hK hI (zo11 hG) rfl 7 (by decide) wF103 (fun _ h9 => h9) rfl (fun _ _ => rfl) (by decide +kernel) rfl rfl (fun _ _ => Nat.le_of_ble_eq_true rfl) dX6_begin_12 (fun H locs hI => ?_)
  refine lv_iconst (v := (nI 0)) hx hb dX6_begin_15 rfl ?_
  refine lv_istore_n (lv' := [(2, .int (nI 0)), (0, .ref (za G 11)), (1, .ref (za G 4))]) hx hb dX6_begin_16 rfl hl (by decide) rfl (fun ls hl => ?_)
  have L17 : ∀ (f : Nat) (j : Nat) (u : zX), (j ≤ 8) → (zsrI (zsI (zsI (zsI x 11 5 (nI 0)) 11 6 (nI 0)) 11 7 (nI 0)) 15 (zputn (x.1 4) (x.1 15) j) = u) → 9 ≤ j + f → ∀ (H : Heap) (locs : List Loc), zI G u A s.heap H locs → ∀ ls : Array Slot, lv_has ls 3 [(0, .ref (za G 11)), (1, .ref (za G 4)), (2, .int (nI j))] → W p l e { frames := 0, cells := 0, slots := 0, locals := 0 } s m ([.ref (za G 11), .ref (za G 4)] : List Value).toArray below meth c H locs 0 0 (MQ below (va_Qv (fun (u : zX) => zbg x (x.1 4) = u) (fun u t => zJ G u A t.heap) A) ([.ref (za G 11), .ref (za G 4)] : List Value).toArray s 0 0 A) (F0 m 17 ls []) := by
    intro f
    induction f with
    | zero =>
      intro j u h1 hst hf
      exact absurd hf (by omega)
    | succ f ih =>
      intro j u h1 hst hf H locs hI ls hl
      have ih17 := ih
      refine lv_iload_n hx hb dX6_begin_17 rfl (lv_at hl 2 rfl) ?_
      refine lv_bipush (v := (nI 8)) hx hb dX6_begin_18 rfl ?_
      refine lv_icmp_ge (tgt := 52) hx hb dX6_begin_20 (by decide) (fun c_20 => ?_) (fun c_20 => ?_)
      · skip
        rw [zqG (by omega) (by omega)] at c_20
        exact z_vret hx hb hr hlocks hI ((by rw [← hst, show j = 8 by omega]; rfl)) dX6_begin_52
      · skip
        rw [zqG (by omega) (by omega)] at c_20
        refine lv_aload_n hx hb dX6_begin_23 rfl (lv_at hl 0 rfl) ?_
        refine z_get (C := RX6) (T := TX6) (N := 8) (ci := 6) (v := .ref (za G 15)) hx hb hts hin6 hown hK hI (zo11 hG) rfl 3 (by decide) wF22 (fun _ h9 => h9) rfl dX6_begin_24 ?_
        refine lv_iload_n hx hb dX6_begin_27 rfl (lv_at hl 2 rfl) ?_
        refine lv_aload_n hx hb dX6_begin_28 rfl (lv_at hl 1 rfl) ?_
        refine lv_ifnull hx hb dX6_begin_29 ?_
        refine lv_iload_n hx hb dX6_begin_32 rfl (lv_at hl 2 rfl) ?_
        refine lv_aload_n hx hb dX6_begin_33 rfl (lv_at hl 1 rfl) ?_
        refine z_alen (v := nI 8) hx hb hK hI 0 (zo4 hG).1 ((zo4 hG).2 _) rfl rfl dX6_begin_34 ?_
        refine lv_icmp_ge (tgt := 44) hx hb dX6_begin_35 (by decide) (fun c_35 => ?_) (fun c_35 => ?_)
        · skip
          rw [zqG (by omega) (by omega)] at c_35
          exact absurd c_35 (by omega)
        · skip
          rw [zqG (by omega) (by omega)] at c_35
          refine lv_aload_n hx hb dX6_begin_38 rfl (lv_at hl 1 rfl) ?_
          refine lv_iload_n hx hb dX6_begin_39 rfl (lv_at hl 2 rfl) ?_
          refine z_iald (v := (x.1 4 j)) hx hb hK hI (zo4 hG) j rfl (by omega) (by decide) (by rw [← hst]; rfl) dX6_begin_40 ?_
          refine lv_goto (tgt := 45) hx hb dX6_begin_41 (by decide) ?_
          refine z_iast (y := (x.1 4 j)) hx hb hK hI (zo15 hG) j rfl (by omega) (by decide) dX6_begin_45 (fun H locs hI => ?_)
          refine lv_iinc (v := (nI (j + 1))) (lv' := [(2, .int (nI (j + 1))), (0, .ref (za G 11)), (1, .ref (za G 4))]) hx hb dX6_begin_46 hl (k := 2) rfl (zinc j) (by decide) rfl (fun ls hl => ?_)
          refine lv_goto (tgt := 17) hx hb dX6_begin_49 (by decide) ?_
          exact ih17 (j + 1) (zsI u 15 j (x.1 4 j)) (by omega) (by subst hst; exact (zput_w (g := x.1 4)).symm) (by omega) _ _ hI ls (lv_sub hl [1, 2, 0] rfl)
  exact L17 (9) 0 (zsI (zsI (zsI x 11 5 (nI 0)) 11 6 (nI 0)) 11 7 (nI 0)) (by omega) (by rw [zput_0]; exact zsrI_e) (by omega) _ _ hI ls (lv_sub hl [1, 2, 0] rfl)
set_option maxHeartbeats 4000000 in
set_option maxRecDepth 100000 in
theorem c_X6_bestExchange (l : Launch) {G : zG} (hG : zOK G) (x : zX)  (hrw : zrow (x.1 4)) : zMi l yX6_bestExchange wsX6_bestExchange { frames := 4, cells := 0, slots := 0, locals := 110 } G [.ref (za G 11), .ref (za G 1)] x (fun (r : Int32) (u : zX) => zxout 8 ((zweigh (zbg x (x.1 4)) (nI 2)), -5) = (u, r)) := by
  intro A
  refine zBody (cc := cX6_bestExchange) (maxL := 5) (ret := (some .int)) (by decide) rfl (Nat.le_of_ble_eq_true rfl) ?_
  intro p e s m below meth c hx hb hml hown hts hr hlocks hK hN hI ls hl
  have hown : s.vm.findClass RX6 = some m.cls := hown
  have hl : lv_has ls 5 [(0, .ref (za G 11)), (1, .ref (za G 1))] := hl
  have hin6 : ∀ w ∈ wsX60, w ∈ wsX6_bestExchange := (fun _ h => List.mem_cons_of_mem _ (List.mem_append_right _ (h)))
  have hin7 : ∀ w ∈ wsX70, w ∈ wsX6_bestExchange := (fun _ h => List.mem_cons_of_mem _ (List.mem_append_left _ (List.mem_append_right _ (h))))
  have wF77 := hts (.fieldLink RX6 77 "WhoSitsBy$Standing" "sitters" "[I") (z_mem 1 rfl)
  have wF22 := hts (.fieldLink RX6 22 "WhoSitsBy$Sittings" "trial" "[I") (z_mem 2 rfl)
  refine lv_aload_n hx hb dX6_bestExchange_0 rfl (lv_at hl 0 rfl) ?_
  refine lv_aload_n hx hb dX6_bestExchange_1 rfl (lv_at hl 1 rfl) ?_
  refine z_get (C := RX7) (T := TX7) (N := 7) (ci := 7) (v := .ref (za G 4)) hx hb hts hin7 hown hK hI (zo1 hG) rfl 1 (by decide) wF77 (fun _ h9 => h9) rfl dX6_bestExchange_2 ?_
  refine z_callv (va_runV (As := [.ref (za G 4)]) (rest := []) ⟨hx, hb, hml, hown, hts⟩ ((c_X6_beginS l hG x) A) (cwV 1 hts gX6_bestExchange_X6_begin rfl rfl rfl (by decide +kernel) ⟨Nat.le_of_ble_eq_true rfl, Nat.le_of_ble_eq_true rfl⟩) (z_pV hI hK hN (z_recv hK hI (zo11 hG) rfl)) rfl rfl hl.1 rfl (lv_room (Nat.le_of_ble_eq_true rfl)) dX6_bestExchange_5 ⟨Nat.zero_le _, Nat.zero_le _⟩) hI (fun u H locs hw hI => ?_)
  obtain rfl := hw
  refine lv_aload_n hx hb dX6_bestExchange_8 rfl (lv_at hl 0 rfl) ?_
  refine lv_aload_n hx hb dX6_bestExchange_9 rfl (lv_at hl 1 rfl) ?_
  refine lv_iconst (v := (nI 2)) hx hb dX6_bestExchange_10 rfl ?_
  refine z_calli (va_runV (As := [.ref (za G 1), .int (nI 2)]) (rest := []) ⟨hx, hb, hml, hown, hts⟩ ((c_X6_weigh l hG (zbg x (x.1 4)) (nI 2) (zrow_g hrw)) A) (cwV 2 hts gX6_bestExchange_X6_weigh rfl rfl rfl (by decide +kernel) ⟨Nat.le_of_ble_eq_true rfl, Nat.le_of_ble_eq_true rfl⟩) (z_pV hI hK hN (z_recv hK hI (zo11 hG) rfl)) rfl rfl hl.1 rfl (lv_room (Nat.le_of_ble_eq_true rfl)) dX6_bestExchange_11 ⟨Nat.zero_le _, Nat.zero_le _⟩) hI (fun r_11 u H locs hw hI => ?_)
  obtain ⟨rfl, rfl⟩ := hw
  refine lv_pop hx hb dX6_bestExchange_14 rfl ?_
  refine lv_bipush (v := (-5)) hx hb dX6_bestExchange_15 rfl ?_
  refine lv_istore_n (lv' := [(2, .int (-5)), (0, .ref (za G 11)), (1, .ref (za G 1))]) hx hb dX6_bestExchange_17 rfl hl (by decide) rfl (fun ls hl => ?_)
  refine lv_iconst (v := (nI 0)) hx hb dX6_bestExchange_18 rfl ?_
  refine lv_istore_n (lv' := [(3, .int (nI 0)), (2, .int (-5)), (0, .ref (za G 11)), (1, .ref (za G 1))]) hx hb dX6_bestExchange_19 rfl hl (by decide) rfl (fun ls hl => ?_)
  have L20 : ∀ (f : Nat) (a : Nat) (u : zX) (w2 : Int32), (a ≤ 8) → (zxout a ((zweigh (zbg x (x.1 4)) (nI 2)), -5) = (u, w2)) → (zOnly (zbg x (x.1 4)) u) → 9 ≤ a + f → ∀ (H : Heap) (locs : List Loc), zI G u A s.heap H locs → ∀ ls : Array Slot, lv_has ls 5 [(0, .ref (za G 11)), (1, .ref (za G 1)), (2, .int w2), (3, .int (nI a))] → W p l e { frames := 4, cells := 0, slots := 0, locals := 110 } s m ([.ref (za G 11), .ref (za G 1)] : List Value).toArray below meth c H locs 0 0 (MQ below (va_Qi (fun (r : Int32) (u : zX) => zxout 8 ((zweigh (zbg x (x.1 4)) (nI 2)), -5) = (u, r)) (fun u t => zJ G u A t.heap) A) ([.ref (za G 11), .ref (za G 1)] : List Value).toArray s 0 0 A) (F0 m 20 ls []) := by
    intro f
    induction f with
    | zero =>
      intro a u w2 h1 hst ho hf
      exact absurd hf (by omega)
    | succ f ih =>
      intro a u w2 h1 hst ho hf H locs hI ls hl
      have ih20 := ih
      refine lv_iload_n hx hb dX6_bestExchange_20 rfl (lv_at hl 3 rfl) ?_
      refine lv_bipush (v := (nI 8)) hx hb dX6_bestExchange_21 rfl ?_
      refine lv_icmp_ge (tgt := 111) hx hb dX6_bestExchange_23 (by decide) (fun c_23 => ?_) (fun c_23 => ?_)
      · skip
        rw [zqG (by omega) (by omega)] at c_23
        refine lv_iload_n hx hb dX6_bestExchange_111 rfl (lv_at hl 2 rfl) ?_
        exact z_iret hx hb hr hlocks hI (by rw [← hst, show a = 8 by omega]) dX6_bestExchange_112
      · skip
        rw [zqG (by omega) (by omega)] at c_23
        refine lv_iload_n hx hb dX6_bestExchange_26 rfl (lv_at hl 3 rfl) ?_
        refine lv_iconst (v := (nI 1)) hx hb dX6_bestExchange_27 rfl ?_
        refine z_iadd (v := (nI (a + 1))) hx hb (nI_add _ _) dX6_bestExchange_28 ?_
        refine lv_istore (lv' := [(4, .int (nI (a + 1))), (0, .ref (za G 11)), (1, .ref (za G 1)), (2, .int w2), (3, .int (nI a))]) hx hb dX6_bestExchange_29 hl (by decide) rfl (fun ls hl => ?_)
        have L31 : ∀ (f : Nat) (b : Nat) (k4 : Nat) (u2 : zX) (v2 : Int32), (b = a + 1 + k4) → (b ≤ 8) → (zxin a k4 (u, w2) = (u2, v2)) → (zOnly (zbg x (x.1 4)) u2) → 9 ≤ b + f → ∀ (H : Heap) (locs : List Loc), zI G u2 A s.heap H locs → ∀ ls : Array Slot, lv_has ls 5 [(0, .ref (za G 11)), (1, .ref (za G 1)), (2, .int v2), (3, .int (nI a)), (4, .int (nI b))] → W p l e { frames := 4, cells := 0, slots := 0, locals := 110 } s m ([.ref (za G 11), .ref (za G 1)] : List Value).toArray below meth c H locs 0 0 (MQ below (va_Qi (fun (r : Int32) (u : zX) => zxout 8 ((zweigh (zbg x (x.1 4)) (nI 2)), -5) = (u, r)) (fun u t => zJ G u A t.heap) A) ([.ref (za G 11), .ref (za G 1)] : List Value).toArray s 0 0 A) (F0 m 31 ls []) := by
          intro f
          induction f with
          | zero =>
            intro b k4 u2 v2 g0 g1 g2 go hf
            exact absurd hf (by omega)
          | succ f ih =>
            intro b k4 u2 v2 g0 g1 g2 go hf H locs hI ls hl
            have ih31 := ih
            refine lv_iload hx hb dX6_bestExchange_31 (lv_at hl 4 rfl) ?_
            refine lv_bipush (v := (nI 8)) hx hb dX6_bestExchange_33 rfl ?_
            refine lv_icmp_ge (tgt := 105) hx hb dX6_bestExchange_35 (by decide) (fun c_35 => ?_) (fun c_35 => ?_)
            · skip
              rw [zqG (by omega) (by omega)] at c_35
              refine lv_iinc (v := (nI (a + 1))) (lv' := [(3, .int (nI (a + 1))), (0, .ref (za G 11)), (1, .ref (za G 1)), (2, .int v2), (4, .int (nI b))]) hx hb dX6_bestExchange_105 hl (k := 3) rfl (zinc a) (by decide) rfl (fun ls hl => ?_)
              refine lv_goto (tgt := 20) hx hb dX6_bestExchange_108 (by decide) ?_
              exact ih20 (a + 1) u2 v2 (by omega) (by rw [zxout, hst, ← g2, show 7 - a = k4 by omega]) go (by omega) _ _ hI ls (lv_sub hl [1, 2, 3, 0] rfl)
            · skip
              rw [zqG (by omega) (by omega)] at c_35
              refine lv_aload_n hx hb dX6_bestExchange_38 rfl (lv_at hl 0 rfl) ?_
              refine z_get (C := RX6) (T := TX6) (N := 8) (ci := 6) (v := .ref (za G 15)) hx hb hts hin6 hown hK hI (zo11 hG) rfl 3 (by decide) wF22 (fun _ h9 => h9) rfl dX6_bestExchange_39 ?_
              refine lv_iload_n hx hb dX6_bestExchange_42 rfl (lv_at hl 3 rfl) ?_
              refine z_iald (v := (u2.1 15 a)) hx hb hK hI (zo15 hG) a rfl (by omega) (by decide) rfl dX6_bestExchange_43 ?_
              refine lv_iconst (v := (-1)) hx hb dX6_bestExchange_44 rfl ?_
              refine lv_icmp_ne (tgt := 62) hx hb dX6_bestExchange_45 (by decide) (fun c_45 => ?_) (fun c_45 => ?_)
              · skip
                have hne : ¬ (u2.1 15 a = -1 ∧ u2.1 15 b = -1) := fun h => c_45 h.1
                refine lv_aload_n hx hb dX6_bestExchange_62 rfl (lv_at hl 0 rfl) ?_
                refine z_get (C := RX6) (T := TX6) (N := 8) (ci := 6) (v := .ref (za G 15)) hx hb hts hin6 hown hK hI (zo11 hG) rfl 3 (by decide) wF22 (fun _ h9 => h9) rfl dX6_bestExchange_63 ?_
                refine lv_iload_n hx hb dX6_bestExchange_66 rfl (lv_at hl 3 rfl) ?_
                refine lv_iload hx hb dX6_bestExchange_67 (lv_at hl 4 rfl) ?_
                refine z_callv (va_runSN (As := [.ref (za G 15), .int (nI a), .int (nI b)]) (rest := []) ⟨hx, hb, hml, hown, hts⟩ ((c_X11_exchange l hG u2 15 a b (zo15 hG) (by omega) (by omega)) A) ⟨va_cnB 3 hts gX6_bestExchange_X11_exchange_n88 rfl rfl rfl (hN.1 _ (z_mem 4 rfl)) (hts (.initialized RX11) (z_mem 39 rfl)) (by decide +kernel) ⟨Nat.le_of_ble_eq_true rfl, Nat.le_of_ble_eq_true rfl⟩, hts (.static yX11_exchange) (z_mem 80 rfl), trivial⟩ (z_pS hI hK hN) rfl rfl hl.1 rfl (lv_room (Nat.le_of_ble_eq_true rfl)) dX6_bestExchange_69 ⟨Nat.zero_le _, Nat.zero_le _⟩) hI (fun u H locs hw hI => ?_)
                obtain rfl := hw
                change zI G (zxz a b u2) A s.heap _ _ at hI
                refine lv_aload_n hx hb dX6_bestExchange_72 rfl (lv_at hl 0 rfl) ?_
                refine lv_aload_n hx hb dX6_bestExchange_73 rfl (lv_at hl 1 rfl) ?_
                refine lv_iconst (v := (nI 2)) hx hb dX6_bestExchange_74 rfl ?_
                refine z_calli (va_runV (As := [.ref (za G 1), .int (nI 2)]) (rest := []) ⟨hx, hb, hml, hown, hts⟩ ((c_X6_weigh l hG (zxz a b u2) (nI 2) (zrow_x (by omega) (by omega) (by rw [go.2 15 (by decide) (by decide)]; exact zrow_g hrw))) A) (cwV 2 hts gX6_bestExchange_X6_weigh rfl rfl rfl (by decide +kernel) ⟨Nat.le_of_ble_eq_true rfl, Nat.le_of_ble_eq_true rfl⟩) (z_pV hI hK hN (z_recv hK hI (zo11 hG) rfl)) rfl rfl hl.1 rfl (lv_room (Nat.le_of_ble_eq_true rfl)) dX6_bestExchange_75 ⟨Nat.zero_le _, Nat.zero_le _⟩) hI (fun r_75 u H locs hw hI => ?_)
                obtain ⟨rfl, rfl⟩ := hw
                refine lv_if_eq (tgt := 89) hx hb dX6_bestExchange_78 (by decide) (fun c_78 => ?_) (fun c_78 => ?_)
                · skip
                  rw [zb_10] at c_78
                  refine lv_aload_n hx hb dX6_bestExchange_89 rfl (lv_at hl 0 rfl) ?_
                  refine z_get (C := RX6) (T := TX6) (N := 8) (ci := 6) (v := .ref (za G 15)) hx hb hts hin6 hown hK hI (zo11 hG) rfl 3 (by decide) wF22 (fun _ h9 => h9) rfl dX6_bestExchange_90 ?_
                  refine lv_iload_n hx hb dX6_bestExchange_93 rfl (lv_at hl 3 rfl) ?_
                  refine lv_iload hx hb dX6_bestExchange_94 (lv_at hl 4 rfl) ?_
                  refine z_callv (va_runSN (As := [.ref (za G 15), .int (nI a), .int (nI b)]) (rest := []) ⟨hx, hb, hml, hown, hts⟩ ((c_X11_exchange l hG (zweigh (zxz a b u2) (nI 2)) 15 a b (zo15 hG) (by omega) (by omega)) A) ⟨va_cnB 3 hts gX6_bestExchange_X11_exchange_n88 rfl rfl rfl (hN.1 _ (z_mem 4 rfl)) (hts (.initialized RX11) (z_mem 39 rfl)) (by decide +kernel) ⟨Nat.le_of_ble_eq_true rfl, Nat.le_of_ble_eq_true rfl⟩, hts (.static yX11_exchange) (z_mem 80 rfl), trivial⟩ (z_pS hI hK hN) rfl rfl hl.1 rfl (lv_room (Nat.le_of_ble_eq_true rfl)) dX6_bestExchange_96 ⟨Nat.zero_le _, Nat.zero_le _⟩) hI (fun u H locs hw hI => ?_)
                  obtain rfl := hw
                  change zI G (zxz a b (zweigh (zxz a b u2) (nI 2))) A s.heap _ _ at hI
                  refine lv_iinc (v := (nI (b + 1))) (lv' := [(4, .int (nI (b + 1))), (0, .ref (za G 11)), (1, .ref (za G 1)), (2, .int v2), (3, .int (nI a))]) hx hb dX6_bestExchange_99 hl (k := 4) rfl (zinc b) (by decide) rfl (fun ls hl => ?_)
                  refine lv_goto (tgt := 31) hx hb dX6_bestExchange_102 (by decide) ?_
                  exact ih31 (b + 1) (k4 + 1) (zxz a b (zweigh (zxz a b u2) (nI 2))) v2 (by omega) (by omega) (by rw [zxin, g2, ← g0]; exact zxst_w hne c_78) (go.t (zxz_o zweigh_o)) (by omega) _ _ hI ls (lv_sub hl [1, 2, 3, 4, 0] rfl)
                · skip
                  rw [zb_10] at c_78
                  refine lv_bipush (v := (nI 10)) hx hb dX6_bestExchange_81 rfl ?_
                  refine lv_iload_n hx hb dX6_bestExchange_83 rfl (lv_at hl 3 rfl) ?_
                  refine z_imul (v := (nI (10 * a))) hx hb (pk_mul _ _) dX6_bestExchange_84 ?_
                  refine lv_iload hx hb dX6_bestExchange_85 (lv_at hl 4 rfl) ?_
                  refine z_iadd (v := (nI ((10 * a) + b))) hx hb (nI_add _ _) dX6_bestExchange_87 ?_
                  refine lv_istore_n (lv' := [(2, .int (nI ((10 * a) + b))), (0, .ref (za G 11)), (1, .ref (za G 1)), (3, .int (nI a)), (4, .int (nI b))]) hx hb dX6_bestExchange_88 rfl hl (by decide) rfl (fun ls hl => ?_)
                  refine lv_aload_n hx hb dX6_bestExchange_89 rfl (lv_at hl 1 rfl) ?_
                  refine z_get (C := RX6) (T := TX6) (N := 8) (ci := 6) (v := .ref (za G 15)) hx hb hts hin6 hown hK hI (zo11 hG) rfl 3 (by decide) wF22 (fun _ h9 => h9) rfl dX6_bestExchange_90 ?_
                  refine lv_iload_n hx hb dX6_bestExchange_93 rfl (lv_at hl 3 rfl) ?_
                  refine lv_iload hx hb dX6_bestExchange_94 (lv_at hl 4 rfl) ?_
                  refine z_callv (va_runSN (As := [.ref (za G 15), .int (nI a), .int (nI b)]) (rest := []) ⟨hx, hb, hml, hown, hts⟩ ((c_X11_exchange l hG (zweigh (zxz a b u2) (nI 2)) 15 a b (zo15 hG) (by omega) (by omega)) A) ⟨va_cnB 3 hts gX6_bestExchange_X11_exchange_n88 rfl rfl rfl (hN.1 _ (z_mem 4 rfl)) (hts (.initialized RX11) (z_mem 39 rfl)) (by decide +kernel) ⟨Nat.le_of_ble_eq_true rfl, Nat.le_of_ble_eq_true rfl⟩, hts (.static yX11_exchange) (z_mem 80 rfl), trivial⟩ (z_pS hI hK hN) rfl rfl hl.1 rfl (lv_room (Nat.le_of_ble_eq_true rfl)) dX6_bestExchange_96 ⟨Nat.zero_le _, Nat.zero_le _⟩) hI (fun u H locs hw hI => ?_)
                  obtain rfl := hw
                  change zI G (zxz a b (zweigh (zxz a b u2) (nI 2))) A s.heap _ _ at hI
                  refine lv_iinc (v := (nI (b + 1))) (lv' := [(4, .int (nI (b + 1))), (2, .int (nI ((10 * a) + b))), (0, .ref (za G 11)), (1, .ref (za G 1)), (3, .int (nI a))]) hx hb dX6_bestExchange_99 hl (k := 4) rfl (zinc b) (by decide) rfl (fun ls hl => ?_)
                  refine lv_goto (tgt := 31) hx hb dX6_bestExchange_102 (by decide) ?_
                  exact ih31 (b + 1) (k4 + 1) (zxz a b (zweigh (zxz a b u2) (nI 2))) (nI ((10 * a) + b)) (by omega) (by omega) (by rw [zxin, g2, ← g0]; exact zxst_b hne c_78) (go.t (zxz_o zweigh_o)) (by omega) _ _ hI ls (lv_sub hl [2, 3, 1, 4, 0] rfl)
              · skip
                refine lv_aload_n hx hb dX6_bestExchange_48 rfl (lv_at hl 0 rfl) ?_
                refine z_get (C := RX6) (T := TX6) (N := 8) (ci := 6) (v := .ref (za G 15)) hx hb hts hin6 hown hK hI (zo11 hG) rfl 3 (by decide) wF22 (fun _ h9 => h9) rfl dX6_bestExchange_49 ?_
                refine lv_iload hx hb dX6_bestExchange_52 (lv_at hl 4 rfl) ?_
                refine z_iald (v := (u2.1 15 b)) hx hb hK hI (zo15 hG) b rfl (by omega) (by decide) rfl dX6_bestExchange_54 ?_
                refine lv_iconst (v := (-1)) hx hb dX6_bestExchange_55 rfl ?_
                refine lv_icmp_ne (tgt := 62) hx hb dX6_bestExchange_56 (by decide) (fun c_56 => ?_) (fun c_56 => ?_)
                · skip
                  have hne : ¬ (u2.1 15 a = -1 ∧ u2.1 15 b = -1) := fun h => c_56 h.2
                  refine lv_aload_n hx hb dX6_bestExchange_62 rfl (lv_at hl 0 rfl) ?_
                  refine z_get (C := RX6) (T := TX6) (N := 8) (ci := 6) (v := .ref (za G 15)) hx hb hts hin6 hown hK hI (zo11 hG) rfl 3 (by decide) wF22 (fun _ h9 => h9) rfl dX6_bestExchange_63 ?_
                  refine lv_iload_n hx hb dX6_bestExchange_66 rfl (lv_at hl 3 rfl) ?_
                  refine lv_iload hx hb dX6_bestExchange_67 (lv_at hl 4 rfl) ?_
                  refine z_callv (va_runSN (As := [.ref (za G 15), .int (nI a), .int (nI b)]) (rest := []) ⟨hx, hb, hml, hown, hts⟩ ((c_X11_exchange l hG u2 15 a b (zo15 hG) (by omega) (by omega)) A) ⟨va_cnB 3 hts gX6_bestExchange_X11_exchange_n88 rfl rfl rfl (hN.1 _ (z_mem 4 rfl)) (hts (.initialized RX11) (z_mem 39 rfl)) (by decide +kernel) ⟨Nat.le_of_ble_eq_true rfl, Nat.le_of_ble_eq_true rfl⟩, hts (.static yX11_exchange) (z_mem 80 rfl), trivial⟩ (z_pS hI hK hN) rfl rfl hl.1 rfl (lv_room (Nat.le_of_ble_eq_true rfl)) dX6_bestExchange_69 ⟨Nat.zero_le _, Nat.zero_le _⟩) hI (fun u H locs hw hI => ?_)
                  obtain rfl := hw
                  change zI G (zxz a b u2) A s.heap _ _ at hI
                  refine lv_aload_n hx hb dX6_bestExchange_72 rfl (lv_at hl 0 rfl) ?_
                  refine lv_aload_n hx hb dX6_bestExchange_73 rfl (lv_at hl 1 rfl) ?_
                  refine lv_iconst (v := (nI 2)) hx hb dX6_bestExchange_74 rfl ?_
                  refine z_calli (va_runV (As := [.ref (za G 1), .int (nI 2)]) (rest := []) ⟨hx, hb, hml, hown, hts⟩ ((c_X6_weigh l hG (zxz a b u2) (nI 2) (zrow_x (by omega) (by omega) (by rw [go.2 15 (by decide) (by decide)]; exact zrow_g hrw))) A) (cwV 2 hts gX6_bestExchange_X6_weigh rfl rfl rfl (by decide +kernel) ⟨Nat.le_of_ble_eq_true rfl, Nat.le_of_ble_eq_true rfl⟩) (z_pV hI hK hN (z_recv hK hI (zo11 hG) rfl)) rfl rfl hl.1 rfl (lv_room (Nat.le_of_ble_eq_true rfl)) dX6_bestExchange_75 ⟨Nat.zero_le _, Nat.zero_le _⟩) hI (fun r_75 u H locs hw hI => ?_)
                  obtain ⟨rfl, rfl⟩ := hw
                  refine lv_if_eq (tgt := 89) hx hb dX6_bestExchange_78 (by decide) (fun c_78 => ?_) (fun c_78 => ?_)
                  · skip
                    rw [zb_10] at c_78
                    refine lv_aload_n hx hb dX6_bestExchange_89 rfl (lv_at hl 0 rfl) ?_
                    refine z_get (C := RX6) (T := TX6) (N := 8) (ci := 6) (v := .ref (za G 15)) hx hb hts hin6 hown hK hI (zo11 hG) rfl 3 (by decide) wF22 (fun _ h9 => h9) rfl dX6_bestExchange_90 ?_
                    refine lv_iload_n hx hb dX6_bestExchange_93 rfl (lv_at hl 3 rfl) ?_
                    refine lv_iload hx hb dX6_bestExchange_94 (lv_at hl 4 rfl) ?_
                    refine z_callv (va_runSN (As := [.ref (za G 15), .int (nI a), .int (nI b)]) (rest := []) ⟨hx, hb, hml, hown, hts⟩ ((c_X11_exchange l hG (zweigh (zxz a b u2) (nI 2)) 15 a b (zo15 hG) (by omega) (by omega)) A) ⟨va_cnB 3 hts gX6_bestExchange_X11_exchange_n88 rfl rfl rfl (hN.1 _ (z_mem 4 rfl)) (hts (.initialized RX11) (z_mem 39 rfl)) (by decide +kernel) ⟨Nat.le_of_ble_eq_true rfl, Nat.le_of_ble_eq_true rfl⟩, hts (.static yX11_exchange) (z_mem 80 rfl), trivial⟩ (z_pS hI hK hN) rfl rfl hl.1 rfl (lv_room (Nat.le_of_ble_eq_true rfl)) dX6_bestExchange_96 ⟨Nat.zero_le _, Nat.zero_le _⟩) hI (fun u H locs hw hI => ?_)
                    obtain rfl := hw
                    change zI G (zxz a b (zweigh (zxz a b u2) (nI 2))) A s.heap _ _ at hI
                    refine lv_iinc (v := (nI (b + 1))) (lv' := [(4, .int (nI (b + 1))), (0, .ref (za G 11)), (1, .ref (za G 1)), (2, .int v2), (3, .int (nI a))]) hx hb dX6_bestExchange_99 hl (k := 4) rfl (zinc b) (by decide) rfl (fun ls hl => ?_)
                    refine lv_goto (tgt := 31) hx hb dX6_bestExchange_102 (by decide) ?_
                    exact ih31 (b + 1) (k4 + 1) (zxz a b (zweigh (zxz a b u2) (nI 2))) v2 (by omega) (by omega) (by rw [zxin, g2, ← g0]; exact zxst_w hne c_78) (go.t (zxz_o zweigh_o)) (by omega) _ _ hI ls (lv_sub hl [1, 2, 3, 4, 0] rfl)
                  · skip
                    rw [zb_10] at c_78
                    refine lv_bipush (v := (nI 10)) hx hb dX6_bestExchange_81 rfl ?_
                    refine lv_iload_n hx hb dX6_bestExchange_83 rfl (lv_at hl 3 rfl) ?_
                    refine z_imul (v := (nI (10 * a))) hx hb (pk_mul _ _) dX6_bestExchange_84 ?_
                    refine lv_iload hx hb dX6_bestExchange_85 (lv_at hl 4 rfl) ?_
                    refine z_iadd (v := (nI ((10 * a) + b))) hx hb (nI_add _ _) dX6_bestExchange_87 ?_
                    refine lv_istore_n (lv' := [(2, .int (nI ((10 * a) + b))), (0, .ref (za G 11)), (1, .ref (za G 1)), (3, .int (nI a)), (4, .int (nI b))]) hx hb dX6_bestExchange_88 rfl hl (by decide) rfl (fun ls hl => ?_)
                    refine lv_aload_n hx hb dX6_bestExchange_89 rfl (lv_at hl 1 rfl) ?_
                    refine z_get (C := RX6) (T := TX6) (N := 8) (ci := 6) (v := .ref (za G 15)) hx hb hts hin6 hown hK hI (zo11 hG) rfl 3 (by decide) wF22 (fun _ h9 => h9) rfl dX6_bestExchange_90 ?_
                    refine lv_iload_n hx hb dX6_bestExchange_93 rfl (lv_at hl 3 rfl) ?_
                    refine lv_iload hx hb dX6_bestExchange_94 (lv_at hl 4 rfl) ?_
                    refine z_callv (va_runSN (As := [.ref (za G 15), .int (nI a), .int (nI b)]) (rest := []) ⟨hx, hb, hml, hown, hts⟩ ((c_X11_exchange l hG (zweigh (zxz a b u2) (nI 2)) 15 a b (zo15 hG) (by omega) (by omega)) A) ⟨va_cnB 3 hts gX6_bestExchange_X11_exchange_n88 rfl rfl rfl (hN.1 _ (z_mem 4 rfl)) (hts (.initialized RX11) (z_mem 39 rfl)) (by decide +kernel) ⟨Nat.le_of_ble_eq_true rfl, Nat.le_of_ble_eq_true rfl⟩, hts (.static yX11_exchange) (z_mem 80 rfl), trivial⟩ (z_pS hI hK hN) rfl rfl hl.1 rfl (lv_room (Nat.le_of_ble_eq_true rfl)) dX6_bestExchange_96 ⟨Nat.zero_le _, Nat.zero_le _⟩) hI (fun u H locs hw hI => ?_)
                    obtain rfl := hw
                    change zI G (zxz a b (zweigh (zxz a b u2) (nI 2))) A s.heap _ _ at hI
                    refine lv_iinc (v := (nI (b + 1))) (lv' := [(4, .int (nI (b + 1))), (2, .int (nI ((10 * a) + b))), (0, .ref (za G 11)), (1, .ref (za G 1)), (3, .int (nI a))]) hx hb dX6_bestExchange_99 hl (k := 4) rfl (zinc b) (by decide) rfl (fun ls hl => ?_)
                    refine lv_goto (tgt := 31) hx hb dX6_bestExchange_102 (by decide) ?_
                    exact ih31 (b + 1) (k4 + 1) (zxz a b (zweigh (zxz a b u2) (nI 2))) (nI ((10 * a) + b)) (by omega) (by omega) (by rw [zxin, g2, ← g0]; exact zxst_b hne c_78) (go.t (zxz_o zweigh_o)) (by omega) _ _ hI ls (lv_sub hl [2, 3, 1, 4, 0] rfl)
                · skip
                  refine lv_goto (tgt := 99) hx hb dX6_bestExchange_59 (by decide) ?_
                  refine lv_iinc (v := (nI (b + 1))) (lv' := [(4, .int (nI (b + 1))), (0, .ref (za G 11)), (1, .ref (za G 1)), (2, .int v2), (3, .int (nI a))]) hx hb dX6_bestExchange_99 hl (k := 4) rfl (zinc b) (by decide) rfl (fun ls hl => ?_)
                  refine lv_goto (tgt := 31) hx hb dX6_bestExchange_102 (by decide) ?_
                  exact ih31 (b + 1) (k4 + 1) u2 v2 (by omega) (by omega) (by rw [zxin, g2, ← g0]; exact zxst_s c_45 c_56) go (by omega) _ _ hI ls (lv_sub hl [1, 2, 3, 4, 0] rfl)
        exact L31 (9) (a + 1) 0 u w2 (by omega) (by omega) rfl ho (by omega) _ _ hI ls (lv_sub hl [1, 2, 3, 4, 0] rfl)
  exact L20 (9) 0 (zweigh (zbg x (x.1 4)) (nI 2)) (-5) (by omega) rfl zweigh_o (by omega) _ _ hI ls (lv_sub hl [2, 3, 1, 0] rfl)
set_option maxHeartbeats 4000000 in
set_option maxRecDepth 100000 in
theorem c_X6_worthOfAllPairs (l : Launch) {G : zG} (hG : zOK G) (x : zX) (N : Nat) (h8 : N ≤ 8) : zMl l yX6_worthOfAllPairs wsX6_worthOfAllPairs { frames := 2, cells := 0, slots := 0, locals := 46 } G [.ref (za G 11), .int (nI N)] x (fun (r : Int64) (u : zX) => x = u ∧ zall x N = r) := by
  intro A
  refine zBody (cc := cX6_worthOfAllPairs) (maxL := 6) (ret := (some .long)) (by decide) rfl (Nat.le_of_ble_eq_true rfl) ?_
  intro p e s m below meth c hx hb hml hown hts hr hlocks hK hN hI ls hl
  have hown : s.vm.findClass RX6 = some m.cls := hown
  have hl : lv_has ls 6 [(0, .ref (za G 11)), (1, .int (nI N))] := hl
  refine lv_lconst (v := 0) hx hb dX6_worthOfAllPairs_0 rfl ?_
  refine lv_lstore_n (lv' := [(2, .long 0), (0, .ref (za G 11)), (1, .int (nI N))]) hx hb dX6_worthOfAllPairs_1 rfl hl (by decide) rfl (fun ls hl => ?_)
  refine lv_iconst (v := (nI 0)) hx hb dX6_worthOfAllPairs_2 rfl ?_
  refine lv_istore (lv' := [(4, .int (nI 0)), (2, .long 0), (0, .ref (za G 11)), (1, .int (nI N))]) hx hb dX6_worthOfAllPairs_3 hl (by decide) rfl (fun ls hl => ?_)
  have L5 : ∀ (f : Nat) (a : Nat) (v : Int64), (a ≤ N) → (v = zsml (fun aa => zsml (fun bb => (zwa x aa bb 0 + zwa x aa bb 1).toInt64) N) a) → N + 1 ≤ a + f → ∀ (H : Heap) (locs : List Loc), zI G x A s.heap H locs → ∀ ls : Array Slot, lv_has ls 6 [(0, .ref (za G 11)), (1, .int (nI N)), (2, .long v), (4, .int (nI a))] → W p l e { frames := 2, cells := 0, slots := 0, locals := 46 } s m ([.ref (za G 11), .int (nI N)] : List Value).toArray below meth c H locs 0 0 (MQ below (va_Ql (fun (r : Int64) (u : zX) => x = u ∧ zall x N = r) (fun u t => zJ G u A t.heap) A) ([.ref (za G 11), .int (nI N)] : List Value).toArray s 0 0 A) (F0 m 5 ls []) := by
    intro f
    induction f with
    | zero =>
      intro a v h1 h2 hf
      exact absurd hf (by omega)
    | succ f ih =>
      intro a v h1 h2 hf H locs hI ls hl
      have ih5 := ih
      refine lv_iload hx hb dX6_worthOfAllPairs_5 (lv_at hl 3 rfl) ?_
      refine lv_iload_n hx hb dX6_worthOfAllPairs_7 rfl (lv_at hl 1 rfl) ?_
      refine lv_icmp_ge (tgt := 55) hx hb dX6_worthOfAllPairs_8 (by decide) (fun c_8 => ?_) (fun c_8 => ?_)
      · skip
        rw [zqG (by omega) (by omega)] at c_8
        refine lv_lload_n hx hb dX6_worthOfAllPairs_55 rfl (lv_at hl 2 rfl) ?_
        exact z_lret hx hb hr hlocks hI (⟨rfl, by rw [h2, show a = N by omega]; rfl⟩) dX6_worthOfAllPairs_56
      · skip
        rw [zqG (by omega) (by omega)] at c_8
        refine lv_iconst (v := (nI 0)) hx hb dX6_worthOfAllPairs_11 rfl ?_
        refine lv_istore (lv' := [(5, .int (nI 0)), (0, .ref (za G 11)), (1, .int (nI N)), (2, .long v), (4, .int (nI a))]) hx hb dX6_worthOfAllPairs_12 hl (by decide) rfl (fun ls hl => ?_)
        have L14 : ∀ (f : Nat) (b : Nat) (v2 : Int64), (b ≤ N) → (v2 = v + zsml (fun bb => (zwa x a bb 0 + zwa x a bb 1).toInt64) b) → N + 1 ≤ b + f → ∀ (H : Heap) (locs : List Loc), zI G x A s.heap H locs → ∀ ls : Array Slot, lv_has ls 6 [(0, .ref (za G 11)), (1, .int (nI N)), (2, .long v2), (4, .int (nI a)), (5, .int (nI b))] → W p l e { frames := 2, cells := 0, slots := 0, locals := 46 } s m ([.ref (za G 11), .int (nI N)] : List Value).toArray below meth c H locs 0 0 (MQ below (va_Ql (fun (r : Int64) (u : zX) => x = u ∧ zall x N = r) (fun u t => zJ G u A t.heap) A) ([.ref (za G 11), .int (nI N)] : List Value).toArray s 0 0 A) (F0 m 14 ls []) := by
          intro f
          induction f with
          | zero =>
            intro b v2 g1 g2 hf
            exact absurd hf (by omega)
          | succ f ih =>
            intro b v2 g1 g2 hf H locs hI ls hl
            have ih14 := ih
            refine lv_iload hx hb dX6_worthOfAllPairs_14 (lv_at hl 4 rfl) ?_
            refine lv_iload_n hx hb dX6_worthOfAllPairs_16 rfl (lv_at hl 1 rfl) ?_
            refine lv_icmp_ge (tgt := 49) hx hb dX6_worthOfAllPairs_17 (by decide) (fun c_17 => ?_) (fun c_17 => ?_)
            · skip
              rw [zqG (by omega) (by omega)] at c_17
              refine lv_iinc (v := (nI (a + 1))) (lv' := [(4, .int (nI (a + 1))), (0, .ref (za G 11)), (1, .int (nI N)), (2, .long v2), (5, .int (nI b))]) hx hb dX6_worthOfAllPairs_49 hl (k := 3) rfl (zinc a) (by decide) rfl (fun ls hl => ?_)
              refine lv_goto (tgt := 5) hx hb dX6_worthOfAllPairs_52 (by decide) ?_
              exact ih5 (a + 1) v2 (by omega) (by rw [g2, h2, show b = N by omega]; rfl) (by omega) _ _ hI ls (lv_sub hl [1, 2, 3, 0] rfl)
            · skip
              rw [zqG (by omega) (by omega)] at c_17
              refine lv_lload_n hx hb dX6_worthOfAllPairs_20 rfl (lv_at hl 2 rfl) ?_
              refine lv_aload_n hx hb dX6_worthOfAllPairs_21 rfl (lv_at hl 0 rfl) ?_
              refine lv_iload hx hb dX6_worthOfAllPairs_22 (lv_at hl 3 rfl) ?_
              refine lv_iload hx hb dX6_worthOfAllPairs_24 (lv_at hl 4 rfl) ?_
              refine lv_iconst (v := (nI 0)) hx hb dX6_worthOfAllPairs_26 rfl ?_
              refine z_calli (va_runV (As := [.int (nI a), .int (nI b), .int (nI 0)]) (rest := [.long v2]) ⟨hx, hb, hml, hown, hts⟩ ((c_X6_worthAt l hG x a b 0 (by omega) (by omega) (by omega)) A) (cwV 3 hts gX6_worthOfAllPairs_X6_worthAt rfl rfl rfl (by decide +kernel) ⟨Nat.le_of_ble_eq_true rfl, Nat.le_of_ble_eq_true rfl⟩) (z_pV hI hK hN (z_recv hK hI (zo11 hG) rfl)) rfl rfl hl.1 rfl (lv_room (Nat.le_of_ble_eq_true rfl)) dX6_worthOfAllPairs_27 ⟨Nat.zero_le _, Nat.zero_le _⟩) hI (fun r_27 u H locs hw hI => ?_)
              obtain ⟨rfl, rfl⟩ := hw
              refine lv_aload_n hx hb dX6_worthOfAllPairs_30 rfl (lv_at hl 0 rfl) ?_
              refine lv_iload hx hb dX6_worthOfAllPairs_31 (lv_at hl 3 rfl) ?_
              refine lv_iload hx hb dX6_worthOfAllPairs_33 (lv_at hl 4 rfl) ?_
              refine lv_iconst (v := (nI 1)) hx hb dX6_worthOfAllPairs_35 rfl ?_
              refine z_calli (va_runV (As := [.int (nI a), .int (nI b), .int (nI 1)]) (rest := [.int (zwa x a b 0), .long v2]) ⟨hx, hb, hml, hown, hts⟩ ((c_X6_worthAt l hG x a b 1 (by omega) (by omega) (by omega)) A) (cwV 3 hts gX6_worthOfAllPairs_X6_worthAt rfl rfl rfl (by decide +kernel) ⟨Nat.le_of_ble_eq_true rfl, Nat.le_of_ble_eq_true rfl⟩) (z_pV hI hK hN (z_recv hK hI (zo11 hG) rfl)) rfl rfl hl.1 rfl (lv_room (Nat.le_of_ble_eq_true rfl)) dX6_worthOfAllPairs_36 ⟨Nat.zero_le _, Nat.zero_le _⟩) hI (fun r_36 u H locs hw hI => ?_)
              obtain ⟨rfl, rfl⟩ := hw
              refine lv_iadd hx hb dX6_worthOfAllPairs_39 ?_
              refine lv_i2l hx hb dX6_worthOfAllPairs_40 rfl ?_
              refine lv_ladd hx hb dX6_worthOfAllPairs_41 ?_
              refine lv_lstore_n (lv' := [(2, .long (v2 + (((zwa x a b 0) + (zwa x a b 1)).toInt64))), (0, .ref (za G 11)), (1, .int (nI N)), (4, .int (nI a)), (5, .int (nI b))]) hx hb dX6_worthOfAllPairs_42 rfl hl (by decide) rfl (fun ls hl => ?_)
              refine lv_iinc (v := (nI (b + 1))) (lv' := [(5, .int (nI (b + 1))), (2, .long (v2 + (((zwa x a b 0) + (zwa x a b 1)).toInt64))), (0, .ref (za G 11)), (1, .int (nI N)), (4, .int (nI a))]) hx hb dX6_worthOfAllPairs_43 hl (k := 4) rfl (zinc b) (by decide) rfl (fun ls hl => ?_)
              refine lv_goto (tgt := 14) hx hb dX6_worthOfAllPairs_46 (by decide) ?_
              exact ih14 (b + 1) (v2 + (((zwa x a b 0) + (zwa x a b 1)).toInt64)) (by omega) (zsml_t g2 rfl) (by omega) _ _ hI ls (lv_sub hl [2, 3, 1, 4, 0] rfl)
        exact L14 (N + 1) 0 v (by omega) (Int64.add_zero _).symm (by omega) _ _ hI ls (lv_sub hl [1, 2, 3, 4, 0] rfl)
  exact L5 (N + 1) 0 0 (by omega) rfl (by omega) _ _ hI ls (lv_sub hl [2, 3, 1, 0] rfl)
