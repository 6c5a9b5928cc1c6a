theorem zrix_in {n : Nat} (h : n < 6) : zrix (nI n) = 28 + 7 * n := by
  unfold zrix
  rw [if_neg (nI_pos (by omega)), if_neg (nI_ge h (by omega)), nI_clamp (by omega)]
/-- cells that a room's reading leaves alone -/
theorem zrd_n {T : Nat → Int32} {L b i : Nat} (h0 : i ≠ b) (h1 : i ≠ b + 1) (h2 : i ≠ b + 2) (h3 : i ≠ b + 3) (h4 : i ≠ b + 4) : ∀ (n C : Nat) (y : zX) (p : Nat) (cs : List Int32), (zrd T L b n C y p cs).2.1 i = y.1 i
  | 0, _, y, p, cs => zpz_n h0 h4
  | n + 1, C, y, p, cs => by
    have e : (zpz (zkq y b C (zcla T p cs)) b (zcla T p cs).2.1 (zcla T p cs).2.2).1 i = y.1 i := (zpz_n h0 h4).trans (zkq_n h0 h1 h2 h3)
    rw [zrd]
    split
    · split
      · exact e
      · split
        · exact e
        · split
          · exact (zrd_n h0 h1 h2 h3 h4 n _ _ _ _).trans (zkq_n h0 h1 h2 h3)
          · exact e
    · exact e
set_option maxHeartbeats 1000000 in
set_option maxRecDepth 100000 in
theorem c_X11_room (l : Launch) {G : zG} (hG : zOK G) (x : zX) (Rn F : Nat) (hrn : x.1 0 7 = nI Rn) (hR6 : Rn ≤ 6) (htl : x.1 0 4 = nI F) (hF : F ≤ 100) (htx : zTx x (28 + 7 * Rn)) (htx9 : ∀ k, k < 100 → ∃ q, q < 128 ∧ x.1 9 k = nI q) : zMi l yX11_room wsX11_room { frames := 22, cells := 0, slots := 0, locals := 524 } G [.ref (za G 0)] x (fun (r : Int32) (u : zX) => (Rn = 6 ∧ x = u ∧ -4 = r) ∨ (Rn < 6 ∧ 0 ≤ (zrd (zby (zt0 x (28 + 7 * Rn) F) (28 + 7 * Rn) F) F (28 + 7 * Rn) 10 0 (zt0 x (28 + 7 * Rn) F) 0 []).1 ∧ zsI (zrd (zby (zt0 x (28 + 7 * Rn) F) (28 + 7 * Rn) F) F (28 + 7 * Rn) 10 0 (zt0 x (28 + 7 * Rn) F) 0 []).2 0 4 (nI 0) = u ∧ (-10) - (zrd (zby (zt0 x (28 + 7 * Rn) F) (28 + 7 * Rn) F) F (28 + 7 * Rn) 10 0 (zt0 x (28 + 7 * Rn) F) 0 []).1 = r) ∨ (Rn < 6 ∧ ¬ 0 ≤ (zrd (zby (zt0 x (28 + 7 * Rn) F) (28 + 7 * Rn) F) F (28 + 7 * Rn) 10 0 (zt0 x (28 + 7 * Rn) F) 0 []).1 ∧ zsI (zsI (zsI (zsI (zrd (zby (zt0 x (28 + 7 * Rn) F) (28 + 7 * Rn) F) F (28 + 7 * Rn) 10 0 (zt0 x (28 + 7 * Rn) F) 0 []).2 0 4 (nI 0)) 1 6 (nI Rn)) 0 7 (nI (Rn + 1))) 0 9 (nI 0) = u ∧ nI Rn = r)) := by
  intro A
  refine zBody (cc := cX11_room) (maxL := 2) (ret := (some .int)) (by decide) rfl (Nat.le_of_ble_eq_true rfl) ?_
  intro p e s m below meth c hx hb hml hown hts hr hlocks hK hN hI ls hl
  have hown : s.vm.findClass RX11 = some m.cls := hown
  have hl : lv_has ls 2 [(0, .ref (za G 0))] := hl
  have hin7 : ∀ w ∈ wsX70, w ∈ wsX11_room := (fun _ h => List.mem_cons_of_mem _ (List.mem_append_left _ (List.mem_append_right _ (h))))
  have hin11 : ∀ w ∈ wsX110, w ∈ wsX11_room := (fun _ h => List.mem_cons_of_mem _ (List.mem_append_left _ (List.mem_append_left _ (List.mem_append_right _ (h)))))
  have wF139 := hts (.fieldLink RX11 139 "WhoSitsBy" "roomCount" "I") (z_mem 1 rfl)
  have wF21 := hts (.fieldLink RX11 21 "WhoSitsBy" "text" "[B") (z_mem 2 rfl)
  have wF136 := hts (.fieldLink RX11 136 "WhoSitsBy" "textLength" "I") (z_mem 3 rfl)
  have wF12 := hts (.fieldLink RX11 12 "WhoSitsBy" "now" "LWhoSitsBy$Standing;") (z_mem 4 rfl)
  have wF150 := hts (.fieldLink RX11 150 "WhoSitsBy$Standing" "held" "I") (z_mem 5 rfl)
  have wF78 := hts (.fieldLink RX11 78 "WhoSitsBy" "counted" "Z") (z_mem 6 rfl)
  refine lv_aload_n hx hb dX11_room_0 rfl (lv_at hl 0 rfl) ?_
  refine z_get (C := RX11) (T := TX11) (N := 14) (ci := 11) (v := .int (nI Rn)) hx hb hts hin11 hown hK hI (zo0 hG) rfl 7 (by decide) wF139 (fun _ h9 => h9) (congrArg (fun q => some (Value.int q)) hrn) dX11_room_1 ?_
  refine lv_bipush (v := (nI 6)) hx hb dX11_room_4 rfl ?_
  refine lv_icmp_lt (tgt := 12) hx hb dX11_room_6 (by decide) (fun c_6 => ?_) (fun c_6 => ?_)
  · skip
    rw [zqL (by omega) (by omega)] at c_6
    have hN9 := hN
    obtain ⟨-, -, -, aK, aV, hSS, -⟩ := hN9
    have hR7 : Rn < 6 := by omega
    refine lv_aload_n hx hb dX11_room_12 rfl (lv_at hl 0 rfl) ?_
    refine lv_aload_n hx hb dX11_room_13 rfl (lv_at hl 0 rfl) ?_
    refine z_get (C := RX11) (T := TX11) (N := 14) (ci := 11) (v := .int (nI Rn)) hx hb hts hin11 hown hK hI (zo0 hG) rfl 7 (by decide) wF139 (fun _ h9 => h9) (congrArg (fun q => some (Value.int q)) hrn) dX11_room_14 ?_
    refine z_callq (va_runV (As := [.int (nI Rn)]) (rest := []) ⟨hx, hb, hml, hown, hts⟩ ((c_X11_roomAt l hG x (nI Rn)) A) (cwV 1 hts gX11_room_X11_roomAt rfl rfl rfl (by decide +kernel) ⟨Nat.le_of_ble_eq_true rfl, Nat.le_of_ble_eq_true rfl⟩) (z_pV hI hK hN (z_recv hK hI (zo0 hG) rfl)) rfl rfl hl.1 rfl (lv_room (Nat.le_of_ble_eq_true rfl)) dX11_room_17 ⟨Nat.zero_le _, Nat.zero_le _⟩) hI (fun r_17 u H locs hw hI => ?_)
    obtain ⟨rfl, rfl⟩ := hw
    rw [zrix_in hR7]
    refine lv_aload_n hx hb dX11_room_20 rfl (lv_at hl 0 rfl) ?_
    refine z_get (C := RX11) (T := TX11) (N := 14) (ci := 11) (v := .ref (za G 9)) hx hb hts hin11 hown hK hI (zo0 hG) rfl 3 (by decide) wF21 (fun _ h9 => h9) rfl dX11_room_21 ?_
    refine lv_aload_n hx hb dX11_room_24 rfl (lv_at hl 0 rfl) ?_
    refine z_get (C := RX11) (T := TX11) (N := 14) (ci := 11) (v := .int (nI F)) hx hb hts hin11 hown hK hI (zo0 hG) rfl 4 (by decide) wF136 (fun _ h9 => h9) (congrArg (fun q => some (Value.int q)) htl) dX11_room_25 ?_
    refine z_calli (va_runV (As := [.ref (za G 9), .int (nI F)]) (rest := []) ⟨hx, hb, hml, hown, hts⟩ ((c_X5_take l hG aK aV x (28 + 7 * Rn) F ⟨Rn, by omega, rfl⟩ hF htx htx9) A) (cwV 2 hts gX11_room_X5_take rfl rfl rfl (by decide +kernel) ⟨Nat.le_of_ble_eq_true rfl, Nat.le_of_ble_eq_true rfl⟩) (z_pVS hI hK hN hSS (z_recv hK hI (zor hG ⟨Rn, by omega, rfl⟩) rfl)) rfl rfl hl.1 rfl (lv_room (Nat.le_of_ble_eq_true rfl)) dX11_room_28 ⟨Nat.zero_le _, Nat.zero_le _⟩) hI (fun r_28 u H locs hw hI => ?_)
    obtain ⟨rfl, rfl⟩ : (zrd (zby (zt0 x (28 + 7 * Rn) F) (28 + 7 * Rn) F) F (28 + 7 * Rn) 10 0 (zt0 x (28 + 7 * Rn) F) 0 []).2 = u ∧ (zrd (zby (zt0 x (28 + 7 * Rn) F) (28 + 7 * Rn) F) F (28 + 7 * Rn) 10 0 (zt0 x (28 + 7 * Rn) F) 0 []).1 = r_28 := ⟨congrArg Prod.snd hw, congrArg Prod.fst hw⟩
    have hrm : (zrd (zby (zt0 x (28 + 7 * Rn) F) (28 + 7 * Rn) F) F (28 + 7 * Rn) 10 0 (zt0 x (28 + 7 * Rn) F) 0 []).2.1 0 7 = nI Rn := (congrFun (zrd_n (i := 0) (by omega) (by omega) (by omega) (by omega) (by omega) _ _ _ _ _) 7).trans ((congrFun (zt0_n (by omega) (by omega)) 7).trans hrn)
    refine lv_istore_n (lv' := [(1, .int ((zrd (zby (zt0 x (28 + 7 * Rn) F) (28 + 7 * Rn) F) F (28 + 7 * Rn) 10 0 (zt0 x (28 + 7 * Rn) F) 0 []).1)), (0, .ref (za G 0))]) hx hb dX11_room_31 rfl hl (by decide) rfl (fun ls hl => ?_)
    refine lv_aload_n hx hb dX11_room_32 rfl (lv_at hl 1 rfl) ?_
    refine lv_iconst (v := (nI 0)) hx hb dX11_room_33 rfl ?_
    refine z_putI (C := RX11) (T := TX11) (N := 14) (ci := 11) (ty := .int) hx hb hts hin11 tyX11 tyX11_ok nmX11 hown hK hI (zo0 hG) rfl 4 (by decide) wF136 (fun _ h9 => h9) rfl (fun _ _ => rfl) (by decide +kernel) rfl rfl (fun _ _ => Nat.le_of_ble_eq_true rfl) dX11_room_34 (fun H locs hI => ?_)
    refine lv_iload_n hx hb dX11_room_37 rfl (lv_at hl 0 rfl) ?_
    refine lv_if_lt (tgt := 46) hx hb dX11_room_38 (by decide) (fun c_38 => ?_) (fun c_38 => ?_)
    · skip
      refine lv_aload_n hx hb dX11_room_46 rfl (lv_at hl 1 rfl) ?_
      refine z_get (C := RX11) (T := TX11) (N := 14) (ci := 11) (v := .ref (za G 1)) hx hb hts hin11 hown hK hI (zo0 hG) rfl 0 (by decide) wF12 (fun _ h9 => h9) rfl dX11_room_47 ?_
      refine lv_aload_n hx hb dX11_room_50 rfl (lv_at hl 1 rfl) ?_
      refine z_get (C := RX11) (T := TX11) (N := 14) (ci := 11) (v := .int (nI Rn)) hx hb hts hin11 hown hK hI (zo0 hG) rfl 7 (by decide) wF139 (fun _ h9 => h9) (congrArg (fun q => some (Value.int q)) hrm) dX11_room_51 ?_
      refine z_putI (C := RX7) (T := TX7) (N := 7) (ci := 7) (ty := .int) hx hb hts hin7 tyX7 tyX7_ok nmX7 hown hK hI (zo1 hG) rfl 6 (by decide) wF150 (fun _ h9 => h9) rfl (fun _ _ => rfl) (by decide +kernel) rfl rfl (fun _ _ => Nat.le_of_ble_eq_true rfl) dX11_room_54 (fun H locs hI => ?_)
      refine lv_aload_n hx hb dX11_room_57 rfl (lv_at hl 1 rfl) ?_
      refine lv_dup hx hb dX11_room_58 rfl ?_
      refine z_get (C := RX11) (T := TX11) (N := 14) (ci := 11) (v := .int (nI Rn)) hx hb hts hin11 hown hK hI (zo0 hG) rfl 7 (by decide) wF139 (fun _ h9 => h9) (congrArg (fun q => some (Value.int q)) hrm) dX11_room_59 ?_
      refine lv_iconst (v := (nI 1)) hx hb dX11_room_62 rfl ?_
      refine z_iadd (v := (nI (Rn + 1))) hx hb (nI_add _ _) dX11_room_63 ?_
      refine z_putI (C := RX11) (T := TX11) (N := 14) (ci := 11) (ty := .int) hx hb hts hin11 tyX11 tyX11_ok nmX11 hown hK hI (zo0 hG) rfl 7 (by decide) wF139 (fun _ h9 => h9) rfl (fun _ _ => rfl) (by decide +kernel) rfl rfl (fun _ _ => Nat.le_of_ble_eq_true rfl) dX11_room_64 (fun H locs hI => ?_)
      refine lv_aload_n hx hb dX11_room_67 rfl (lv_at hl 1 rfl) ?_
      refine lv_iconst (v := (nI 0)) hx hb dX11_room_68 rfl ?_
      refine z_putI (C := RX11) (T := TX11) (N := 14) (ci := 11) (ty := .boolean) hx hb hts hin11 tyX11 tyX11_ok nmX11 hown hK hI (zo0 hG) rfl 9 (by decide) wF78 (fun _ h9 => h9) rfl (fun _ _ => rfl) (by decide +kernel) rfl rfl (fun _ _ => Nat.le_of_ble_eq_true rfl) dX11_room_69 (fun H locs hI => ?_)
      refine lv_aload_n hx hb dX11_room_72 rfl (lv_at hl 1 rfl) ?_
      refine z_get (C := RX11) (T := TX11) (N := 14) (ci := 11) (v := .ref (za G 1)) hx hb hts hin11 hown hK hI (zo0 hG) rfl 0 (by decide) wF12 (fun _ h9 => h9) rfl dX11_room_73 ?_
      refine z_get (C := RX7) (T := TX7) (N := 7) (ci := 7) (v := .int (nI Rn)) hx hb hts hin7 hown hK hI (zo1 hG) rfl 6 (by decide) wF150 (fun _ h9 => h9) (congrArg (fun q => some (Value.int q)) rfl) dX11_room_76 ?_
      exact z_iret hx hb hr hlocks hI (Or.inr (Or.inr ⟨by omega, Int32.not_le.mpr c_38, rfl, rfl⟩)) dX11_room_79
    · skip
      refine lv_bipush (v := (-10)) hx hb dX11_room_41 rfl ?_
      refine lv_iload_n hx hb dX11_room_43 rfl (lv_at hl 0 rfl) ?_
      refine lv_isub hx hb dX11_room_44 ?_
      exact z_iret hx hb hr hlocks hI (Or.inr (Or.inl ⟨by omega, Int32.not_lt.mp c_38, rfl, rfl⟩)) dX11_room_45
  · skip
    rw [zqL (by omega) (by omega)] at c_6
    refine lv_bipush (v := (-4)) hx hb dX11_room_9 rfl ?_
    exact z_iret hx hb hr hlocks hI (Or.inl ⟨by omega, rfl, rfl⟩) dX11_room_11
