set_option maxHeartbeats 1000000 in
set_option maxRecDepth 100000 in
theorem c_X11_acrossOf (l : Launch) {G : zG} (hG : zOK G) (x : zX) (N q1 : Nat) (hsit : zSit x N) (hq : q1 < N) : zMi l yX11_acrossOf wsX11_acrossOf { frames := 1, cells := 0, slots := 0, locals := 22 } G [.ref (za G 0), .int (nI q1)] x (fun (r : Int32) (u : zX) => x = u ∧ zocc (x.1 4 (2 * (zst x q1 / 2 ^^^ 1))) + zocc (x.1 4 (2 * (zst x q1 / 2 ^^^ 1) + 1)) = r) := by
  intro A
  refine zBody (cc := cX11_acrossOf) (maxL := 3) (ret := (some .int)) (by decide) rfl (Nat.le_of_ble_eq_true rfl) ?_
  intro p e s m below meth c hx hb hml hown hts hr hlocks hK hN hI ls hl
  have hown : s.vm.findClass RX11 = some m.cls := hown
  have hl : lv_has ls 3 [(0, .ref (za G 0)), (1, .int (nI q1))] := hl
  have hin7 : ∀ w ∈ wsX70, w ∈ wsX11_acrossOf := (fun _ h => List.mem_cons_of_mem _ (List.mem_append_right _ (h)))
  have hin11 : ∀ w ∈ wsX110, w ∈ wsX11_acrossOf := (fun _ h => List.mem_cons_of_mem _ (List.mem_append_left _ (List.mem_append_right _ (h))))
  have wF12 := hts (.fieldLink RX11 12 "WhoSitsBy" "now" "LWhoSitsBy$Standing;") (z_mem 1 rfl)
  have wF114 := hts (.fieldLink RX11 114 "WhoSitsBy$Standing" "sitters" "[I") (z_mem 2 rfl)
  refine lv_aload_n hx hb dX11_acrossOf_0 rfl (lv_at hl 0 rfl) ?_
  refine z_get (C := RX11) (T := TX11) (N := 14) (ci := 11) (v := .ref (za G 1)) hx hb hts hin11 hown hK hI (zo0 hG) rfl 0 (by decide) wF12 (fun _ h9 => h9) rfl dX11_acrossOf_1 ?_
  refine z_get (C := RX7) (T := TX7) (N := 7) (ci := 7) (v := .ref (za G 4)) hx hb hts hin7 hown hK hI (zo1 hG) rfl 1 (by decide) wF114 (fun _ h9 => h9) rfl dX11_acrossOf_4 ?_
  refine lv_iload_n hx hb dX11_acrossOf_7 rfl (lv_at hl 1 rfl) ?_
  refine z_calli (va_runS (As := [.ref (za G 4), .int (nI q1)]) (rest := []) ⟨hx, hb, hml, hown, hts⟩ ((c_X11_seatIn l hG x 4 (nI q1) (zo4 hG)) A) (va_cwS 2 hts gX11_acrossOf_X11_seatIn rfl rfl rfl (by decide +kernel) ⟨Nat.le_of_ble_eq_true rfl, Nat.le_of_ble_eq_true rfl⟩) (z_pS hI hK hN) rfl rfl hl.1 rfl (lv_room (Nat.le_of_ble_eq_true rfl)) dX11_acrossOf_8 ⟨Nat.zero_le _, Nat.zero_le _⟩) hI (fun r_8 u H locs hw hI => ?_)
  obtain ⟨rfl, rfl⟩ := hw
  rw [(hsit q1 hq).2]
  have ht8 := (hsit q1 hq).1
  refine lv_iconst (v := (nI 2)) hx hb dX11_acrossOf_11 rfl ?_
  refine z_idiv (v := (nI (zst x q1 / 2))) hx hb (pk_div (by omega) (by omega) (by omega)) dX11_acrossOf_12 (by decide) ?_
  refine lv_istore_n (lv' := [(2, .int (nI (zst x q1 / 2))), (0, .ref (za G 0)), (1, .int (nI q1))]) hx hb dX11_acrossOf_13 rfl hl (by decide) rfl (fun ls hl => ?_)
  refine lv_aload_n hx hb dX11_acrossOf_14 rfl (lv_at hl 1 rfl) ?_
  refine z_get (C := RX11) (T := TX11) (N := 14) (ci := 11) (v := .ref (za G 1)) hx hb hts hin11 hown hK hI (zo0 hG) rfl 0 (by decide) wF12 (fun _ h9 => h9) rfl dX11_acrossOf_15 ?_
  refine z_get (C := RX7) (T := TX7) (N := 7) (ci := 7) (v := .ref (za G 4)) hx hb hts hin7 hown hK hI (zo1 hG) rfl 1 (by decide) wF114 (fun _ h9 => h9) rfl dX11_acrossOf_18 ?_
  refine lv_iload_n hx hb dX11_acrossOf_21 rfl (lv_at hl 0 rfl) ?_
  refine lv_iconst (v := (nI 1)) hx hb dX11_acrossOf_22 rfl ?_
  refine z_ixor (v := (nI (zst x q1 / 2 ^^^ 1))) hx hb (zxor1 (by omega)) dX11_acrossOf_23 ?_
  refine z_calli (va_runS (As := [.ref (za G 4), .int (nI (zst x q1 / 2 ^^^ 1))]) (rest := []) ⟨hx, hb, hml, hown, hts⟩ ((c_X11_sittersAt l hG x 4 (zst x q1 / 2 ^^^ 1) (zo4 hG) (zxor4 (by omega))) A) (va_cwS 2 hts gX11_acrossOf_X11_sittersAt rfl rfl rfl (by decide +kernel) ⟨Nat.le_of_ble_eq_true rfl, Nat.le_of_ble_eq_true rfl⟩) (z_pS hI hK hN) rfl rfl hl.1 rfl (lv_room (Nat.le_of_ble_eq_true rfl)) dX11_acrossOf_24 ⟨Nat.zero_le _, Nat.zero_le _⟩) hI (fun r_24 u H locs hw hI => ?_)
  obtain ⟨rfl, rfl⟩ := hw
  exact z_iret hx hb hr hlocks hI (⟨rfl, rfl⟩) dX11_acrossOf_27
