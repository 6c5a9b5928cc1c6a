set_option maxHeartbeats 1000000 in
set_option maxRecDepth 100000 in
theorem c_X5_learns (l : Launch) {G : zG} (hG : zOK G) (x : zX) (N b p1 q1 C : Nat) (row : Int32) (hn : zNow G x N) (hb0 : zRm b) (hp : p1 < N) (hq9 : q1 < N) (hro : zRo x b C) : zMi l yX5_learns wsX5_learns { frames := 3, cells := 0, slots := 0, locals := 89 } G [.ref (za G b), .ref (za G (zob x p1)), .ref (za G (zob x q1)), .int row, .ref (za G 1)] x (fun (r : Int32) (u : zX) => (zlook x b p1 q1 row) = u ∧ zsm (zlook x b p1 q1 row) b (nI 0) C = r) := by
  intro A
  refine zBody (cc := cX5_learns) (maxL := 5) (ret := (some .int)) (by decide) rfl (Nat.le_of_ble_eq_true rfl) ?_
  intro p e s m below meth c hx hb hml hown hts hr hlocks hK hN hI ls hl
  have hown : s.vm.findClass RX5 = some m.cls := hown
  have hl : lv_has ls 5 [(0, .ref (za G b)), (1, .ref (za G (zob x p1))), (2, .ref (za G (zob x q1))), (3, .int row), (4, .ref (za G 1))] := hl
  refine lv_aload_n hx hb dX5_learns_0 rfl (lv_at hl 0 rfl) ?_
  refine lv_aload_n hx hb dX5_learns_1 rfl (lv_at hl 1 rfl) ?_
  refine lv_aload_n hx hb dX5_learns_2 rfl (lv_at hl 2 rfl) ?_
  refine lv_iload_n hx hb dX5_learns_3 rfl (lv_at hl 3 rfl) ?_
  refine lv_aload hx hb dX5_learns_4 (lv_at hl 4 rfl) ?_
  refine z_callv (va_runV (As := [.ref (za G (zob x p1)), .ref (za G (zob x q1)), .int row, .ref (za G 1)]) (rest := []) ⟨hx, hb, hml, hown, hts⟩ ((c_X5_look l hG x N b p1 q1 row hn hb0 hp hq9) A) (cwV 4 hts gX5_learns_X5_look rfl rfl rfl (by decide +kernel) ⟨Nat.le_of_ble_eq_true rfl, Nat.le_of_ble_eq_true rfl⟩) (z_pV hI hK hN (z_recv hK hI (zor hG hb0) rfl)) rfl rfl hl.1 rfl (lv_room (Nat.le_of_ble_eq_true rfl)) dX5_learns_6 ⟨Nat.zero_le _, Nat.zero_le _⟩) hI (fun u H locs hw hI => ?_)
  obtain rfl := hw
  refine lv_aload_n hx hb dX5_learns_9 rfl (lv_at hl 0 rfl) ?_
  refine lv_iconst (v := (nI 0)) hx hb dX5_learns_10 rfl ?_
  refine z_calli (va_runV (As := [.int (nI 0)]) (rest := []) ⟨hx, hb, hml, hown, hts⟩ ((c_X5_sumOf l hG (zlook x b p1 q1 row) b C (nI 0) hb0 (zRo_l hro)) A) (cwV 1 hts gX5_learns_X5_sumOf rfl rfl rfl (by decide +kernel) ⟨Nat.le_of_ble_eq_true rfl, Nat.le_of_ble_eq_true rfl⟩) (z_pV hI hK hN (z_recv hK hI (zor hG hb0) rfl)) rfl rfl hl.1 rfl (lv_room (Nat.le_of_ble_eq_true rfl)) dX5_learns_11 ⟨Nat.zero_le _, Nat.zero_le _⟩) hI (fun r_11 u H locs hw hI => ?_)
  obtain ⟨rfl, rfl⟩ := hw
  exact z_iret hx hb hr hlocks hI (⟨rfl, rfl⟩) dX5_learns_14
set_option maxHeartbeats 1000000 in
set_option maxRecDepth 100000 in
theorem c_X5_louds (l : Launch) {G : zG} (hG : zOK G) (x : zX) (N b p1 q1 C : Nat) (row : Int32) (hn : zNow G x N) (hb0 : zRm b) (hp : p1 < N) (hq9 : q1 < N) (hro : zRo x b C) : zMi l yX5_louds wsX5_louds { frames := 3, cells := 0, slots := 0, locals := 89 } G [.ref (za G b), .ref (za G (zob x p1)), .ref (za G (zob x q1)), .int row, .ref (za G 1)] x (fun (r : Int32) (u : zX) => (zlook x b p1 q1 row) = u ∧ zsm (zlook x b p1 q1 row) b (nI 1) C = r) := by
  intro A
  refine zBody (cc := cX5_louds) (maxL := 5) (ret := (some .int)) (by decide) rfl (Nat.le_of_ble_eq_true rfl) ?_
  intro p e s m below meth c hx hb hml hown hts hr hlocks hK hN hI ls hl
  have hown : s.vm.findClass RX5 = some m.cls := hown
  have hl : lv_has ls 5 [(0, .ref (za G b)), (1, .ref (za G (zob x p1))), (2, .ref (za G (zob x q1))), (3, .int row), (4, .ref (za G 1))] := hl
  refine lv_aload_n hx hb dX5_louds_0 rfl (lv_at hl 0 rfl) ?_
  refine lv_aload_n hx hb dX5_louds_1 rfl (lv_at hl 1 rfl) ?_
  refine lv_aload_n hx hb dX5_louds_2 rfl (lv_at hl 2 rfl) ?_
  refine lv_iload_n hx hb dX5_louds_3 rfl (lv_at hl 3 rfl) ?_
  refine lv_aload hx hb dX5_louds_4 (lv_at hl 4 rfl) ?_
  refine z_callv (va_runV (As := [.ref (za G (zob x p1)), .ref (za G (zob x q1)), .int row, .ref (za G 1)]) (rest := []) ⟨hx, hb, hml, hown, hts⟩ ((c_X5_look l hG x N b p1 q1 row hn hb0 hp hq9) A) (cwV 4 hts gX5_louds_X5_look rfl rfl rfl (by decide +kernel) ⟨Nat.le_of_ble_eq_true rfl, Nat.le_of_ble_eq_true rfl⟩) (z_pV hI hK hN (z_recv hK hI (zor hG hb0) rfl)) rfl rfl hl.1 rfl (lv_room (Nat.le_of_ble_eq_true rfl)) dX5_louds_6 ⟨Nat.zero_le _, Nat.zero_le _⟩) hI (fun u H locs hw hI => ?_)
  obtain rfl := hw
  refine lv_aload_n hx hb dX5_louds_9 rfl (lv_at hl 0 rfl) ?_
  refine lv_iconst (v := (nI 1)) hx hb dX5_louds_10 rfl ?_
  refine z_calli (va_runV (As := [.int (nI 1)]) (rest := []) ⟨hx, hb, hml, hown, hts⟩ ((c_X5_sumOf l hG (zlook x b p1 q1 row) b C (nI 1) hb0 (zRo_l hro)) A) (cwV 1 hts gX5_louds_X5_sumOf rfl rfl rfl (by decide +kernel) ⟨Nat.le_of_ble_eq_true rfl, Nat.le_of_ble_eq_true rfl⟩) (z_pV hI hK hN (z_recv hK hI (zor hG hb0) rfl)) rfl rfl hl.1 rfl (lv_room (Nat.le_of_ble_eq_true rfl)) dX5_louds_11 ⟨Nat.zero_le _, Nat.zero_le _⟩) hI (fun r_11 u H locs hw hI => ?_)
  obtain ⟨rfl, rfl⟩ := hw
  exact z_iret hx hb hr hlocks hI (⟨rfl, rfl⟩) dX5_louds_14
set_option maxHeartbeats 1000000 in
set_option maxRecDepth 100000 in
theorem c_X5_isBarred (l : Launch) {G : zG} (hG : zOK G) (x : zX) (N b p1 q1 C : Nat) (row : Int32) (hn : zNow G x N) (hb0 : zRm b) (hp : p1 < N) (hq9 : q1 < N) (hro : zRo x b C) : zMi l yX5_isBarred wsX5_isBarred { frames := 3, cells := 0, slots := 0, locals := 89 } G [.ref (za G b), .ref (za G (zob x p1)), .ref (za G (zob x q1)), .int row, .ref (za G 1)] x (fun (r : Int32) (u : zX) => (0 < zsm (zlook x b p1 q1 row) b (nI 2) C ∧ (zlook x b p1 q1 row) = u ∧ nI 1 = r) ∨ (¬ 0 < zsm (zlook x b p1 q1 row) b (nI 2) C ∧ (zlook (zlook x b p1 q1 row) b q1 p1 row) = u ∧ (if 0 < zsm (zlook (zlook x b p1 q1 row) b q1 p1 row) b (nI 2) C then nI 1 else nI 0) = r)) := by
  intro A
  refine zBody (cc := cX5_isBarred) (maxL := 5) (ret := (some .boolean)) (by decide) rfl (Nat.le_of_ble_eq_true rfl) ?_
  intro p e s m below meth c hx hb hml hown hts hr hlocks hK hN hI ls hl
  have hown : s.vm.findClass RX5 = some m.cls := hown
  have hl : lv_has ls 5 [(0, .ref (za G b)), (1, .ref (za G (zob x p1))), (2, .ref (za G (zob x q1))), (3, .int row), (4, .ref (za G 1))] := hl
  refine lv_aload_n hx hb dX5_isBarred_0 rfl (lv_at hl 0 rfl) ?_
  refine lv_aload_n hx hb dX5_isBarred_1 rfl (lv_at hl 1 rfl) ?_
  refine lv_aload_n hx hb dX5_isBarred_2 rfl (lv_at hl 2 rfl) ?_
  refine lv_iload_n hx hb dX5_isBarred_3 rfl (lv_at hl 3 rfl) ?_
  refine lv_aload hx hb dX5_isBarred_4 (lv_at hl 4 rfl) ?_
  refine z_callv (va_runV (As := [.ref (za G (zob x p1)), .ref (za G (zob x q1)), .int row, .ref (za G 1)]) (rest := []) ⟨hx, hb, hml, hown, hts⟩ ((c_X5_look l hG x N b p1 q1 row hn hb0 hp hq9) A) (cwV 4 hts gX5_isBarred_X5_look rfl rfl rfl (by decide +kernel) ⟨Nat.le_of_ble_eq_true rfl, Nat.le_of_ble_eq_true rfl⟩) (z_pV hI hK hN (z_recv hK hI (zor hG hb0) rfl)) rfl rfl hl.1 rfl (lv_room (Nat.le_of_ble_eq_true rfl)) dX5_isBarred_6 ⟨Nat.zero_le _, Nat.zero_le _⟩) hI (fun u H locs hw hI => ?_)
  obtain rfl := hw
  refine lv_aload_n hx hb dX5_isBarred_9 rfl (lv_at hl 0 rfl) ?_
  refine lv_iconst (v := (nI 2)) hx hb dX5_isBarred_10 rfl ?_
  refine z_calli (va_runV (As := [.int (nI 2)]) (rest := []) ⟨hx, hb, hml, hown, hts⟩ ((c_X5_sumOf l hG (zlook x b p1 q1 row) b C (nI 2) hb0 (zRo_l hro)) A) (cwV 1 hts gX5_isBarred_X5_sumOf rfl rfl rfl (by decide +kernel) ⟨Nat.le_of_ble_eq_true rfl, Nat.le_of_ble_eq_true rfl⟩) (z_pV hI hK hN (z_recv hK hI (zor hG hb0) rfl)) rfl rfl hl.1 rfl (lv_room (Nat.le_of_ble_eq_true rfl)) dX5_isBarred_11 ⟨Nat.zero_le _, Nat.zero_le _⟩) hI (fun r_11 u H locs hw hI => ?_)
  obtain ⟨rfl, rfl⟩ := hw
  refine lv_if_le (tgt := 19) hx hb dX5_isBarred_14 (by decide) (fun c_14 => ?_) (fun c_14 => ?_)
  · skip
    refine lv_aload_n hx hb dX5_isBarred_19 rfl (lv_at hl 0 rfl) ?_
    refine lv_aload_n hx hb dX5_isBarred_20 rfl (lv_at hl 2 rfl) ?_
    refine lv_aload_n hx hb dX5_isBarred_21 rfl (lv_at hl 1 rfl) ?_
    refine lv_iload_n hx hb dX5_isBarred_22 rfl (lv_at hl 3 rfl) ?_
    refine lv_aload hx hb dX5_isBarred_23 (lv_at hl 4 rfl) ?_
    refine z_callv (va_runV (As := [.ref (za G (zob x q1)), .ref (za G (zob x p1)), .int row, .ref (za G 1)]) (rest := []) ⟨hx, hb, hml, hown, hts⟩ ((c_X5_look l hG (zlook x b p1 q1 row) N b q1 p1 row (zNow_l hb0 hn) hb0 hq9 hp) A) (cwV 4 hts gX5_isBarred_X5_look rfl rfl rfl (by decide +kernel) ⟨Nat.le_of_ble_eq_true rfl, Nat.le_of_ble_eq_true rfl⟩) (z_pV hI hK hN (z_recv hK hI (zor hG hb0) rfl)) rfl rfl hl.1 rfl (lv_room (Nat.le_of_ble_eq_true rfl)) dX5_isBarred_25 ⟨Nat.zero_le _, Nat.zero_le _⟩) hI (fun u H locs hw hI => ?_)
    obtain rfl := hw
    refine lv_aload_n hx hb dX5_isBarred_28 rfl (lv_at hl 0 rfl) ?_
    refine lv_iconst (v := (nI 2)) hx hb dX5_isBarred_29 rfl ?_
    refine z_calli (va_runV (As := [.int (nI 2)]) (rest := []) ⟨hx, hb, hml, hown, hts⟩ ((c_X5_sumOf l hG (zlook (zlook x b p1 q1 row) b q1 p1 row) b C (nI 2) hb0 (zRo_l (zRo_l hro))) A) (cwV 1 hts gX5_isBarred_X5_sumOf rfl rfl rfl (by decide +kernel) ⟨Nat.le_of_ble_eq_true rfl, Nat.le_of_ble_eq_true rfl⟩) (z_pV hI hK hN (z_recv hK hI (zor hG hb0) rfl)) rfl rfl hl.1 rfl (lv_room (Nat.le_of_ble_eq_true rfl)) dX5_isBarred_30 ⟨Nat.zero_le _, Nat.zero_le _⟩) hI (fun r_30 u H locs hw hI => ?_)
    obtain ⟨rfl, rfl⟩ := hw
    refine lv_if_le (tgt := 40) hx hb dX5_isBarred_33 (by decide) (fun c_33 => ?_) (fun c_33 => ?_)
    · skip
      refine lv_iconst (v := (nI 0)) hx hb dX5_isBarred_40 rfl ?_
      exact z_zret hx hb hr hlocks hI (Or.inl rfl) (Or.inr ⟨z_nle c_14, rfl, if_neg (z_nle c_33)⟩) dX5_isBarred_41
    · skip
      refine lv_iconst (v := (nI 1)) hx hb dX5_isBarred_36 rfl ?_
      refine lv_goto (tgt := 41) hx hb dX5_isBarred_37 (by decide) ?_
      exact z_zret hx hb hr hlocks hI (Or.inr rfl) (Or.inr ⟨z_nle c_14, rfl, if_pos (z_le c_33)⟩) dX5_isBarred_41
  · skip
    refine lv_iconst (v := (nI 1)) hx hb dX5_isBarred_17 rfl ?_
    exact z_zret hx hb hr hlocks hI (Or.inr rfl) (Or.inl ⟨z_le c_14, rfl, rfl⟩) dX5_isBarred_18
