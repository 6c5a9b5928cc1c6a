set_option maxHeartbeats 1000000 in
set_option maxRecDepth 100000 in
theorem c_X5_worth (l : Launch) {G : zG} (hG : zOK G) (x : zX) (N b p1 q1 C : Nat) (row : Int32) (hn : zNow G x N) (hb0 : zRm b) (hp : p1 < N) (hq9 : q1 < N) (hro : zRo x b C) : zMi l yX5_worth wsX5_worth { frames := 3, cells := 0, slots := 0, locals := 89 } G [.ref (za G b), .ref (za G (zob x p1)), .ref (za G (zob x q1)), .int row, .ref (za G 1)] x (fun (r : Int32) (u : zX) => (zlook x b p1 q1 row) = u ∧ zwby (zlook x b p1 q1 row) N (zk G (zob x p1)) p1 q1 (zsm (zlook x b p1 q1 row) b (nI 0) C - zsm (zlook x b p1 q1 row) b (nI 1) C) = r) := by
  intro A
  refine zBody (cc := cX5_worth) (maxL := 5) (ret := (some .int)) (by decide) rfl (Nat.le_of_ble_eq_true rfl) ?_
  intro p e s m below meth c hx hb hml hown hts hr hlocks hK hN hI ls hl
  have hown : s.vm.findClass RX5 = some m.cls := hown
  have hl : lv_has ls 5 [(0, .ref (za G b)), (1, .ref (za G (zob x p1))), (2, .ref (za G (zob x q1))), (3, .int row), (4, .ref (za G 1))] := hl
  refine lv_aload_n hx hb dX5_worth_0 rfl (lv_at hl 0 rfl) ?_
  refine lv_aload_n hx hb dX5_worth_1 rfl (lv_at hl 1 rfl) ?_
  refine lv_aload_n hx hb dX5_worth_2 rfl (lv_at hl 2 rfl) ?_
  refine lv_iload_n hx hb dX5_worth_3 rfl (lv_at hl 3 rfl) ?_
  refine lv_aload hx hb dX5_worth_4 (lv_at hl 4 rfl) ?_
  refine z_callv (va_runV (As := [.ref (za G (zob x p1)), .ref (za G (zob x q1)), .int row, .ref (za G 1)]) (rest := []) ⟨hx, hb, hml, hown, hts⟩ ((c_X5_look l hG x N b p1 q1 row hn hb0 hp hq9) A) (cwV 4 hts gX5_worth_X5_look rfl rfl rfl (by decide +kernel) ⟨Nat.le_of_ble_eq_true rfl, Nat.le_of_ble_eq_true rfl⟩) (z_pV hI hK hN (z_recv hK hI (zor hG hb0) rfl)) rfl rfl hl.1 rfl (lv_room (Nat.le_of_ble_eq_true rfl)) dX5_worth_6 ⟨Nat.zero_le _, Nat.zero_le _⟩) hI (fun u H locs hw hI => ?_)
  obtain rfl := hw
  refine lv_aload_n hx hb dX5_worth_9 rfl (lv_at hl 1 rfl) ?_
  refine lv_aload_n hx hb dX5_worth_10 rfl (lv_at hl 2 rfl) ?_
  refine lv_aload_n hx hb dX5_worth_11 rfl (lv_at hl 0 rfl) ?_
  refine lv_iconst (v := (nI 0)) hx hb dX5_worth_12 rfl ?_
  refine z_calli (va_runV (As := [.int (nI 0)]) (rest := [.ref (za G (zob x q1)), .ref (za G (zob x p1))]) ⟨hx, hb, hml, hown, hts⟩ ((c_X5_sumOf l hG (zlook x b p1 q1 row) b C (nI 0) hb0 (zRo_l hro)) A) (cwV 1 hts gX5_worth_X5_sumOf rfl rfl rfl (by decide +kernel) ⟨Nat.le_of_ble_eq_true rfl, Nat.le_of_ble_eq_true rfl⟩) (z_pV hI hK hN (z_recv hK hI (zor hG hb0) rfl)) rfl rfl hl.1 rfl (lv_room (Nat.le_of_ble_eq_true rfl)) dX5_worth_13 ⟨Nat.zero_le _, Nat.zero_le _⟩) hI (fun r_13 u H locs hw hI => ?_)
  obtain ⟨rfl, rfl⟩ := hw
  refine lv_aload_n hx hb dX5_worth_16 rfl (lv_at hl 0 rfl) ?_
  refine lv_iconst (v := (nI 1)) hx hb dX5_worth_17 rfl ?_
  refine z_calli (va_runV (As := [.int (nI 1)]) (rest := [.int (zsm (zlook x b p1 q1 row) b (nI 0) C), .ref (za G (zob x q1)), .ref (za G (zob x p1))]) ⟨hx, hb, hml, hown, hts⟩ ((c_X5_sumOf l hG (zlook x b p1 q1 row) b C (nI 1) hb0 (zRo_l hro)) A) (cwV 1 hts gX5_worth_X5_sumOf rfl rfl rfl (by decide +kernel) ⟨Nat.le_of_ble_eq_true rfl, Nat.le_of_ble_eq_true rfl⟩) (z_pV hI hK hN (z_recv hK hI (zor hG hb0) rfl)) rfl rfl hl.1 rfl (lv_room (Nat.le_of_ble_eq_true rfl)) dX5_worth_18 ⟨Nat.zero_le _, Nat.zero_le _⟩) hI (fun r_18 u H locs hw hI => ?_)
  obtain ⟨rfl, rfl⟩ := hw
  refine lv_isub hx hb dX5_worth_21 ?_
  refine lv_aload hx hb dX5_worth_22 (lv_at hl 4 rfl) ?_
  have hrun_24 : va_Run p l e { frames := 3, cells := 0, slots := 0, locals := 89 } s m ([.ref (za G b), .ref (za G (zob x p1)), .ref (za G (zob x q1)), .int row, .ref (za G 1)] : List Value).toArray below meth c H locs 0 0 0 0 (F0 m 24 ls [.ref (za G 1), .int ((zsm (zlook x b p1 q1 row) b (nI 0) C) - (zsm (zlook x b p1 q1 row) b (nI 1) C)), .ref (za G (zob x q1)), .ref (za G (zob x p1))]) [] (va_Qi (fun (r : Int32) (u : zX) => (zlook x b p1 q1 row) = u ∧ zwby (zlook x b p1 q1 row) N (zk G (zob x p1)) p1 q1 ((zsm (zlook x b p1 q1 row) b (nI 0) C) - (zsm (zlook x b p1 q1 row) b (nI 1) C)) = r) (fun u t => zJ G u A t.heap) A (Value.ref (za G (zob x p1)) :: [.ref (za G (zob x q1)), .int ((zsm (zlook x b p1 q1 row) b (nI 0) C) - (zsm (zlook x b p1 q1 row) b (nI 1) C)), .ref (za G 1)]).toArray) A := by
    have ho := zop (G := G) (hn.2.2.1 p1 hp).2.1 (hn.2.2.1 p1 hp).2.2.1
    rcases hG.2 (zob x p1) (hn.2.2.1 p1 hp).2.1 (hn.2.2.1 p1 hp).2.2.1 with h | h | h | h | h | h | h <;> rw [h] at ho
    · rw [h]
      exact va_runU (As := [.ref (za G (zob x q1)), .int ((zsm (zlook x b p1 q1 row) b (nI 0) C) - (zsm (zlook x b p1 q1 row) b (nI 1) C)), .ref (za G 1)]) (rest := []) ⟨hx, hb, hml, hown, hts⟩ ((c_X8_worthBy l hG (zlook x b p1 q1 row) N p1 q1 ((zsm (zlook x b p1 q1 row) b (nI 0) C) - (zsm (zlook x b p1 q1 row) b (nI 1) C)) (zNow_l hb0 hn) hp hq9) A) (va_cwO 3 hts gX5_worth_X8_worthBy_u146X0 rfl rfl rfl (z_mem 52 rfl) (by decide +kernel) ⟨Nat.le_of_ble_eq_true rfl, Nat.le_of_ble_eq_true rfl⟩) (z_pV hI hK hN (z_recv hK hI ho rfl)) rfl rfl hl.1 rfl (lv_room (Nat.le_of_ble_eq_true rfl)) dX5_worth_24 ⟨Nat.zero_le _, Nat.zero_le _⟩
    · rw [h]
      exact va_runU (As := [.ref (za G (zob x q1)), .int ((zsm (zlook x b p1 q1 row) b (nI 0) C) - (zsm (zlook x b p1 q1 row) b (nI 1) C)), .ref (za G 1)]) (rest := []) ⟨hx, hb, hml, hown, hts⟩ ((c_X1_worthBy l hG (zlook x b p1 q1 row) N p1 q1 ((zsm (zlook x b p1 q1 row) b (nI 0) C) - (zsm (zlook x b p1 q1 row) b (nI 1) C)) (zNow_l hb0 hn) hp hq9) A) (va_cwO 3 hts gX5_worth_X1_worthBy_u146X1 rfl rfl rfl (z_mem 52 rfl) (by decide +kernel) ⟨Nat.le_of_ble_eq_true rfl, Nat.le_of_ble_eq_true rfl⟩) (z_pV hI hK hN (z_recv hK hI ho rfl)) rfl rfl hl.1 rfl (lv_room (Nat.le_of_ble_eq_true rfl)) dX5_worth_24 ⟨Nat.zero_le _, Nat.zero_le _⟩
    · rw [h]
      exact va_runU (As := [.ref (za G (zob x q1)), .int ((zsm (zlook x b p1 q1 row) b (nI 0) C) - (zsm (zlook x b p1 q1 row) b (nI 1) C)), .ref (za G 1)]) (rest := []) ⟨hx, hb, hml, hown, hts⟩ ((c_X2_worthBy l hG (zlook x b p1 q1 row) N p1 q1 ((zsm (zlook x b p1 q1 row) b (nI 0) C) - (zsm (zlook x b p1 q1 row) b (nI 1) C)) (zNow_l hb0 hn) hp hq9) A) (va_cwO 3 hts gX5_worth_X2_worthBy_u146X2 rfl rfl rfl (z_mem 52 rfl) (by decide +kernel) ⟨Nat.le_of_ble_eq_true rfl, Nat.le_of_ble_eq_true rfl⟩) (z_pV hI hK hN (z_recv hK hI ho rfl)) rfl rfl hl.1 rfl (lv_room (Nat.le_of_ble_eq_true rfl)) dX5_worth_24 ⟨Nat.zero_le _, Nat.zero_le _⟩
    · rw [h]
      exact va_runU (As := [.ref (za G (zob x q1)), .int ((zsm (zlook x b p1 q1 row) b (nI 0) C) - (zsm (zlook x b p1 q1 row) b (nI 1) C)), .ref (za G 1)]) (rest := []) ⟨hx, hb, hml, hown, hts⟩ ((c_X3_worthBy l hG (zlook x b p1 q1 row) N p1 q1 ((zsm (zlook x b p1 q1 row) b (nI 0) C) - (zsm (zlook x b p1 q1 row) b (nI 1) C)) (zNow_l hb0 hn) hp hq9) A) (va_cwO 3 hts gX5_worth_X3_worthBy_u146X3 rfl rfl rfl (z_mem 52 rfl) (by decide +kernel) ⟨Nat.le_of_ble_eq_true rfl, Nat.le_of_ble_eq_true rfl⟩) (z_pV hI hK hN (z_recv hK hI ho rfl)) rfl rfl hl.1 rfl (lv_room (Nat.le_of_ble_eq_true rfl)) dX5_worth_24 ⟨Nat.zero_le _, Nat.zero_le _⟩
    · rw [h]
      exact va_runV (As := [.ref (za G (zob x q1)), .int ((zsm (zlook x b p1 q1 row) b (nI 0) C) - (zsm (zlook x b p1 q1 row) b (nI 1) C)), .ref (za G 1)]) (rest := []) ⟨hx, hb, hml, hown, hts⟩ ((c_X4_worthBy l hG (zlook x b p1 q1 row) N p1 q1 ((zsm (zlook x b p1 q1 row) b (nI 0) C) - (zsm (zlook x b p1 q1 row) b (nI 1) C)) (zNow_l hb0 hn) hp hq9) A) (cwV 3 hts gX5_worth_X4_worthBy rfl rfl rfl (by decide +kernel) ⟨Nat.le_of_ble_eq_true rfl, Nat.le_of_ble_eq_true rfl⟩) (z_pV hI hK hN (z_recv hK hI ho rfl)) rfl rfl hl.1 rfl (lv_room (Nat.le_of_ble_eq_true rfl)) dX5_worth_24 ⟨Nat.zero_le _, Nat.zero_le _⟩
    · rw [h]
      exact va_runU (As := [.ref (za G (zob x q1)), .int ((zsm (zlook x b p1 q1 row) b (nI 0) C) - (zsm (zlook x b p1 q1 row) b (nI 1) C)), .ref (za G 1)]) (rest := []) ⟨hx, hb, hml, hown, hts⟩ ((c_X8_worthBy l hG (zlook x b p1 q1 row) N p1 q1 ((zsm (zlook x b p1 q1 row) b (nI 0) C) - (zsm (zlook x b p1 q1 row) b (nI 1) C)) (zNow_l hb0 hn) hp hq9) A) (va_cwO 3 hts gX5_worth_X8_worthBy_u146X8 rfl rfl rfl (z_mem 52 rfl) (by decide +kernel) ⟨Nat.le_of_ble_eq_true rfl, Nat.le_of_ble_eq_true rfl⟩) (z_pV hI hK hN (z_recv hK hI ho rfl)) rfl rfl hl.1 rfl (lv_room (Nat.le_of_ble_eq_true rfl)) dX5_worth_24 ⟨Nat.zero_le _, Nat.zero_le _⟩
    · rw [h]
      exact va_runU (As := [.ref (za G (zob x q1)), .int ((zsm (zlook x b p1 q1 row) b (nI 0) C) - (zsm (zlook x b p1 q1 row) b (nI 1) C)), .ref (za G 1)]) (rest := []) ⟨hx, hb, hml, hown, hts⟩ ((c_X10_worthBy l hG (zlook x b p1 q1 row) N p1 q1 ((zsm (zlook x b p1 q1 row) b (nI 0) C) - (zsm (zlook x b p1 q1 row) b (nI 1) C)) (zNow_l hb0 hn) hp hq9) A) (va_cwO 3 hts gX5_worth_X10_worthBy_u146X10 rfl rfl rfl (z_mem 52 rfl) (by decide +kernel) ⟨Nat.le_of_ble_eq_true rfl, Nat.le_of_ble_eq_true rfl⟩) (z_pV hI hK hN (z_recv hK hI ho rfl)) rfl rfl hl.1 rfl (lv_room (Nat.le_of_ble_eq_true rfl)) dX5_worth_24 ⟨Nat.zero_le _, Nat.zero_le _⟩
  refine z_calli hrun_24 hI (fun r_24 u H locs hw hI => ?_)
  obtain ⟨rfl, rfl⟩ := hw
  exact z_iret hx hb hr hlocks hI (⟨rfl, rfl⟩) dX5_worth_27
