set_option maxHeartbeats 1000000 in
set_option maxRecDepth 100000 in
theorem c_X4_sits (l : Launch) {G : zG} (hG : zOK G) (x : zX) (i : Nat) (w : Int32) (hp1 : 112 ≤ i) (hp2 : i < zn G) : zMi l yX4_sits wsX4_sits { frames := 1, cells := 0, slots := 0, locals := 21 } G [.ref (za G i), .int w, .ref (za G 17)] x (fun (r : Int32) (u : zX) => zbgs [nI 10] x = u ∧ w + x.1 i 0 = r) := by
  intro A
  refine zBody (cc := cX4_sits) (maxL := 3) (ret := (some .int)) (by decide) rfl (Nat.le_of_ble_eq_true rfl) ?_
  intro p e s m below meth c hx hb hml hown hts hr hlocks hK hN hI ls hl
  have hown : s.vm.findClass RX4 = some m.cls := hown
  have hl : lv_has ls 3 [(0, .ref (za G i)), (1, .int w), (2, .ref (za G 17))] := hl
  have hin0 : ∀ w ∈ wsX00, w ∈ wsX4_sits := (fun _ h => List.mem_cons_of_mem _ (List.mem_append_left _ (List.mem_append_left _ (List.mem_append_left _ (List.mem_append_left _ (List.mem_append_left _ (List.mem_append_left _ (List.mem_append_left _ (List.mem_append_right _ (h))))))))))
  have hin1 : ∀ w ∈ wsX10, w ∈ wsX4_sits := (fun _ h => List.mem_cons_of_mem _ (List.mem_append_left _ (List.mem_append_left _ (List.mem_append_left _ (List.mem_append_left _ (List.mem_append_left _ (List.mem_append_left _ (List.mem_append_right _ (h)))))))))
  have hin2 : ∀ w ∈ wsX20, w ∈ wsX4_sits := (fun _ h => List.mem_cons_of_mem _ (List.mem_append_left _ (List.mem_append_left _ (List.mem_append_left _ (List.mem_append_left _ (List.mem_append_left _ (List.mem_append_right _ (h))))))))
  have hin3 : ∀ w ∈ wsX30, w ∈ wsX4_sits := (fun _ h => List.mem_cons_of_mem _ (List.mem_append_left _ (List.mem_append_left _ (List.mem_append_left _ (List.mem_append_left _ (List.mem_append_right _ (h)))))))
  have hin4 : ∀ w ∈ wsX40, w ∈ wsX4_sits := (fun _ h => List.mem_cons_of_mem _ (List.mem_append_left _ (List.mem_append_left _ (List.mem_append_left _ (List.mem_append_right _ (h))))))
  have hin8 : ∀ w ∈ wsX80, w ∈ wsX4_sits := (fun _ h => List.mem_cons_of_mem _ (List.mem_append_left _ (List.mem_append_left _ (List.mem_append_right _ (h)))))
  have hin10 : ∀ w ∈ wsX100, w ∈ wsX4_sits := (fun _ h => List.mem_cons_of_mem _ (List.mem_append_left _ (List.mem_append_right _ (h))))
  have wF7 := hts (.fieldLink RX4 7 "WhoSitsBy$Pupil" "number" "I") (z_mem 1 rfl)
  refine lv_aload_n hx hb dX4_sits_0 rfl (lv_at hl 2 rfl) ?_
  refine lv_bipush (v := (nI 10)) hx hb dX4_sits_1 rfl ?_
  refine z_callv (va_runV (As := [.int (nI 10)]) (rest := []) ⟨hx, hb, hml, hown, hts⟩ ((c_X9_begin l hG x (nI 10)) A) (cwV 1 hts gX4_sits_X9_begin rfl rfl rfl (by decide +kernel) ⟨Nat.le_of_ble_eq_true rfl, Nat.le_of_ble_eq_true rfl⟩) (z_pV hI hK hN (z_recv hK hI (zo17 hG) rfl)) rfl rfl hl.1 rfl (lv_room (Nat.le_of_ble_eq_true rfl)) dX4_sits_3 ⟨Nat.zero_le _, Nat.zero_le _⟩) hI (fun u H locs hw hI => ?_)
  obtain rfl := hw
  refine lv_iload_n hx hb dX4_sits_6 rfl (lv_at hl 1 rfl) ?_
  refine lv_aload_n hx hb dX4_sits_7 rfl (lv_at hl 0 rfl) ?_
  refine z_getP hx hb hts ⟨hin0, hin1, hin2, hin3, hin4, hin8, hin10⟩ hown hK hG hI hp1 hp2 0 (by decide) wF7 (fun _ h9 => h9) dX4_sits_8 ?_
  rw [show ((zbeg (nI 10) x).1 i 0) = x.1 i 0 from congrFun (zbeg_n (show i ≠ 17 by omega) (show i ≠ 18 by omega)) 0]
  refine lv_iadd hx hb dX4_sits_11 ?_
  exact z_iret hx hb hr hlocks hI (⟨rfl, rfl⟩) dX4_sits_12
set_option maxHeartbeats 1000000 in
set_option maxRecDepth 100000 in
theorem c_X8_sits (l : Launch) {G : zG} (hG : zOK G) (x : zX) (i : Nat) (w : Int32) (hp1 : 112 ≤ i) (hp2 : i < zn G) : zMi l yX8_sits wsX8_sits { frames := 2, cells := 0, slots := 0, locals := 43 } G [.ref (za G i), .int w, .ref (za G 17)] x (fun (r : Int32) (u : zX) => zbgs [nI 30, nI 10] x = u ∧ w * nI 3 + x.1 i 0 = r) := by
  intro A
  refine zBody (cc := cX8_sits) (maxL := 3) (ret := (some .int)) (by decide) rfl (Nat.le_of_ble_eq_true rfl) ?_
  intro p e s m below meth c hx hb hml hown hts hr hlocks hK hN hI ls hl
  have hown : s.vm.findClass RX8 = some m.cls := hown
  have hl : lv_has ls 3 [(0, .ref (za G i)), (1, .int w), (2, .ref (za G 17))] := hl
  refine lv_aload_n hx hb dX8_sits_0 rfl (lv_at hl 2 rfl) ?_
  refine lv_bipush (v := (nI 30)) hx hb dX8_sits_1 rfl ?_
  refine z_callv (va_runV (As := [.int (nI 30)]) (rest := []) ⟨hx, hb, hml, hown, hts⟩ ((c_X9_begin l hG x (nI 30)) A) (cwV 1 hts gX8_sits_X9_begin rfl rfl rfl (by decide +kernel) ⟨Nat.le_of_ble_eq_true rfl, Nat.le_of_ble_eq_true rfl⟩) (z_pV hI hK hN (z_recv hK hI (zo17 hG) rfl)) rfl rfl hl.1 rfl (lv_room (Nat.le_of_ble_eq_true rfl)) dX8_sits_3 ⟨Nat.zero_le _, Nat.zero_le _⟩) hI (fun u H locs hw hI => ?_)
  obtain rfl := hw
  refine lv_aload_n hx hb dX8_sits_6 rfl (lv_at hl 0 rfl) ?_
  refine lv_iload_n hx hb dX8_sits_7 rfl (lv_at hl 1 rfl) ?_
  refine lv_iconst (v := (nI 3)) hx hb dX8_sits_8 rfl ?_
  refine lv_imul hx hb dX8_sits_9 ?_
  refine lv_aload_n hx hb dX8_sits_10 rfl (lv_at hl 2 rfl) ?_
  obtain ⟨rcl_11, hcl_11⟩ := zclq hG hp1 hp2
  refine z_calli (va_runSU (As := [.int (w * (nI 3)), .ref (za G 17)]) (rest := []) (hK.1 _ _ hcl_11).2 ⟨hx, hb, hml, hown, hts⟩ ((c_X4_sits l hG (zbeg (nI 30) x) i (w * (nI 3)) hp1 hp2) A) (va_cwSU 2 hts gX8_sits_X4_sits_s23 rfl rfl rfl (by decide +kernel) ⟨Nat.le_of_ble_eq_true rfl, Nat.le_of_ble_eq_true rfl⟩) (z_pV hI hK hN (z_recv hK hI (zop (G := G) hp1 hp2) hcl_11)) rfl rfl hl.1 rfl (lv_room (Nat.le_of_ble_eq_true rfl)) dX8_sits_11 ⟨Nat.zero_le _, Nat.zero_le _⟩) hI (fun r_11 u H locs hw hI => ?_)
  obtain ⟨rfl, rfl⟩ := hw
  exact z_iret hx hb hr hlocks hI (⟨rfl, by simp only [zbgs_n (show i ≠ 17 by omega) (show i ≠ 18 by omega), zbeg_n (show i ≠ 17 by omega) (show i ≠ 18 by omega)]⟩) dX8_sits_14
set_option maxHeartbeats 1000000 in
set_option maxRecDepth 100000 in
theorem c_X3_sits (l : Launch) {G : zG} (hG : zOK G) (x : zX) (i : Nat) (w : Int32) (hp1 : 112 ≤ i) (hp2 : i < zn G) : zMi l yX3_sits wsX3_sits { frames := 2, cells := 0, slots := 0, locals := 43 } G [.ref (za G i), .int w, .ref (za G 17)] x (fun (r : Int32) (u : zX) => zbgs [nI 50, nI 10] x = u ∧ -(w + x.1 i 0) = r) := by
  intro A
  refine zBody (cc := cX3_sits) (maxL := 3) (ret := (some .int)) (by decide) rfl (Nat.le_of_ble_eq_true rfl) ?_
  intro p e s m below meth c hx hb hml hown hts hr hlocks hK hN hI ls hl
  have hown : s.vm.findClass RX3 = some m.cls := hown
  have hl : lv_has ls 3 [(0, .ref (za G i)), (1, .int w), (2, .ref (za G 17))] := hl
  refine lv_aload_n hx hb dX3_sits_0 rfl (lv_at hl 2 rfl) ?_
  refine lv_bipush (v := (nI 50)) hx hb dX3_sits_1 rfl ?_
  refine z_callv (va_runV (As := [.int (nI 50)]) (rest := []) ⟨hx, hb, hml, hown, hts⟩ ((c_X9_begin l hG x (nI 50)) A) (cwV 1 hts gX3_sits_X9_begin rfl rfl rfl (by decide +kernel) ⟨Nat.le_of_ble_eq_true rfl, Nat.le_of_ble_eq_true rfl⟩) (z_pV hI hK hN (z_recv hK hI (zo17 hG) rfl)) rfl rfl hl.1 rfl (lv_room (Nat.le_of_ble_eq_true rfl)) dX3_sits_3 ⟨Nat.zero_le _, Nat.zero_le _⟩) hI (fun u H locs hw hI => ?_)
  obtain rfl := hw
  refine lv_aload_n hx hb dX3_sits_6 rfl (lv_at hl 0 rfl) ?_
  refine lv_iload_n hx hb dX3_sits_7 rfl (lv_at hl 1 rfl) ?_
  refine lv_aload_n hx hb dX3_sits_8 rfl (lv_at hl 2 rfl) ?_
  obtain ⟨rcl_9, hcl_9⟩ := zclq hG hp1 hp2
  refine z_calli (zw_runSG (n := 2) (x := ⟨"WhoSitsBy$Helping", "sits", "(ILWhoSitsBy$Trace;)I"⟩) (As := [.int w, .ref (za G 17)]) (rest := []) hN (hK.1 _ _ hcl_9).2 ⟨hx, hb, hml, hown, hts⟩ ((c_X4_sits l hG (zbeg (nI 50) x) i w hp1 hp2) A) (fun w hw => List.mem_append_right _ (List.mem_append_left _ hw)) ⟨z_mem 0 rfl, z_mem 1 rfl, z_mem 2 rfl, z_mem 3 rfl, z_mem 14 rfl, z_mem 17 rfl⟩ (List.mem_cons_self) ⟨rfl, rfl⟩ (by decide) (by decide +kernel) rfl rfl ⟨Nat.le_of_ble_eq_true rfl, Nat.le_of_ble_eq_true rfl⟩ (z_pV hI hK hN (z_recv hK hI (zop (G := G) hp1 hp2) hcl_9)) rfl rfl hl.1 rfl (lv_room (Nat.le_of_ble_eq_true rfl)) dX3_sits_9 ⟨Nat.zero_le _, Nat.zero_le _⟩) hI (fun r_9 u H locs hw hI => ?_)
  obtain ⟨rfl, rfl⟩ := hw
  refine lv_ineg hx hb dX3_sits_12 ?_
  exact z_iret hx hb hr hlocks hI (⟨rfl, by simp only [zbgs_n (show i ≠ 17 by omega) (show i ≠ 18 by omega), zbeg_n (show i ≠ 17 by omega) (show i ≠ 18 by omega)]⟩) dX3_sits_13
set_option maxHeartbeats 1000000 in
set_option maxRecDepth 100000 in
theorem c_X2_sits (l : Launch) {G : zG} (hG : zOK G) (x : zX) (i : Nat) (w : Int32) (hp1 : 112 ≤ i) (hp2 : i < zn G) : zMi l yX2_sits wsX2_sits { frames := 2, cells := 0, slots := 0, locals := 43 } G [.ref (za G i), .int w, .ref (za G 17)] x (fun (r : Int32) (u : zX) => zbgs [nI 71, nI 10] x = u ∧ (w + x.1 i 0) ^^^ x.1 i 1 = r) := by
  intro A
  refine zBody (cc := cX2_sits) (maxL := 3) (ret := (some .int)) (by decide) rfl (Nat.le_of_ble_eq_true rfl) ?_
  intro p e s m below meth c hx hb hml hown hts hr hlocks hK hN hI ls hl
  have hown : s.vm.findClass RX2 = some m.cls := hown
  have hl : lv_has ls 3 [(0, .ref (za G i)), (1, .int w), (2, .ref (za G 17))] := hl
  have hin0 : ∀ w ∈ wsX00, w ∈ wsX2_sits := (fun _ h => List.mem_cons_of_mem _ (List.mem_append_left _ (List.mem_append_left _ (List.mem_append_left _ (List.mem_append_left _ (List.mem_append_left _ (List.mem_append_left _ (List.mem_append_left _ (List.mem_append_right _ (h))))))))))
  have hin1 : ∀ w ∈ wsX10, w ∈ wsX2_sits := (fun _ h => List.mem_cons_of_mem _ (List.mem_append_left _ (List.mem_append_left _ (List.mem_append_left _ (List.mem_append_left _ (List.mem_append_left _ (List.mem_append_left _ (List.mem_append_right _ (h)))))))))
  have hin2 : ∀ w ∈ wsX20, w ∈ wsX2_sits := (fun _ h => List.mem_cons_of_mem _ (List.mem_append_left _ (List.mem_append_left _ (List.mem_append_left _ (List.mem_append_left _ (List.mem_append_left _ (List.mem_append_right _ (h))))))))
  have hin3 : ∀ w ∈ wsX30, w ∈ wsX2_sits := (fun _ h => List.mem_cons_of_mem _ (List.mem_append_left _ (List.mem_append_left _ (List.mem_append_left _ (List.mem_append_left _ (List.mem_append_right _ (h)))))))
  have hin4 : ∀ w ∈ wsX40, w ∈ wsX2_sits := (fun _ h => List.mem_cons_of_mem _ (List.mem_append_left _ (List.mem_append_left _ (List.mem_append_left _ (List.mem_append_right _ (h))))))
  have hin8 : ∀ w ∈ wsX80, w ∈ wsX2_sits := (fun _ h => List.mem_cons_of_mem _ (List.mem_append_left _ (List.mem_append_left _ (List.mem_append_right _ (h)))))
  have hin10 : ∀ w ∈ wsX100, w ∈ wsX2_sits := (fun _ h => List.mem_cons_of_mem _ (List.mem_append_left _ (List.mem_append_right _ (h))))
  have wS26 := hts (.sameField "WhoSitsBy$Hoped" "WhoSitsBy$Pupil" "v" "I") (z_mem 2 rfl)
  have wF26 := hts (.fieldLink RX2 26 "WhoSitsBy$Hoped" "v" "I") (z_mem 1 rfl)
  refine lv_aload_n hx hb dX2_sits_0 rfl (lv_at hl 2 rfl) ?_
  refine lv_bipush (v := (nI 71)) hx hb dX2_sits_1 rfl ?_
  refine z_callv (va_runV (As := [.int (nI 71)]) (rest := []) ⟨hx, hb, hml, hown, hts⟩ ((c_X9_begin l hG x (nI 71)) A) (cwV 1 hts gX2_sits_X9_begin rfl rfl rfl (by decide +kernel) ⟨Nat.le_of_ble_eq_true rfl, Nat.le_of_ble_eq_true rfl⟩) (z_pV hI hK hN (z_recv hK hI (zo17 hG) rfl)) rfl rfl hl.1 rfl (lv_room (Nat.le_of_ble_eq_true rfl)) dX2_sits_3 ⟨Nat.zero_le _, Nat.zero_le _⟩) hI (fun u H locs hw hI => ?_)
  obtain rfl := hw
  refine lv_aload_n hx hb dX2_sits_6 rfl (lv_at hl 0 rfl) ?_
  refine lv_iload_n hx hb dX2_sits_7 rfl (lv_at hl 1 rfl) ?_
  refine lv_aload_n hx hb dX2_sits_8 rfl (lv_at hl 2 rfl) ?_
  obtain ⟨rcl_9, hcl_9⟩ := zclq hG hp1 hp2
  refine z_calli (zw_runSG (n := 2) (x := ⟨"WhoSitsBy$Wished", "sits", "(ILWhoSitsBy$Trace;)I"⟩) (As := [.int w, .ref (za G 17)]) (rest := []) hN (hK.1 _ _ hcl_9).2 ⟨hx, hb, hml, hown, hts⟩ ((c_X4_sits l hG (zbeg (nI 71) x) i w hp1 hp2) A) (fun w hw => List.mem_append_right _ (List.mem_append_left _ hw)) ⟨z_mem 8 rfl, z_mem 9 rfl, z_mem 6 rfl, z_mem 7 rfl, z_mem 14 rfl, z_mem 17 rfl⟩ (List.mem_cons_self) ⟨rfl, rfl⟩ (by decide) (by decide +kernel) rfl rfl ⟨Nat.le_of_ble_eq_true rfl, Nat.le_of_ble_eq_true rfl⟩ (z_pV hI hK hN (z_recv hK hI (zop (G := G) hp1 hp2) hcl_9)) rfl rfl hl.1 rfl (lv_room (Nat.le_of_ble_eq_true rfl)) dX2_sits_9 ⟨Nat.zero_le _, Nat.zero_le _⟩) hI (fun r_9 u H locs hw hI => ?_)
  obtain ⟨rfl, rfl⟩ := hw
  refine lv_aload_n hx hb dX2_sits_12 rfl (lv_at hl 0 rfl) ?_
  refine z_getP hx hb hts ⟨hin0, hin1, hin2, hin3, hin4, hin8, hin10⟩ hown hK hG hI hp1 hp2 1 (by decide) wF26 (fun x9 h9 => u_same wS26 x9 h9) dX2_sits_13 ?_
  rw [show ((zbgs [nI 10] (zbeg (nI 71) x)).1 i 1) = x.1 i 1 from congrFun ((zbgs_n (show i ≠ 17 by omega) (show i ≠ 18 by omega) _ _).trans (zbeg_n (show i ≠ 17 by omega) (show i ≠ 18 by omega))) 1]
  refine lv_ixor hx hb dX2_sits_16 ?_
  exact z_iret hx hb hr hlocks hI (⟨rfl, by simp only [zbgs_n (show i ≠ 17 by omega) (show i ≠ 18 by omega), zbeg_n (show i ≠ 17 by omega) (show i ≠ 18 by omega)]⟩) dX2_sits_17
set_option maxHeartbeats 1000000 in
set_option maxRecDepth 100000 in
theorem c_X4_talks (l : Launch) {G : zG} (hG : zOK G) (x : zX) (i : Nat) (w : Int32) (k : Nat) (hp1 : 112 ≤ i) (hp2 : i < zn G) (hk : zk G i = k) : zMi l yX4_talks wsX4_talks { frames := 3, cells := 0, slots := 0, locals := 65 } G [.ref (za G i), .int w, .ref (za G 17)] x (fun (r : Int32) (u : zX) => zbgs (nI 11 :: zsb k) x = u ∧ zsv k (x.1 i 0) (x.1 i 1) w - x.1 i 1 = r) := by
  intro A
  refine zBody (cc := cX4_talks) (maxL := 3) (ret := (some .int)) (by decide) rfl (Nat.le_of_ble_eq_true rfl) ?_
  intro p e s m below meth c hx hb hml hown hts hr hlocks hK hN hI ls hl
  have hown : s.vm.findClass RX4 = some m.cls := hown
  have hl : lv_has ls 3 [(0, .ref (za G i)), (1, .int w), (2, .ref (za G 17))] := hl
  have hin0 : ∀ w ∈ wsX00, w ∈ wsX4_talks := (fun _ h => List.mem_cons_of_mem _ (List.mem_append_left _ (List.mem_append_left _ (List.mem_append_left _ (List.mem_append_left _ (List.mem_append_left _ (List.mem_append_left _ (List.mem_append_left _ (List.mem_append_right _ (h))))))))))
  have hin1 : ∀ w ∈ wsX10, w ∈ wsX4_talks := (fun _ h => List.mem_cons_of_mem _ (List.mem_append_left _ (List.mem_append_left _ (List.mem_append_left _ (List.mem_append_left _ (List.mem_append_left _ (List.mem_append_left _ (List.mem_append_right _ (h)))))))))
  have hin2 : ∀ w ∈ wsX20, w ∈ wsX4_talks := (fun _ h => List.mem_cons_of_mem _ (List.mem_append_left _ (List.mem_append_left _ (List.mem_append_left _ (List.mem_append_left _ (List.mem_append_left _ (List.mem_append_right _ (h))))))))
  have hin3 : ∀ w ∈ wsX30, w ∈ wsX4_talks := (fun _ h => List.mem_cons_of_mem _ (List.mem_append_left _ (List.mem_append_left _ (List.mem_append_left _ (List.mem_append_left _ (List.mem_append_right _ (h)))))))
  have hin4 : ∀ w ∈ wsX40, w ∈ wsX4_talks := (fun _ h => List.mem_cons_of_mem _ (List.mem_append_left _ (List.mem_append_left _ (List.mem_append_left _ (List.mem_append_right _ (h))))))
  have hin8 : ∀ w ∈ wsX80, w ∈ wsX4_talks := (fun _ h => List.mem_cons_of_mem _ (List.mem_append_left _ (List.mem_append_left _ (List.mem_append_right _ (h)))))
  have hin10 : ∀ w ∈ wsX100, w ∈ wsX4_talks := (fun _ h => List.mem_cons_of_mem _ (List.mem_append_left _ (List.mem_append_right _ (h))))
  have wF13 := hts (.fieldLink RX4 13 "WhoSitsBy$Pupil" "v" "I") (z_mem 1 rfl)
  refine lv_aload_n hx hb dX4_talks_0 rfl (lv_at hl 2 rfl) ?_
  refine lv_bipush (v := (nI 11)) hx hb dX4_talks_1 rfl ?_
  refine z_callv (va_runV (As := [.int (nI 11)]) (rest := []) ⟨hx, hb, hml, hown, hts⟩ ((c_X9_begin l hG x (nI 11)) A) (cwV 1 hts gX4_talks_X9_begin rfl rfl rfl (by decide +kernel) ⟨Nat.le_of_ble_eq_true rfl, Nat.le_of_ble_eq_true rfl⟩) (z_pV hI hK hN (z_recv hK hI (zo17 hG) rfl)) rfl rfl hl.1 rfl (lv_room (Nat.le_of_ble_eq_true rfl)) dX4_talks_3 ⟨Nat.zero_le _, Nat.zero_le _⟩) hI (fun u H locs hw hI => ?_)
  obtain rfl := hw
  refine lv_aload_n hx hb dX4_talks_6 rfl (lv_at hl 0 rfl) ?_
  refine lv_iload_n hx hb dX4_talks_7 rfl (lv_at hl 1 rfl) ?_
  refine lv_aload_n hx hb dX4_talks_8 rfl (lv_at hl 2 rfl) ?_
  have hrun_9 : va_Run p l e { frames := 3, cells := 0, slots := 0, locals := 65 } s m ([.ref (za G i), .int w, .ref (za G 17)] : List Value).toArray below meth c H locs 0 0 0 0 (F0 m 9 ls [.ref (za G 17), .int w, .ref (za G i)]) [] (va_Qi (fun (r : Int32) (u : zX) => zbgs (zsb k) (zbeg (nI 11) x) = u ∧ zsv k ((zbeg (nI 11) x).1 i 0) ((zbeg (nI 11) x).1 i 1) w = r) (fun u t => zJ G u A t.heap) A (Value.ref (za G i) :: [.int w, .ref (za G 17)]).toArray) A := by
    have ho := zop (G := G) hp1 hp2
    rcases hG.2 i hp1 hp2 with h | h | h | h | h | h | h <;> rw [h] at ho
    · obtain rfl : k = 0 := hk.symm.trans h
      exact va_runU (As := [.int w, .ref (za G 17)]) (rest := []) ⟨hx, hb, hml, hown, hts⟩ ((c_X8_sits l hG (zbeg (nI 11) x) i w hp1 hp2) A) (va_cwO 2 hts gX4_talks_X8_sits_u31X0 rfl rfl rfl (z_mem 21 rfl) (by decide +kernel) ⟨Nat.le_of_ble_eq_true rfl, Nat.le_of_ble_eq_true rfl⟩) (z_pV hI hK hN (z_recv hK hI ho rfl)) rfl rfl hl.1 rfl (lv_room (Nat.le_of_ble_eq_true rfl)) dX4_talks_9 ⟨Nat.zero_le _, Nat.zero_le _⟩
    · obtain rfl : k = 1 := hk.symm.trans h
      exact va_runU (As := [.int w, .ref (za G 17)]) (rest := []) ⟨hx, hb, hml, hown, hts⟩ ((c_X4_sits l hG (zbeg (nI 11) x) i w hp1 hp2) A) (va_cwU 2 hts gX4_talks_X4_sits_u31X1 rfl rfl rfl rfl (by decide +kernel) ⟨Nat.le_of_ble_eq_true rfl, Nat.le_of_ble_eq_true rfl⟩) (z_pV hI hK hN (z_recv hK hI ho rfl)) rfl rfl hl.1 rfl (lv_room (Nat.le_of_ble_eq_true rfl)) dX4_talks_9 ⟨Nat.zero_le _, Nat.zero_le _⟩
    · obtain rfl : k = 2 := hk.symm.trans h
      exact va_runU (As := [.int w, .ref (za G 17)]) (rest := []) ⟨hx, hb, hml, hown, hts⟩ ((c_X2_sits l hG (zbeg (nI 11) x) i w hp1 hp2) A) (va_cwO 2 hts gX4_talks_X2_sits_u31X2 rfl rfl rfl (z_mem 21 rfl) (by decide +kernel) ⟨Nat.le_of_ble_eq_true rfl, Nat.le_of_ble_eq_true rfl⟩) (z_pV hI hK hN (z_recv hK hI ho rfl)) rfl rfl hl.1 rfl (lv_room (Nat.le_of_ble_eq_true rfl)) dX4_talks_9 ⟨Nat.zero_le _, Nat.zero_le _⟩
    · obtain rfl : k = 3 := hk.symm.trans h
      exact va_runU (As := [.int w, .ref (za G 17)]) (rest := []) ⟨hx, hb, hml, hown, hts⟩ ((c_X3_sits l hG (zbeg (nI 11) x) i w hp1 hp2) A) (va_cwO 2 hts gX4_talks_X3_sits_u31X3 rfl rfl rfl (z_mem 21 rfl) (by decide +kernel) ⟨Nat.le_of_ble_eq_true rfl, Nat.le_of_ble_eq_true rfl⟩) (z_pV hI hK hN (z_recv hK hI ho rfl)) rfl rfl hl.1 rfl (lv_room (Nat.le_of_ble_eq_true rfl)) dX4_talks_9 ⟨Nat.zero_le _, Nat.zero_le _⟩
    · obtain rfl : k = 4 := hk.symm.trans h
      exact va_runV (As := [.int w, .ref (za G 17)]) (rest := []) ⟨hx, hb, hml, hown, hts⟩ ((c_X4_sits l hG (zbeg (nI 11) x) i w hp1 hp2) A) (cwV 2 hts gX4_talks_X4_sits rfl rfl rfl (by decide +kernel) ⟨Nat.le_of_ble_eq_true rfl, Nat.le_of_ble_eq_true rfl⟩) (z_pV hI hK hN (z_recv hK hI ho rfl)) rfl rfl hl.1 rfl (lv_room (Nat.le_of_ble_eq_true rfl)) dX4_talks_9 ⟨Nat.zero_le _, Nat.zero_le _⟩
    · obtain rfl : k = 8 := hk.symm.trans h
      exact va_runU (As := [.int w, .ref (za G 17)]) (rest := []) ⟨hx, hb, hml, hown, hts⟩ ((c_X8_sits l hG (zbeg (nI 11) x) i w hp1 hp2) A) (va_cwO 2 hts gX4_talks_X8_sits_u31X8 rfl rfl rfl (z_mem 21 rfl) (by decide +kernel) ⟨Nat.le_of_ble_eq_true rfl, Nat.le_of_ble_eq_true rfl⟩) (z_pV hI hK hN (z_recv hK hI ho rfl)) rfl rfl hl.1 rfl (lv_room (Nat.le_of_ble_eq_true rfl)) dX4_talks_9 ⟨Nat.zero_le _, Nat.zero_le _⟩
    · obtain rfl : k = 10 := hk.symm.trans h
      exact va_runU (As := [.int w, .ref (za G 17)]) (rest := []) ⟨hx, hb, hml, hown, hts⟩ ((c_X4_sits l hG (zbeg (nI 11) x) i w hp1 hp2) A) (va_cwU 2 hts gX4_talks_X4_sits_u31X10 rfl rfl rfl rfl (by decide +kernel) ⟨Nat.le_of_ble_eq_true rfl, Nat.le_of_ble_eq_true rfl⟩) (z_pV hI hK hN (z_recv hK hI ho rfl)) rfl rfl hl.1 rfl (lv_room (Nat.le_of_ble_eq_true rfl)) dX4_talks_9 ⟨Nat.zero_le _, Nat.zero_le _⟩
  refine z_calli hrun_9 hI (fun r_9 u H locs hw hI => ?_)
  obtain ⟨rfl, rfl⟩ := hw
  refine lv_aload_n hx hb dX4_talks_12 rfl (lv_at hl 0 rfl) ?_
  refine z_getP hx hb hts ⟨hin0, hin1, hin2, hin3, hin4, hin8, hin10⟩ hown hK hG hI hp1 hp2 1 (by decide) wF13 (fun _ h9 => h9) dX4_talks_13 ?_
  rw [show ((zbgs (zsb k) (zbeg (nI 11) x)).1 i 1) = x.1 i 1 from congrFun ((zbgs_n (show i ≠ 17 by omega) (show i ≠ 18 by omega) _ _).trans (zbeg_n (show i ≠ 17 by omega) (show i ≠ 18 by omega))) 1]
  refine lv_isub hx hb dX4_talks_16 ?_
  exact z_iret hx hb hr hlocks hI (⟨rfl, by simp only [zbgs_n (show i ≠ 17 by omega) (show i ≠ 18 by omega), zbeg_n (show i ≠ 17 by omega) (show i ≠ 18 by omega)]⟩) dX4_talks_17
set_option maxHeartbeats 1000000 in
set_option maxRecDepth 100000 in
theorem c_X1_talks (l : Launch) {G : zG} (hG : zOK G) (x : zX) (i : Nat) (w : Int32) (k : Nat) (hp1 : 112 ≤ i) (hp2 : i < zn G) (hk : zk G i = k) : zMi l yX1_talks wsX1_talks { frames := 4, cells := 0, slots := 0, locals := 87 } G [.ref (za G i), .int w, .ref (za G 17)] x (fun (r : Int32) (u : zX) => zbgs (nI 20 :: nI 11 :: zsb k) x = u ∧ (zsv k (x.1 i 0) (x.1 i 1) w - x.1 i 1) ^^^ nI 6 = r) := by
  intro A
  refine zBody (cc := cX1_talks) (maxL := 3) (ret := (some .int)) (by decide) rfl (Nat.le_of_ble_eq_true rfl) ?_
  intro p e s m below meth c hx hb hml hown hts hr hlocks hK hN hI ls hl
  have hown : s.vm.findClass RX1 = some m.cls := hown
  have hl : lv_has ls 3 [(0, .ref (za G i)), (1, .int w), (2, .ref (za G 17))] := hl
  refine lv_aload_n hx hb dX1_talks_0 rfl (lv_at hl 2 rfl) ?_
  refine lv_bipush (v := (nI 20)) hx hb dX1_talks_1 rfl ?_
  refine z_callv (va_runV (As := [.int (nI 20)]) (rest := []) ⟨hx, hb, hml, hown, hts⟩ ((c_X9_begin l hG x (nI 20)) A) (cwV 1 hts gX1_talks_X9_begin rfl rfl rfl (by decide +kernel) ⟨Nat.le_of_ble_eq_true rfl, Nat.le_of_ble_eq_true rfl⟩) (z_pV hI hK hN (z_recv hK hI (zo17 hG) rfl)) rfl rfl hl.1 rfl (lv_room (Nat.le_of_ble_eq_true rfl)) dX1_talks_3 ⟨Nat.zero_le _, Nat.zero_le _⟩) hI (fun u H locs hw hI => ?_)
  obtain rfl := hw
  refine lv_aload_n hx hb dX1_talks_6 rfl (lv_at hl 0 rfl) ?_
  refine lv_iload_n hx hb dX1_talks_7 rfl (lv_at hl 1 rfl) ?_
  refine lv_aload_n hx hb dX1_talks_8 rfl (lv_at hl 2 rfl) ?_
  obtain ⟨rcl_9, hcl_9⟩ := zclq hG hp1 hp2
  refine z_calli (va_runSU (As := [.int w, .ref (za G 17)]) (rest := []) (hK.1 _ _ hcl_9).2 ⟨hx, hb, hml, hown, hts⟩ ((c_X4_talks l hG (zbeg (nI 20) x) i w k hp1 hp2 hk) A) (va_cwSU 2 hts gX1_talks_X4_talks_s27 rfl rfl rfl (by decide +kernel) ⟨Nat.le_of_ble_eq_true rfl, Nat.le_of_ble_eq_true rfl⟩) (z_pV hI hK hN (z_recv hK hI (zop (G := G) hp1 hp2) hcl_9)) rfl rfl hl.1 rfl (lv_room (Nat.le_of_ble_eq_true rfl)) dX1_talks_9 ⟨Nat.zero_le _, Nat.zero_le _⟩) hI (fun r_9 u H locs hw hI => ?_)
  obtain ⟨rfl, rfl⟩ := hw
  refine lv_bipush (v := (nI 6)) hx hb dX1_talks_12 rfl ?_
  refine lv_ixor hx hb dX1_talks_14 ?_
  exact z_iret hx hb hr hlocks hI (⟨rfl, by simp only [zbgs_n (show i ≠ 17 by omega) (show i ≠ 18 by omega), zbeg_n (show i ≠ 17 by omega) (show i ≠ 18 by omega)]⟩) dX1_talks_15
set_option maxHeartbeats 1000000 in
set_option maxRecDepth 100000 in
theorem c_X3_talks (l : Launch) {G : zG} (hG : zOK G) (x : zX) (i : Nat) (w : Int32) (k : Nat) (hp1 : 112 ≤ i) (hp2 : i < zn G) (hk : zk G i = k) : zMi l yX3_talks wsX3_talks { frames := 5, cells := 0, slots := 0, locals := 109 } G [.ref (za G i), .int w, .ref (za G 17)] x (fun (r : Int32) (u : zX) => zbgs (nI 51 :: nI 20 :: nI 11 :: zsb k) x = u ∧ (zsv k (x.1 i 0) (x.1 i 1) (w + nI 1) - x.1 i 1) ^^^ nI 6 = r) := by
  intro A
  refine zBody (cc := cX3_talks) (maxL := 3) (ret := (some .int)) (by decide) rfl (Nat.le_of_ble_eq_true rfl) ?_
  intro p e s m below meth c hx hb hml hown hts hr hlocks hK hN hI ls hl
  have hown : s.vm.findClass RX3 = some m.cls := hown
  have hl : lv_has ls 3 [(0, .ref (za G i)), (1, .int w), (2, .ref (za G 17))] := hl
  refine lv_aload_n hx hb dX3_talks_0 rfl (lv_at hl 2 rfl) ?_
  refine lv_bipush (v := (nI 51)) hx hb dX3_talks_1 rfl ?_
  refine z_callv (va_runV (As := [.int (nI 51)]) (rest := []) ⟨hx, hb, hml, hown, hts⟩ ((c_X9_begin l hG x (nI 51)) A) (cwV 1 hts gX3_talks_X9_begin rfl rfl rfl (by decide +kernel) ⟨Nat.le_of_ble_eq_true rfl, Nat.le_of_ble_eq_true rfl⟩) (z_pV hI hK hN (z_recv hK hI (zo17 hG) rfl)) rfl rfl hl.1 rfl (lv_room (Nat.le_of_ble_eq_true rfl)) dX3_talks_3 ⟨Nat.zero_le _, Nat.zero_le _⟩) hI (fun u H locs hw hI => ?_)
  obtain rfl := hw
  refine lv_aload_n hx hb dX3_talks_6 rfl (lv_at hl 0 rfl) ?_
  refine lv_iload_n hx hb dX3_talks_7 rfl (lv_at hl 1 rfl) ?_
  refine lv_iconst (v := (nI 1)) hx hb dX3_talks_8 rfl ?_
  refine lv_iadd hx hb dX3_talks_9 ?_
  refine lv_aload_n hx hb dX3_talks_10 rfl (lv_at hl 2 rfl) ?_
  obtain ⟨rcl_11, hcl_11⟩ := zclq hG hp1 hp2
  refine z_calli (va_runSU (As := [.int (w + (nI 1)), .ref (za G 17)]) (rest := []) (hK.1 _ _ hcl_11).2 ⟨hx, hb, hml, hown, hts⟩ ((c_X1_talks l hG (zbeg (nI 51) x) i (w + (nI 1)) k hp1 hp2 hk) A) (va_cwSU 2 hts gX3_talks_X1_talks_s43 rfl rfl rfl (by decide +kernel) ⟨Nat.le_of_ble_eq_true rfl, Nat.le_of_ble_eq_true rfl⟩) (z_pV hI hK hN (z_recv hK hI (zop (G := G) hp1 hp2) hcl_11)) rfl rfl hl.1 rfl (lv_room (Nat.le_of_ble_eq_true rfl)) dX3_talks_11 ⟨Nat.zero_le _, Nat.zero_le _⟩) hI (fun r_11 u H locs hw hI => ?_)
  obtain ⟨rfl, rfl⟩ := hw
  exact z_iret hx hb hr hlocks hI (⟨rfl, by simp only [zbgs_n (show i ≠ 17 by omega) (show i ≠ 18 by omega), zbeg_n (show i ≠ 17 by omega) (show i ≠ 18 by omega)]⟩) dX3_talks_14
set_option maxHeartbeats 1000000 in
set_option maxRecDepth 100000 in
theorem c_X2_talks (l : Launch) {G : zG} (hG : zOK G) (x : zX) (i : Nat) (w : Int32) (k : Nat) (hp1 : 112 ≤ i) (hp2 : i < zn G) (hk : zk G i = k) : zMi l yX2_talks wsX2_talks { frames := 4, cells := 0, slots := 0, locals := 87 } G [.ref (za G i), .int w, .ref (za G 17)] x (fun (r : Int32) (u : zX) => zbgs (nI 70 :: nI 11 :: (zsb k ++ [nI 10])) x = u ∧ (zsv k (x.1 i 0) (x.1 i 1) w - x.1 i 1) + (nI 2 + x.1 i 0) = r) := by
  intro A
  refine zBody (cc := cX2_talks) (maxL := 3) (ret := (some .int)) (by decide) rfl (Nat.le_of_ble_eq_true rfl) ?_
  intro p e s m below meth c hx hb hml hown hts hr hlocks hK hN hI ls hl
  have hown : s.vm.findClass RX2 = some m.cls := hown
  have hl : lv_has ls 3 [(0, .ref (za G i)), (1, .int w), (2, .ref (za G 17))] := hl
  refine lv_aload_n hx hb dX2_talks_0 rfl (lv_at hl 2 rfl) ?_
  refine lv_bipush (v := (nI 70)) hx hb dX2_talks_1 rfl ?_
  refine z_callv (va_runV (As := [.int (nI 70)]) (rest := []) ⟨hx, hb, hml, hown, hts⟩ ((c_X9_begin l hG x (nI 70)) A) (cwV 1 hts gX2_talks_X9_begin rfl rfl rfl (by decide +kernel) ⟨Nat.le_of_ble_eq_true rfl, Nat.le_of_ble_eq_true rfl⟩) (z_pV hI hK hN (z_recv hK hI (zo17 hG) rfl)) rfl rfl hl.1 rfl (lv_room (Nat.le_of_ble_eq_true rfl)) dX2_talks_3 ⟨Nat.zero_le _, Nat.zero_le _⟩) hI (fun u H locs hw hI => ?_)
  obtain rfl := hw
  refine lv_aload_n hx hb dX2_talks_6 rfl (lv_at hl 0 rfl) ?_
  refine lv_iload_n hx hb dX2_talks_7 rfl (lv_at hl 1 rfl) ?_
  refine lv_aload_n hx hb dX2_talks_8 rfl (lv_at hl 2 rfl) ?_
  obtain ⟨rcl_9, hcl_9⟩ := zclq hG hp1 hp2
  refine z_calli (zw_runSG (n := 2) (x := ⟨"WhoSitsBy$Wished", "talks", "(ILWhoSitsBy$Trace;)I"⟩) (As := [.int w, .ref (za G 17)]) (rest := []) hN (hK.1 _ _ hcl_9).2 ⟨hx, hb, hml, hown, hts⟩ ((c_X4_talks l hG (zbeg (nI 70) x) i w k hp1 hp2 hk) A) (fun w hw => List.mem_append_right _ (List.mem_append_right _ (List.mem_append_left _ hw))) ⟨z_mem 4 rfl, z_mem 5 rfl, z_mem 6 rfl, z_mem 7 rfl, z_mem 15 rfl, z_mem 17 rfl⟩ (List.mem_cons_self) ⟨rfl, rfl⟩ (by decide) (by decide +kernel) rfl rfl ⟨Nat.le_of_ble_eq_true rfl, Nat.le_of_ble_eq_true rfl⟩ (z_pV hI hK hN (z_recv hK hI (zop (G := G) hp1 hp2) hcl_9)) rfl rfl hl.1 rfl (lv_room (Nat.le_of_ble_eq_true rfl)) dX2_talks_9 ⟨Nat.zero_le _, Nat.zero_le _⟩) hI (fun r_9 u H locs hw hI => ?_)
  obtain ⟨rfl, rfl⟩ := hw
  refine lv_aload_n hx hb dX2_talks_12 rfl (lv_at hl 0 rfl) ?_
  refine lv_iconst (v := (nI 2)) hx hb dX2_talks_13 rfl ?_
  refine lv_aload_n hx hb dX2_talks_14 rfl (lv_at hl 2 rfl) ?_
  obtain ⟨rcl_15, hcl_15⟩ := zclq hG hp1 hp2
  refine z_calli (zw_runSG (n := 2) (x := ⟨"WhoSitsBy$Wished", "sits", "(ILWhoSitsBy$Trace;)I"⟩) (As := [.int (nI 2), .ref (za G 17)]) (rest := [.int (zsv k ((zbeg (nI 70) x).1 i 0) ((zbeg (nI 70) x).1 i 1) w - (zbeg (nI 70) x).1 i 1)]) hN (hK.1 _ _ hcl_15).2 ⟨hx, hb, hml, hown, hts⟩ ((c_X4_sits l hG (zbgs (nI 11 :: zsb k) (zbeg (nI 70) x)) i (nI 2) hp1 hp2) A) (fun w hw => List.mem_append_right _ (List.mem_append_left _ hw)) ⟨z_mem 8 rfl, z_mem 9 rfl, z_mem 6 rfl, z_mem 7 rfl, z_mem 14 rfl, z_mem 17 rfl⟩ (List.mem_cons_self) ⟨rfl, rfl⟩ (by decide) (by decide +kernel) rfl rfl ⟨Nat.le_of_ble_eq_true rfl, Nat.le_of_ble_eq_true rfl⟩ (z_pV hI hK hN (z_recv hK hI (zop (G := G) hp1 hp2) hcl_15)) rfl rfl hl.1 rfl (lv_room (Nat.le_of_ble_eq_true rfl)) dX2_talks_15 ⟨Nat.zero_le _, Nat.zero_le _⟩) hI (fun r_15 u H locs hw hI => ?_)
  obtain ⟨rfl, rfl⟩ := hw
  refine lv_iadd hx hb dX2_talks_18 ?_
  exact z_iret hx hb hr hlocks hI (⟨zbgs_a (nI 70 :: nI 11 :: zsb k) [nI 10] x, by simp only [zbgs_n (show i ≠ 17 by omega) (show i ≠ 18 by omega), zbeg_n (show i ≠ 17 by omega) (show i ≠ 18 by omega)]⟩) dX2_talks_19
set_option maxHeartbeats 1000000 in
set_option maxRecDepth 100000 in
theorem c_X4_tells (l : Launch) {G : zG} (hG : zOK G) (x : zX) (i : Nat) (w : Int32) (k : Nat) (hp1 : 112 ≤ i) (hp2 : i < zn G) (hk : zk G i = k) : zMi l yX4_tells wsX4_tells { frames := 6, cells := 0, slots := 0, locals := 131 } G [.ref (za G i), .int w, .ref (za G 17)] x (fun (r : Int32) (u : zX) => zbgs (nI 12 :: ztb k) x = u ∧ ztv k (x.1 i 0) (x.1 i 1) w * nI 2 = r) := by
  intro A
  refine zBody (cc := cX4_tells) (maxL := 3) (ret := (some .int)) (by decide) rfl (Nat.le_of_ble_eq_true rfl) ?_
  intro p e s m below meth c hx hb hml hown hts hr hlocks hK hN hI ls hl
  have hown : s.vm.findClass RX4 = some m.cls := hown
  have hl : lv_has ls 3 [(0, .ref (za G i)), (1, .int w), (2, .ref (za G 17))] := hl
  refine lv_aload_n hx hb dX4_tells_0 rfl (lv_at hl 2 rfl) ?_
  refine lv_bipush (v := (nI 12)) hx hb dX4_tells_1 rfl ?_
  refine z_callv (va_runV (As := [.int (nI 12)]) (rest := []) ⟨hx, hb, hml, hown, hts⟩ ((c_X9_begin l hG x (nI 12)) A) (cwV 1 hts gX4_tells_X9_begin rfl rfl rfl (by decide +kernel) ⟨Nat.le_of_ble_eq_true rfl, Nat.le_of_ble_eq_true rfl⟩) (z_pV hI hK hN (z_recv hK hI (zo17 hG) rfl)) rfl rfl hl.1 rfl (lv_room (Nat.le_of_ble_eq_true rfl)) dX4_tells_3 ⟨Nat.zero_le _, Nat.zero_le _⟩) hI (fun u H locs hw hI => ?_)
  obtain rfl := hw
  refine lv_aload_n hx hb dX4_tells_6 rfl (lv_at hl 0 rfl) ?_
  refine lv_iload_n hx hb dX4_tells_7 rfl (lv_at hl 1 rfl) ?_
  refine lv_aload_n hx hb dX4_tells_8 rfl (lv_at hl 2 rfl) ?_
  have hrun_9 : va_Run p l e { frames := 6, cells := 0, slots := 0, locals := 131 } s m ([.ref (za G i), .int w, .ref (za G 17)] : List Value).toArray below meth c H locs 0 0 0 0 (F0 m 9 ls [.ref (za G 17), .int w, .ref (za G i)]) [] (va_Qi (fun (r : Int32) (u : zX) => zbgs (ztb k) (zbeg (nI 12) x) = u ∧ ztv k ((zbeg (nI 12) x).1 i 0) ((zbeg (nI 12) x).1 i 1) w = r) (fun u t => zJ G u A t.heap) A (Value.ref (za G i) :: [.int w, .ref (za G 17)]).toArray) A := by
    have ho := zop (G := G) hp1 hp2
    rcases hG.2 i hp1 hp2 with h | h | h | h | h | h | h <;> rw [h] at ho
    · obtain rfl : k = 0 := hk.symm.trans h
      exact va_runU (As := [.int w, .ref (za G 17)]) (rest := []) ⟨hx, hb, hml, hown, hts⟩ ((c_X4_talks l hG (zbeg (nI 12) x) i w 0 hp1 hp2 h) A) (va_cwU 2 hts gX4_tells_X4_talks_u35X0 rfl rfl rfl rfl (by decide +kernel) ⟨Nat.le_of_ble_eq_true rfl, Nat.le_of_ble_eq_true rfl⟩) (z_pV hI hK hN (z_recv hK hI ho rfl)) rfl rfl hl.1 rfl (lv_room (Nat.le_of_ble_eq_true rfl)) dX4_tells_9 ⟨Nat.zero_le _, Nat.zero_le _⟩
    · obtain rfl : k = 1 := hk.symm.trans h
      exact va_runU (As := [.int w, .ref (za G 17)]) (rest := []) ⟨hx, hb, hml, hown, hts⟩ ((c_X1_talks l hG (zbeg (nI 12) x) i w 1 hp1 hp2 h) A) (va_cwO 2 hts gX4_tells_X1_talks_u35X1 rfl rfl rfl (z_mem 13 rfl) (by decide +kernel) ⟨Nat.le_of_ble_eq_true rfl, Nat.le_of_ble_eq_true rfl⟩) (z_pV hI hK hN (z_recv hK hI ho rfl)) rfl rfl hl.1 rfl (lv_room (Nat.le_of_ble_eq_true rfl)) dX4_tells_9 ⟨Nat.zero_le _, Nat.zero_le _⟩
    · obtain rfl : k = 2 := hk.symm.trans h
      exact va_runU (As := [.int w, .ref (za G 17)]) (rest := []) ⟨hx, hb, hml, hown, hts⟩ ((c_X2_talks l hG (zbeg (nI 12) x) i w 2 hp1 hp2 h) A) (va_cwO 2 hts gX4_tells_X2_talks_u35X2 rfl rfl rfl (z_mem 13 rfl) (by decide +kernel) ⟨Nat.le_of_ble_eq_true rfl, Nat.le_of_ble_eq_true rfl⟩) (z_pV hI hK hN (z_recv hK hI ho rfl)) rfl rfl hl.1 rfl (lv_room (Nat.le_of_ble_eq_true rfl)) dX4_tells_9 ⟨Nat.zero_le _, Nat.zero_le _⟩
    · obtain rfl : k = 3 := hk.symm.trans h
      exact va_runU (As := [.int w, .ref (za G 17)]) (rest := []) ⟨hx, hb, hml, hown, hts⟩ ((c_X3_talks l hG (zbeg (nI 12) x) i w 3 hp1 hp2 h) A) (va_cwO 2 hts gX4_tells_X3_talks_u35X3 rfl rfl rfl (z_mem 13 rfl) (by decide +kernel) ⟨Nat.le_of_ble_eq_true rfl, Nat.le_of_ble_eq_true rfl⟩) (z_pV hI hK hN (z_recv hK hI ho rfl)) rfl rfl hl.1 rfl (lv_room (Nat.le_of_ble_eq_true rfl)) dX4_tells_9 ⟨Nat.zero_le _, Nat.zero_le _⟩
    · obtain rfl : k = 4 := hk.symm.trans h
      exact va_runV (As := [.int w, .ref (za G 17)]) (rest := []) ⟨hx, hb, hml, hown, hts⟩ ((c_X4_talks l hG (zbeg (nI 12) x) i w 4 hp1 hp2 h) A) (cwV 2 hts gX4_tells_X4_talks rfl rfl rfl (by decide +kernel) ⟨Nat.le_of_ble_eq_true rfl, Nat.le_of_ble_eq_true rfl⟩) (z_pV hI hK hN (z_recv hK hI ho rfl)) rfl rfl hl.1 rfl (lv_room (Nat.le_of_ble_eq_true rfl)) dX4_tells_9 ⟨Nat.zero_le _, Nat.zero_le _⟩
    · obtain rfl : k = 8 := hk.symm.trans h
      exact va_runU (As := [.int w, .ref (za G 17)]) (rest := []) ⟨hx, hb, hml, hown, hts⟩ ((c_X4_talks l hG (zbeg (nI 12) x) i w 8 hp1 hp2 h) A) (va_cwU 2 hts gX4_tells_X4_talks_u35X8 rfl rfl rfl rfl (by decide +kernel) ⟨Nat.le_of_ble_eq_true rfl, Nat.le_of_ble_eq_true rfl⟩) (z_pV hI hK hN (z_recv hK hI ho rfl)) rfl rfl hl.1 rfl (lv_room (Nat.le_of_ble_eq_true rfl)) dX4_tells_9 ⟨Nat.zero_le _, Nat.zero_le _⟩
    · obtain rfl : k = 10 := hk.symm.trans h
      exact va_runU (As := [.int w, .ref (za G 17)]) (rest := []) ⟨hx, hb, hml, hown, hts⟩ ((c_X4_talks l hG (zbeg (nI 12) x) i w 10 hp1 hp2 h) A) (va_cwU 2 hts gX4_tells_X4_talks_u35X10 rfl rfl rfl rfl (by decide +kernel) ⟨Nat.le_of_ble_eq_true rfl, Nat.le_of_ble_eq_true rfl⟩) (z_pV hI hK hN (z_recv hK hI ho rfl)) rfl rfl hl.1 rfl (lv_room (Nat.le_of_ble_eq_true rfl)) dX4_tells_9 ⟨Nat.zero_le _, Nat.zero_le _⟩
  refine z_calli hrun_9 hI (fun r_9 u H locs hw hI => ?_)
  obtain ⟨rfl, rfl⟩ := hw
  refine lv_iconst (v := (nI 2)) hx hb dX4_tells_12 rfl ?_
  refine lv_imul hx hb dX4_tells_13 ?_
  exact z_iret hx hb hr hlocks hI (⟨rfl, by simp only [zbgs_n (show i ≠ 17 by omega) (show i ≠ 18 by omega), zbeg_n (show i ≠ 17 by omega) (show i ≠ 18 by omega)]⟩) dX4_tells_14
set_option maxHeartbeats 1000000 in
set_option maxRecDepth 100000 in
theorem c_X10_tells (l : Launch) {G : zG} (hG : zOK G) (x : zX) (i : Nat) (w : Int32) (k : Nat) (hp1 : 112 ≤ i) (hp2 : i < zn G) (hk : zk G i = k) (hk2 : k = 10 ∨ k = 2) : zMi l yX10_tells wsX10_tells { frames := 7, cells := 0, slots := 0, locals := 153 } G [.ref (za G i), .int w, .ref (za G 17)] x (fun (r : Int32) (u : zX) => zbgs (nI 40 :: nI 12 :: (ztb k ++ ztb k)) x = u ∧ ztv k (x.1 i 0) (x.1 i 1) w * nI 2 + ztv k (x.1 i 0) (x.1 i 1) (nI 1) = r) := by
  intro A
  refine zBody (cc := cX10_tells) (maxL := 3) (ret := (some .int)) (by decide) rfl (Nat.le_of_ble_eq_true rfl) ?_
  intro p e s m below meth c hx hb hml hown hts hr hlocks hK hN hI ls hl
  have hown : s.vm.findClass RX10 = some m.cls := hown
  have hl : lv_has ls 3 [(0, .ref (za G i)), (1, .int w), (2, .ref (za G 17))] := hl
  refine lv_aload_n hx hb dX10_tells_0 rfl (lv_at hl 2 rfl) ?_
  refine lv_bipush (v := (nI 40)) hx hb dX10_tells_1 rfl ?_
  refine z_callv (va_runV (As := [.int (nI 40)]) (rest := []) ⟨hx, hb, hml, hown, hts⟩ ((c_X9_begin l hG x (nI 40)) A) (cwV 1 hts gX10_tells_X9_begin rfl rfl rfl (by decide +kernel) ⟨Nat.le_of_ble_eq_true rfl, Nat.le_of_ble_eq_true rfl⟩) (z_pV hI hK hN (z_recv hK hI (zo17 hG) rfl)) rfl rfl hl.1 rfl (lv_room (Nat.le_of_ble_eq_true rfl)) dX10_tells_3 ⟨Nat.zero_le _, Nat.zero_le _⟩) hI (fun u H locs hw hI => ?_)
  obtain rfl := hw
  refine lv_aload_n hx hb dX10_tells_6 rfl (lv_at hl 0 rfl) ?_
  refine lv_iload_n hx hb dX10_tells_7 rfl (lv_at hl 1 rfl) ?_
  refine lv_aload_n hx hb dX10_tells_8 rfl (lv_at hl 2 rfl) ?_
  obtain ⟨rcl_9, hcl_9⟩ := zclq hG hp1 hp2
  refine z_calli (va_runSU (As := [.int w, .ref (za G 17)]) (rest := []) (hK.1 _ _ hcl_9).2 ⟨hx, hb, hml, hown, hts⟩ ((c_X4_tells l hG (zbeg (nI 40) x) i w k hp1 hp2 hk) A) (va_cwSU 2 hts gX10_tells_X4_tells_s33 rfl rfl rfl (by decide +kernel) ⟨Nat.le_of_ble_eq_true rfl, Nat.le_of_ble_eq_true rfl⟩) (z_pV hI hK hN (z_recv hK hI (zop (G := G) hp1 hp2) hcl_9)) rfl rfl hl.1 rfl (lv_room (Nat.le_of_ble_eq_true rfl)) dX10_tells_9 ⟨Nat.zero_le _, Nat.zero_le _⟩) hI (fun r_9 u H locs hw hI => ?_)
  obtain ⟨rfl, rfl⟩ := hw
  refine lv_aload_n hx hb dX10_tells_12 rfl (lv_at hl 0 rfl) ?_
  refine lv_iconst (v := (nI 1)) hx hb dX10_tells_13 rfl ?_
  refine lv_aload_n hx hb dX10_tells_14 rfl (lv_at hl 2 rfl) ?_
  have hrun_15 : va_Run p l e { frames := 7, cells := 0, slots := 0, locals := 153 } s m ([.ref (za G i), .int w, .ref (za G 17)] : List Value).toArray below meth c H locs 0 0 0 0 (F0 m 15 ls [.ref (za G 17), .int (nI 1), .ref (za G i), .int (ztv k ((zbeg (nI 40) x).1 i 0) ((zbeg (nI 40) x).1 i 1) w * nI 2)]) [.int (ztv k ((zbeg (nI 40) x).1 i 0) ((zbeg (nI 40) x).1 i 1) w * nI 2)] (va_Qi (fun (r : Int32) (u : zX) => zbgs (ztb k) (zbgs (nI 12 :: ztb k) (zbeg (nI 40) x)) = u ∧ ztv k ((zbgs (nI 12 :: ztb k) (zbeg (nI 40) x)).1 i 0) ((zbgs (nI 12 :: ztb k) (zbeg (nI 40) x)).1 i 1) (nI 1) = r) (fun u t => zJ G u A t.heap) A (Value.ref (za G i) :: [.int (nI 1), .ref (za G 17)]).toArray) A := by
    have ho := zop (G := G) hp1 hp2
    rcases hG.2 i hp1 hp2 with h | h | h | h | h | h | h <;> rw [h] at ho
    · exact absurd (hk.symm.trans h) (by omega)
    · exact absurd (hk.symm.trans h) (by omega)
    · obtain rfl : k = 2 := hk.symm.trans h
      exact va_runU (As := [.int (nI 1), .ref (za G 17)]) (rest := [.int (ztv 2 ((zbeg (nI 40) x).1 i 0) ((zbeg (nI 40) x).1 i 1) w * nI 2)]) ⟨hx, hb, hml, hown, hts⟩ ((c_X2_talks l hG (zbgs (nI 12 :: ztb 2) (zbeg (nI 40) x)) i (nI 1) 2 hp1 hp2 h) A) (va_cwO 2 hts gX10_tells_X2_talks_u37X2 rfl rfl rfl (z_mem 19 rfl) (by decide +kernel) ⟨Nat.le_of_ble_eq_true rfl, Nat.le_of_ble_eq_true rfl⟩) (z_pV hI hK hN (z_recv hK hI ho rfl)) rfl rfl hl.1 rfl (lv_room (Nat.le_of_ble_eq_true rfl)) dX10_tells_15 ⟨Nat.zero_le _, Nat.zero_le _⟩
    · exact absurd (hk.symm.trans h) (by omega)
    · exact absurd (hk.symm.trans h) (by omega)
    · exact absurd (hk.symm.trans h) (by omega)
    · obtain rfl : k = 10 := hk.symm.trans h
      exact va_runU (As := [.int (nI 1), .ref (za G 17)]) (rest := [.int (ztv 10 ((zbeg (nI 40) x).1 i 0) ((zbeg (nI 40) x).1 i 1) w * nI 2)]) ⟨hx, hb, hml, hown, hts⟩ ((c_X4_talks l hG (zbgs (nI 12 :: ztb 10) (zbeg (nI 40) x)) i (nI 1) 10 hp1 hp2 h) A) (va_cwU 2 hts gX10_tells_X4_talks_u37X10 rfl rfl rfl rfl (by decide +kernel) ⟨Nat.le_of_ble_eq_true rfl, Nat.le_of_ble_eq_true rfl⟩) (z_pV hI hK hN (z_recv hK hI ho rfl)) rfl rfl hl.1 rfl (lv_room (Nat.le_of_ble_eq_true rfl)) dX10_tells_15 ⟨Nat.zero_le _, Nat.zero_le _⟩
  refine z_calli hrun_15 hI (fun r_15 u H locs hw hI => ?_)
  obtain ⟨rfl, rfl⟩ := hw
  refine lv_iadd hx hb dX10_tells_18 ?_
  exact z_iret hx hb hr hlocks hI (⟨zbgs_a (nI 40 :: nI 12 :: ztb k) (ztb k) x, by simp only [zbgs_n (show i ≠ 17 by omega) (show i ≠ 18 by omega), zbeg_n (show i ≠ 17 by omega) (show i ≠ 18 by omega)]⟩) dX10_tells_19
set_option maxHeartbeats 1000000 in
set_option maxRecDepth 100000 in
theorem c_X0_tells (l : Launch) {G : zG} (hG : zOK G) (x : zX) (i : Nat) (w : Int32) (k : Nat) (hp1 : 112 ≤ i) (hp2 : i < zn G) (hk : zk G i = k) : zMi l yX0_tells wsX0_tells { frames := 7, cells := 0, slots := 0, locals := 153 } G [.ref (za G i), .int w, .ref (za G 17)] x (fun (r : Int32) (u : zX) => zbgs (nI 60 :: nI 12 :: ztb k) x = u ∧ ztv k (x.1 i 0) (x.1 i 1) (w - x.1 i 0) * nI 2 = r) := by
  intro A
  refine zBody (cc := cX0_tells) (maxL := 3) (ret := (some .int)) (by decide) rfl (Nat.le_of_ble_eq_true rfl) ?_
  intro p e s m below meth c hx hb hml hown hts hr hlocks hK hN hI ls hl
  have hown : s.vm.findClass RX0 = some m.cls := hown
  have hl : lv_has ls 3 [(0, .ref (za G i)), (1, .int w), (2, .ref (za G 17))] := hl
  have hin0 : ∀ w ∈ wsX00, w ∈ wsX0_tells := (fun _ h => List.mem_cons_of_mem _ (List.mem_append_left _ (List.mem_append_left _ (List.mem_append_left _ (List.mem_append_left _ (List.mem_append_left _ (List.mem_append_left _ (List.mem_append_left _ (List.mem_append_right _ (h))))))))))
  have hin1 : ∀ w ∈ wsX10, w ∈ wsX0_tells := (fun _ h => List.mem_cons_of_mem _ (List.mem_append_left _ (List.mem_append_left _ (List.mem_append_left _ (List.mem_append_left _ (List.mem_append_left _ (List.mem_append_left _ (List.mem_append_right _ (h)))))))))
  have hin2 : ∀ w ∈ wsX20, w ∈ wsX0_tells := (fun _ h => List.mem_cons_of_mem _ (List.mem_append_left _ (List.mem_append_left _ (List.mem_append_left _ (List.mem_append_left _ (List.mem_append_left _ (List.mem_append_right _ (h))))))))
  have hin3 : ∀ w ∈ wsX30, w ∈ wsX0_tells := (fun _ h => List.mem_cons_of_mem _ (List.mem_append_left _ (List.mem_append_left _ (List.mem_append_left _ (List.mem_append_left _ (List.mem_append_right _ (h)))))))
  have hin4 : ∀ w ∈ wsX40, w ∈ wsX0_tells := (fun _ h => List.mem_cons_of_mem _ (List.mem_append_left _ (List.mem_append_left _ (List.mem_append_left _ (List.mem_append_right _ (h))))))
  have hin8 : ∀ w ∈ wsX80, w ∈ wsX0_tells := (fun _ h => List.mem_cons_of_mem _ (List.mem_append_left _ (List.mem_append_left _ (List.mem_append_right _ (h)))))
  have hin10 : ∀ w ∈ wsX100, w ∈ wsX0_tells := (fun _ h => List.mem_cons_of_mem _ (List.mem_append_left _ (List.mem_append_right _ (h))))
  have wS19 := hts (.sameField "WhoSitsBy$Carrier" "WhoSitsBy$Pupil" "number" "I") (z_mem 2 rfl)
  have wF19 := hts (.fieldLink RX0 19 "WhoSitsBy$Carrier" "number" "I") (z_mem 1 rfl)
  refine lv_aload_n hx hb dX0_tells_0 rfl (lv_at hl 2 rfl) ?_
  refine lv_bipush (v := (nI 60)) hx hb dX0_tells_1 rfl ?_
  refine z_callv (va_runV (As := [.int (nI 60)]) (rest := []) ⟨hx, hb, hml, hown, hts⟩ ((c_X9_begin l hG x (nI 60)) A) (cwV 1 hts gX0_tells_X9_begin rfl rfl rfl (by decide +kernel) ⟨Nat.le_of_ble_eq_true rfl, Nat.le_of_ble_eq_true rfl⟩) (z_pV hI hK hN (z_recv hK hI (zo17 hG) rfl)) rfl rfl hl.1 rfl (lv_room (Nat.le_of_ble_eq_true rfl)) dX0_tells_3 ⟨Nat.zero_le _, Nat.zero_le _⟩) hI (fun u H locs hw hI => ?_)
  obtain rfl := hw
  refine lv_aload_n hx hb dX0_tells_6 rfl (lv_at hl 0 rfl) ?_
  refine lv_iload_n hx hb dX0_tells_7 rfl (lv_at hl 1 rfl) ?_
  refine lv_aload_n hx hb dX0_tells_8 rfl (lv_at hl 0 rfl) ?_
  refine z_getP hx hb hts ⟨hin0, hin1, hin2, hin3, hin4, hin8, hin10⟩ hown hK hG hI hp1 hp2 0 (by decide) wF19 (fun x9 h9 => u_same wS19 x9 h9) dX0_tells_9 ?_
  rw [show ((zbeg (nI 60) x).1 i 0) = x.1 i 0 from congrFun (zbeg_n (show i ≠ 17 by omega) (show i ≠ 18 by omega)) 0]
  refine lv_isub hx hb dX0_tells_12 ?_
  refine lv_aload_n hx hb dX0_tells_13 rfl (lv_at hl 2 rfl) ?_
  obtain ⟨rcl_14, hcl_14⟩ := zclq hG hp1 hp2
  refine z_calli (zw_runSG (n := 2) (x := ⟨"WhoSitsBy$Talker", "tells", "(ILWhoSitsBy$Trace;)I"⟩) (As := [.int (w - (x.1 i 0)), .ref (za G 17)]) (rest := []) hN (hK.1 _ _ hcl_14).2 ⟨hx, hb, hml, hown, hts⟩ ((c_X4_tells l hG (zbeg (nI 60) x) i (w - (x.1 i 0)) k hp1 hp2 hk) A) (fun w hw => List.mem_append_right _ (List.mem_append_right _ (List.mem_append_right _ hw))) ⟨z_mem 10 rfl, z_mem 11 rfl, z_mem 12 rfl, z_mem 13 rfl, z_mem 16 rfl, z_mem 17 rfl⟩ (List.mem_cons_self) ⟨rfl, rfl⟩ (by decide) (by decide +kernel) rfl rfl ⟨Nat.le_of_ble_eq_true rfl, Nat.le_of_ble_eq_true rfl⟩ (z_pV hI hK hN (z_recv hK hI (zop (G := G) hp1 hp2) hcl_14)) rfl rfl hl.1 rfl (lv_room (Nat.le_of_ble_eq_true rfl)) dX0_tells_14 ⟨Nat.zero_le _, Nat.zero_le _⟩) hI (fun r_14 u H locs hw hI => ?_)
  obtain ⟨rfl, rfl⟩ := hw
  exact z_iret hx hb hr hlocks hI (⟨rfl, by simp only [zbgs_n (show i ≠ 17 by omega) (show i ≠ 18 by omega), zbeg_n (show i ≠ 17 by omega) (show i ≠ 18 by omega)]⟩) dX0_tells_17
set_option maxHeartbeats 1000000 in
set_option maxRecDepth 100000 in
theorem c_X4_worthBy (l : Launch) {G : zG} (hG : zOK G) (x : zX) (N a b : Nat) (w : Int32) (hn : zNow G x N) (ha : a < N) (hb9 : b < N) : zMi l yX4_worthBy wsX4_worthBy { frames := 0, cells := 0, slots := 0, locals := 0 } G [.ref (za G (zob x a)), .ref (za G (zob x b)), .int w, .ref (za G 1)] x (fun (r : Int32) (u : zX) => x = u ∧ w = r) := by
  intro A
  refine zBody (cc := cX4_worthBy) (maxL := 4) (ret := (some .int)) (by decide) rfl (Nat.le_of_ble_eq_true rfl) ?_
  intro p e s m below meth c hx hb hml hown hts hr hlocks hK hN hI ls hl
  have hown : s.vm.findClass RX4 = some m.cls := hown
  have hl : lv_has ls 4 [(0, .ref (za G (zob x a))), (1, .ref (za G (zob x b))), (2, .int w), (3, .ref (za G 1))] := hl
  refine lv_iload_n hx hb dX4_worthBy_0 rfl (lv_at hl 2 rfl) ?_
  exact z_iret hx hb hr hlocks hI (⟨rfl, rfl⟩) dX4_worthBy_1
set_option maxHeartbeats 1000000 in
set_option maxRecDepth 100000 in
theorem c_X1_worthBy (l : Launch) {G : zG} (hG : zOK G) (x : zX) (N a b : Nat) (w : Int32) (hn : zNow G x N) (ha : a < N) (hb9 : b < N) : zMi l yX1_worthBy wsX1_worthBy { frames := 1, cells := 0, slots := 0, locals := 23 } G [.ref (za G (zob x a)), .ref (za G (zob x b)), .int w, .ref (za G 1)] x (fun (r : Int32) (u : zX) => x = u ∧ zwhl x a b w = r) := by
  intro A
  refine zBody (cc := cX1_worthBy) (maxL := 4) (ret := (some .int)) (by decide) rfl (Nat.le_of_ble_eq_true rfl) ?_
  intro p e s m below meth c hx hb hml hown hts hr hlocks hK hN hI ls hl
  have hown : s.vm.findClass RX1 = some m.cls := hown
  have hl : lv_has ls 4 [(0, .ref (za G (zob x a))), (1, .ref (za G (zob x b))), (2, .int w), (3, .ref (za G 1))] := hl
  have hin0 : ∀ w ∈ wsX00, w ∈ wsX1_worthBy := (fun _ h => List.mem_cons_of_mem _ (List.mem_append_left _ (List.mem_append_left _ (List.mem_append_left _ (List.mem_append_left _ (List.mem_append_left _ (List.mem_append_left _ (List.mem_append_right _ (h)))))))))
  have hin1 : ∀ w ∈ wsX10, w ∈ wsX1_worthBy := (fun _ h => List.mem_cons_of_mem _ (List.mem_append_left _ (List.mem_append_left _ (List.mem_append_left _ (List.mem_append_left _ (List.mem_append_left _ (List.mem_append_right _ (h))))))))
  have hin2 : ∀ w ∈ wsX20, w ∈ wsX1_worthBy := (fun _ h => List.mem_cons_of_mem _ (List.mem_append_left _ (List.mem_append_left _ (List.mem_append_left _ (List.mem_append_left _ (List.mem_append_right _ (h)))))))
  have hin3 : ∀ w ∈ wsX30, w ∈ wsX1_worthBy := (fun _ h => List.mem_cons_of_mem _ (List.mem_append_left _ (List.mem_append_left _ (List.mem_append_left _ (List.mem_append_right _ (h))))))
  have hin4 : ∀ w ∈ wsX40, w ∈ wsX1_worthBy := (fun _ h => List.mem_cons_of_mem _ (List.mem_append_left _ (List.mem_append_left _ (List.mem_append_right _ (h)))))
  have hin8 : ∀ w ∈ wsX80, w ∈ wsX1_worthBy := (fun _ h => List.mem_cons_of_mem _ (List.mem_append_left _ (List.mem_append_right _ (h))))
  have hin10 : ∀ w ∈ wsX100, w ∈ wsX1_worthBy := (fun _ h => List.mem_cons_of_mem _ (List.mem_append_right _ (h)))
  have wF11 := hts (.fieldLink RX1 11 "WhoSitsBy$Pupil" "knowing" "I") (z_mem 1 rfl)
  have wS15 := hts (.sameField "WhoSitsBy$Helping" "WhoSitsBy$Pupil" "knowing" "I") (z_mem 3 rfl)
  have wF15 := hts (.fieldLink RX1 15 "WhoSitsBy$Helping" "knowing" "I") (z_mem 2 rfl)
  have wS18 := hts (.sameField "WhoSitsBy$Helping" "WhoSitsBy$Pupil" "v" "I") (z_mem 5 rfl)
  have wF18 := hts (.fieldLink RX1 18 "WhoSitsBy$Helping" "v" "I") (z_mem 4 rfl)
  refine lv_aload_n hx hb dX1_worthBy_0 rfl (lv_at hl 0 rfl) ?_
  refine lv_aload_n hx hb dX1_worthBy_1 rfl (lv_at hl 1 rfl) ?_
  refine lv_iload_n hx hb dX1_worthBy_2 rfl (lv_at hl 2 rfl) ?_
  refine lv_aload_n hx hb dX1_worthBy_3 rfl (lv_at hl 3 rfl) ?_
  obtain ⟨rcl_4, hcl_4⟩ := zclq hG (hn.2.2.1 a ha).2.1 (hn.2.2.1 a ha).2.2.1
  refine z_calli (va_runSU (As := [.ref (za G (zob x b)), .int w, .ref (za G 1)]) (rest := []) (hK.1 _ _ hcl_4).2 ⟨hx, hb, hml, hown, hts⟩ ((c_X4_worthBy l hG x N a b w hn ha hb9) A) (va_cwSU 3 hts gX1_worthBy_X4_worthBy_s7 rfl rfl rfl (by decide +kernel) ⟨Nat.le_of_ble_eq_true rfl, Nat.le_of_ble_eq_true rfl⟩) (z_pV hI hK hN (z_recv hK hI (zop (G := G) (hn.2.2.1 a ha).2.1 (hn.2.2.1 a ha).2.2.1) hcl_4)) rfl rfl hl.1 rfl (lv_room (Nat.le_of_ble_eq_true rfl)) dX1_worthBy_4 ⟨Nat.zero_le _, Nat.zero_le _⟩) hI (fun r_4 u H locs hw hI => ?_)
  obtain ⟨rfl, rfl⟩ := hw
  refine lv_aload_n hx hb dX1_worthBy_7 rfl (lv_at hl 1 rfl) ?_
  refine z_getP hx hb hts ⟨hin0, hin1, hin2, hin3, hin4, hin8, hin10⟩ hown hK hG hI (hn.2.2.1 b hb9).2.1 (hn.2.2.1 b hb9).2.2.1 3 (by decide) wF11 (fun _ h9 => h9) dX1_worthBy_8 ?_
  refine lv_aload_n hx hb dX1_worthBy_11 rfl (lv_at hl 0 rfl) ?_
  refine z_getP hx hb hts ⟨hin0, hin1, hin2, hin3, hin4, hin8, hin10⟩ hown hK hG hI (hn.2.2.1 a ha).2.1 (hn.2.2.1 a ha).2.2.1 3 (by decide) wF15 (fun x9 h9 => u_same wS15 x9 h9) dX1_worthBy_12 ?_
  refine lv_icmp_ge (tgt := 25) hx hb dX1_worthBy_15 (by decide) (fun c_15 => ?_) (fun c_15 => ?_)
  · skip
    refine lv_iconst (v := (nI 0)) hx hb dX1_worthBy_25 rfl ?_
    refine lv_iadd hx hb dX1_worthBy_26 ?_
    exact z_iret hx hb hr hlocks hI (⟨rfl, congrArg (w + ·) (if_neg (z_nle c_15))⟩) dX1_worthBy_27
  · skip
    refine lv_aload_n hx hb dX1_worthBy_18 rfl (lv_at hl 0 rfl) ?_
    refine z_getP hx hb hts ⟨hin0, hin1, hin2, hin3, hin4, hin8, hin10⟩ hown hK hG hI (hn.2.2.1 a ha).2.1 (hn.2.2.1 a ha).2.2.1 1 (by decide) wF18 (fun x9 h9 => u_same wS18 x9 h9) dX1_worthBy_19 ?_
    refine lv_goto (tgt := 26) hx hb dX1_worthBy_22 (by decide) ?_
    refine lv_iadd hx hb dX1_worthBy_26 ?_
    exact z_iret hx hb hr hlocks hI (⟨rfl, congrArg (w + ·) (if_pos (z_le c_15))⟩) dX1_worthBy_27
set_option maxHeartbeats 1000000 in
set_option maxRecDepth 100000 in
theorem c_X8_worthBy (l : Launch) {G : zG} (hG : zOK G) (x : zX) (N a b : Nat) (w : Int32) (hn : zNow G x N) (ha : a < N) (hb9 : b < N) : zMi l yX8_worthBy wsX8_worthBy { frames := 1, cells := 0, slots := 0, locals := 23 } G [.ref (za G (zob x a)), .ref (za G (zob x b)), .int w, .ref (za G 1)] x (fun (r : Int32) (u : zX) => x = u ∧ w - x.1 (zob x a) 2 = r) := by
  intro A
  refine zBody (cc := cX8_worthBy) (maxL := 4) (ret := (some .int)) (by decide) rfl (Nat.le_of_ble_eq_true rfl) ?_
  intro p e s m below meth c hx hb hml hown hts hr hlocks hK hN hI ls hl
  have hown : s.vm.findClass RX8 = some m.cls := hown
  have hl : lv_has ls 4 [(0, .ref (za G (zob x a))), (1, .ref (za G (zob x b))), (2, .int w), (3, .ref (za G 1))] := hl
  have hin0 : ∀ w ∈ wsX00, w ∈ wsX8_worthBy := (fun _ h => List.mem_cons_of_mem _ (List.mem_append_left _ (List.mem_append_left _ (List.mem_append_left _ (List.mem_append_left _ (List.mem_append_left _ (List.mem_append_left _ (List.mem_append_right _ (h)))))))))
  have hin1 : ∀ w ∈ wsX10, w ∈ wsX8_worthBy := (fun _ h => List.mem_cons_of_mem _ (List.mem_append_left _ (List.mem_append_left _ (List.mem_append_left _ (List.mem_append_left _ (List.mem_append_left _ (List.mem_append_right _ (h))))))))
  have hin2 : ∀ w ∈ wsX20, w ∈ wsX8_worthBy := (fun _ h => List.mem_cons_of_mem _ (List.mem_append_left _ (List.mem_append_left _ (List.mem_append_left _ (List.mem_append_left _ (List.mem_append_right _ (h)))))))
  have hin3 : ∀ w ∈ wsX30, w ∈ wsX8_worthBy := (fun _ h => List.mem_cons_of_mem _ (List.mem_append_left _ (List.mem_append_left _ (List.mem_append_left _ (List.mem_append_right _ (h))))))
  have hin4 : ∀ w ∈ wsX40, w ∈ wsX8_worthBy := (fun _ h => List.mem_cons_of_mem _ (List.mem_append_left _ (List.mem_append_left _ (List.mem_append_right _ (h)))))
  have hin8 : ∀ w ∈ wsX80, w ∈ wsX8_worthBy := (fun _ h => List.mem_cons_of_mem _ (List.mem_append_left _ (List.mem_append_right _ (h))))
  have hin10 : ∀ w ∈ wsX100, w ∈ wsX8_worthBy := (fun _ h => List.mem_cons_of_mem _ (List.mem_append_right _ (h)))
  have wS11 := hts (.sameField "WhoSitsBy$Talker" "WhoSitsBy$Pupil" "talkative" "I") (z_mem 2 rfl)
  have wF11 := hts (.fieldLink RX8 11 "WhoSitsBy$Talker" "talkative" "I") (z_mem 1 rfl)
  refine lv_aload_n hx hb dX8_worthBy_0 rfl (lv_at hl 0 rfl) ?_
  refine lv_aload_n hx hb dX8_worthBy_1 rfl (lv_at hl 1 rfl) ?_
  refine lv_iload_n hx hb dX8_worthBy_2 rfl (lv_at hl 2 rfl) ?_
  refine lv_aload_n hx hb dX8_worthBy_3 rfl (lv_at hl 3 rfl) ?_
  obtain ⟨rcl_4, hcl_4⟩ := zclq hG (hn.2.2.1 a ha).2.1 (hn.2.2.1 a ha).2.2.1
  refine z_calli (va_runSU (As := [.ref (za G (zob x b)), .int w, .ref (za G 1)]) (rest := []) (hK.1 _ _ hcl_4).2 ⟨hx, hb, hml, hown, hts⟩ ((c_X4_worthBy l hG x N a b w hn ha hb9) A) (va_cwSU 3 hts gX8_worthBy_X4_worthBy_s7 rfl rfl rfl (by decide +kernel) ⟨Nat.le_of_ble_eq_true rfl, Nat.le_of_ble_eq_true rfl⟩) (z_pV hI hK hN (z_recv hK hI (zop (G := G) (hn.2.2.1 a ha).2.1 (hn.2.2.1 a ha).2.2.1) hcl_4)) rfl rfl hl.1 rfl (lv_room (Nat.le_of_ble_eq_true rfl)) dX8_worthBy_4 ⟨Nat.zero_le _, Nat.zero_le _⟩) hI (fun r_4 u H locs hw hI => ?_)
  obtain ⟨rfl, rfl⟩ := hw
  refine lv_aload_n hx hb dX8_worthBy_7 rfl (lv_at hl 0 rfl) ?_
  refine z_getP hx hb hts ⟨hin0, hin1, hin2, hin3, hin4, hin8, hin10⟩ hown hK hG hI (hn.2.2.1 a ha).2.1 (hn.2.2.1 a ha).2.2.1 2 (by decide) wF11 (fun x9 h9 => u_same wS11 x9 h9) dX8_worthBy_8 ?_
  refine lv_isub hx hb dX8_worthBy_11 ?_
  exact z_iret hx hb hr hlocks hI (⟨rfl, rfl⟩) dX8_worthBy_12
set_option maxHeartbeats 1000000 in
set_option maxRecDepth 100000 in
theorem c_X10_worthBy (l : Launch) {G : zG} (hG : zOK G) (x : zX) (N a b : Nat) (w : Int32) (hn : zNow G x N) (ha : a < N) (hb9 : b < N) : zMi l yX10_worthBy wsX10_worthBy { frames := 1, cells := 0, slots := 0, locals := 23 } G [.ref (za G (zob x a)), .ref (za G (zob x b)), .int w, .ref (za G 1)] x (fun (r : Int32) (u : zX) => x = u ∧ zwws x a b w = r) := by
  intro A
  refine zBody (cc := cX10_worthBy) (maxL := 4) (ret := (some .int)) (by decide) rfl (Nat.le_of_ble_eq_true rfl) ?_
  intro p e s m below meth c hx hb hml hown hts hr hlocks hK hN hI ls hl
  have hown : s.vm.findClass RX10 = some m.cls := hown
  have hl : lv_has ls 4 [(0, .ref (za G (zob x a))), (1, .ref (za G (zob x b))), (2, .int w), (3, .ref (za G 1))] := hl
  have hin0 : ∀ w ∈ wsX00, w ∈ wsX10_worthBy := (fun _ h => List.mem_cons_of_mem _ (List.mem_append_left _ (List.mem_append_left _ (List.mem_append_left _ (List.mem_append_left _ (List.mem_append_left _ (List.mem_append_left _ (List.mem_append_left _ (List.mem_append_right _ (h))))))))))
  have hin1 : ∀ w ∈ wsX10, w ∈ wsX10_worthBy := (fun _ h => List.mem_cons_of_mem _ (List.mem_append_left _ (List.mem_append_left _ (List.mem_append_left _ (List.mem_append_left _ (List.mem_append_left _ (List.mem_append_left _ (List.mem_append_right _ (h)))))))))
  have hin2 : ∀ w ∈ wsX20, w ∈ wsX10_worthBy := (fun _ h => List.mem_cons_of_mem _ (List.mem_append_left _ (List.mem_append_left _ (List.mem_append_left _ (List.mem_append_left _ (List.mem_append_left _ (List.mem_append_right _ (h))))))))
  have hin3 : ∀ w ∈ wsX30, w ∈ wsX10_worthBy := (fun _ h => List.mem_cons_of_mem _ (List.mem_append_left _ (List.mem_append_left _ (List.mem_append_left _ (List.mem_append_left _ (List.mem_append_right _ (h)))))))
  have hin4 : ∀ w ∈ wsX40, w ∈ wsX10_worthBy := (fun _ h => List.mem_cons_of_mem _ (List.mem_append_left _ (List.mem_append_left _ (List.mem_append_left _ (List.mem_append_right _ (h))))))
  have hin8 : ∀ w ∈ wsX80, w ∈ wsX10_worthBy := (fun _ h => List.mem_cons_of_mem _ (List.mem_append_left _ (List.mem_append_left _ (List.mem_append_right _ (h)))))
  have hin10 : ∀ w ∈ wsX100, w ∈ wsX10_worthBy := (fun _ h => List.mem_cons_of_mem _ (List.mem_append_left _ (List.mem_append_right _ (h))))
  have wF11 := hts (.fieldLink RX10 11 "WhoSitsBy$Pupil" "number" "I") (z_mem 1 rfl)
  have wS15 := hts (.sameField "WhoSitsBy$Wished" "WhoSitsBy$Pupil" "number" "I") (z_mem 3 rfl)
  have wF15 := hts (.fieldLink RX10 15 "WhoSitsBy$Wished" "number" "I") (z_mem 2 rfl)
  have wS24 := hts (.sameField "WhoSitsBy$Wished" "WhoSitsBy$Pupil" "v" "I") (z_mem 5 rfl)
  have wF24 := hts (.fieldLink RX10 24 "WhoSitsBy$Wished" "v" "I") (z_mem 4 rfl)
  refine lv_aload_n hx hb dX10_worthBy_0 rfl (lv_at hl 0 rfl) ?_
  refine lv_aload_n hx hb dX10_worthBy_1 rfl (lv_at hl 1 rfl) ?_
  refine lv_iload_n hx hb dX10_worthBy_2 rfl (lv_at hl 2 rfl) ?_
  refine lv_aload_n hx hb dX10_worthBy_3 rfl (lv_at hl 3 rfl) ?_
  obtain ⟨rcl_4, hcl_4⟩ := zclq hG (hn.2.2.1 a ha).2.1 (hn.2.2.1 a ha).2.2.1
  refine z_calli (va_runSU (As := [.ref (za G (zob x b)), .int w, .ref (za G 1)]) (rest := []) (hK.1 _ _ hcl_4).2 ⟨hx, hb, hml, hown, hts⟩ ((c_X4_worthBy l hG x N a b w hn ha hb9) A) (va_cwSU 3 hts gX10_worthBy_X4_worthBy_s7 rfl rfl rfl (by decide +kernel) ⟨Nat.le_of_ble_eq_true rfl, Nat.le_of_ble_eq_true rfl⟩) (z_pV hI hK hN (z_recv hK hI (zop (G := G) (hn.2.2.1 a ha).2.1 (hn.2.2.1 a ha).2.2.1) hcl_4)) rfl rfl hl.1 rfl (lv_room (Nat.le_of_ble_eq_true rfl)) dX10_worthBy_4 ⟨Nat.zero_le _, Nat.zero_le _⟩) hI (fun r_4 u H locs hw hI => ?_)
  obtain ⟨rfl, rfl⟩ := hw
  refine lv_aload_n hx hb dX10_worthBy_7 rfl (lv_at hl 3 rfl) ?_
  refine lv_aload_n hx hb dX10_worthBy_8 rfl (lv_at hl 1 rfl) ?_
  refine z_getP hx hb hts ⟨hin0, hin1, hin2, hin3, hin4, hin8, hin10⟩ hown hK hG hI (hn.2.2.1 b hb9).2.1 (hn.2.2.1 b hb9).2.2.1 0 (by decide) wF11 (fun _ h9 => h9) dX10_worthBy_9 ?_
  rw [(hn.2.2.1 b hb9).2.2.2]
  refine lv_aload_n hx hb dX10_worthBy_12 rfl (lv_at hl 0 rfl) ?_
  refine z_getP hx hb hts ⟨hin0, hin1, hin2, hin3, hin4, hin8, hin10⟩ hown hK hG hI (hn.2.2.1 a ha).2.1 (hn.2.2.1 a ha).2.2.1 0 (by decide) wF15 (fun x9 h9 => u_same wS15 x9 h9) dX10_worthBy_13 ?_
  rw [(hn.2.2.1 a ha).2.2.2]
  refine z_calli (va_runV (As := [.int (nI b), .int (nI a)]) (rest := [.int (w)]) ⟨hx, hb, hml, hown, hts⟩ ((c_X7_isNaming l hG x N b (nI a) hn (by omega)) A) (cwV 2 hts gX10_worthBy_X7_isNaming rfl rfl rfl (by decide +kernel) ⟨Nat.le_of_ble_eq_true rfl, Nat.le_of_ble_eq_true rfl⟩) (z_pV hI hK hN (z_recv hK hI (zo1 hG) rfl)) rfl rfl hl.1 rfl (lv_room (Nat.le_of_ble_eq_true rfl)) dX10_worthBy_16 ⟨Nat.zero_le _, Nat.zero_le _⟩) hI (fun r_16 u H locs hw hI => ?_)
  obtain ⟨rfl, rfl⟩ := hw
  refine lv_if_eq (tgt := 29) hx hb dX10_worthBy_19 (by decide) (fun c_19 => ?_) (fun c_19 => ?_)
  · skip
    rw [zb_0] at c_19
    refine lv_iconst (v := (nI 0)) hx hb dX10_worthBy_29 rfl ?_
    refine lv_iadd hx hb dX10_worthBy_30 ?_
    exact z_iret hx hb hr hlocks hI (⟨rfl, congrArg (w + ·) (if_neg c_19)⟩) dX10_worthBy_31
  · skip
    rw [zb_0, Classical.not_not] at c_19
    refine lv_aload_n hx hb dX10_worthBy_22 rfl (lv_at hl 0 rfl) ?_
    refine z_getP hx hb hts ⟨hin0, hin1, hin2, hin3, hin4, hin8, hin10⟩ hown hK hG hI (hn.2.2.1 a ha).2.1 (hn.2.2.1 a ha).2.2.1 1 (by decide) wF24 (fun x9 h9 => u_same wS24 x9 h9) dX10_worthBy_23 ?_
    refine lv_goto (tgt := 30) hx hb dX10_worthBy_26 (by decide) ?_
    refine lv_iadd hx hb dX10_worthBy_30 ?_
    exact z_iret hx hb hr hlocks hI (⟨rfl, congrArg (w + ·) (if_pos c_19)⟩) dX10_worthBy_31
set_option maxHeartbeats 1000000 in
set_option maxRecDepth 100000 in
theorem c_X3_worthBy (l : Launch) {G : zG} (hG : zOK G) (x : zX) (N a b : Nat) (w : Int32) (hn : zNow G x N) (ha : a < N) (hb9 : b < N) : zMi l yX3_worthBy wsX3_worthBy { frames := 2, cells := 0, slots := 0, locals := 46 } G [.ref (za G (zob x a)), .ref (za G (zob x b)), .int w, .ref (za G 1)] x (fun (r : Int32) (u : zX) => x = u ∧ zwlf x N a b w = r) := by
  intro A
  refine zBody (cc := cX3_worthBy) (maxL := 5) (ret := (some .int)) (by decide) rfl (Nat.le_of_ble_eq_true rfl) ?_
  intro p e s m below meth c hx hb hml hown hts hr hlocks hK hN hI ls hl
  have hown : s.vm.findClass RX3 = some m.cls := hown
  have hl : lv_has ls 5 [(0, .ref (za G (zob x a))), (1, .ref (za G (zob x b))), (2, .int w), (3, .ref (za G 1))] := hl
  have hin0 : ∀ w ∈ wsX00, w ∈ wsX3_worthBy := (fun _ h => List.mem_cons_of_mem _ (List.mem_append_left _ (List.mem_append_left _ (List.mem_append_left _ (List.mem_append_left _ (List.mem_append_left _ (List.mem_append_left _ (List.mem_append_left _ (List.mem_append_right _ (h))))))))))
  have hin1 : ∀ w ∈ wsX10, w ∈ wsX3_worthBy := (fun _ h => List.mem_cons_of_mem _ (List.mem_append_left _ (List.mem_append_left _ (List.mem_append_left _ (List.mem_append_left _ (List.mem_append_left _ (List.mem_append_left _ (List.mem_append_right _ (h)))))))))
  have hin2 : ∀ w ∈ wsX20, w ∈ wsX3_worthBy := (fun _ h => List.mem_cons_of_mem _ (List.mem_append_left _ (List.mem_append_left _ (List.mem_append_left _ (List.mem_append_left _ (List.mem_append_left _ (List.mem_append_right _ (h))))))))
  have hin3 : ∀ w ∈ wsX30, w ∈ wsX3_worthBy := (fun _ h => List.mem_cons_of_mem _ (List.mem_append_left _ (List.mem_append_left _ (List.mem_append_left _ (List.mem_append_left _ (List.mem_append_right _ (h)))))))
  have hin4 : ∀ w ∈ wsX40, w ∈ wsX3_worthBy := (fun _ h => List.mem_cons_of_mem _ (List.mem_append_left _ (List.mem_append_left _ (List.mem_append_left _ (List.mem_append_right _ (h))))))
  have hin8 : ∀ w ∈ wsX80, w ∈ wsX3_worthBy := (fun _ h => List.mem_cons_of_mem _ (List.mem_append_left _ (List.mem_append_left _ (List.mem_append_right _ (h)))))
  have hin10 : ∀ w ∈ wsX100, w ∈ wsX3_worthBy := (fun _ h => List.mem_cons_of_mem _ (List.mem_append_left _ (List.mem_append_right _ (h))))
  have wS7 := hts (.sameField "WhoSitsBy$Left" "WhoSitsBy$Pupil" "number" "I") (z_mem 2 rfl)
  have wF7 := hts (.fieldLink RX3 7 "WhoSitsBy$Left" "number" "I") (z_mem 1 rfl)
  have wF19 := hts (.fieldLink RX3 19 "WhoSitsBy$Pupil" "number" "I") (z_mem 3 rfl)
  have wS30 := hts (.sameField "WhoSitsBy$Left" "WhoSitsBy$Pupil" "v" "I") (z_mem 5 rfl)
  have wF30 := hts (.fieldLink RX3 30 "WhoSitsBy$Left" "v" "I") (z_mem 4 rfl)
  refine lv_aload_n hx hb dX3_worthBy_0 rfl (lv_at hl 3 rfl) ?_
  refine lv_aload_n hx hb dX3_worthBy_1 rfl (lv_at hl 0 rfl) ?_
  refine z_getP hx hb hts ⟨hin0, hin1, hin2, hin3, hin4, hin8, hin10⟩ hown hK hG hI (hn.2.2.1 a ha).2.1 (hn.2.2.1 a ha).2.2.1 0 (by decide) wF7 (fun x9 h9 => u_same wS7 x9 h9) dX3_worthBy_2 ?_
  rw [(hn.2.2.1 a ha).2.2.2]
  refine z_calli (va_runV (As := [.int (nI a)]) (rest := []) ⟨hx, hb, hml, hown, hts⟩ ((c_X7_namersOf l hG x N (nI a) hn) A) (cwV 1 hts gX3_worthBy_X7_namersOf rfl rfl rfl (by decide +kernel) ⟨Nat.le_of_ble_eq_true rfl, Nat.le_of_ble_eq_true rfl⟩) (z_pV hI hK hN (z_recv hK hI (zo1 hG) rfl)) rfl rfl hl.1 rfl (lv_room (Nat.le_of_ble_eq_true rfl)) dX3_worthBy_5 ⟨Nat.zero_le _, Nat.zero_le _⟩) hI (fun r_5 u H locs hw hI => ?_)
  obtain ⟨rfl, rfl⟩ := hw
  refine lv_aload_n hx hb dX3_worthBy_8 rfl (lv_at hl 3 rfl) ?_
  refine lv_aload_n hx hb dX3_worthBy_9 rfl (lv_at hl 1 rfl) ?_
  refine z_getP hx hb hts ⟨hin0, hin1, hin2, hin3, hin4, hin8, hin10⟩ hown hK hG hI (hn.2.2.1 b hb9).2.1 (hn.2.2.1 b hb9).2.2.1 0 (by decide) wF19 (fun _ h9 => h9) dX3_worthBy_10 ?_
  rw [(hn.2.2.1 b hb9).2.2.2]
  refine lv_aload_n hx hb dX3_worthBy_13 rfl (lv_at hl 0 rfl) ?_
  refine z_getP hx hb hts ⟨hin0, hin1, hin2, hin3, hin4, hin8, hin10⟩ hown hK hG hI (hn.2.2.1 a ha).2.1 (hn.2.2.1 a ha).2.2.1 0 (by decide) wF7 (fun x9 h9 => u_same wS7 x9 h9) dX3_worthBy_14 ?_
  rw [(hn.2.2.1 a ha).2.2.2]
  refine z_calli (va_runV (As := [.int (nI b), .int (nI a)]) (rest := [.int (zsum (fun qq => if ¬ (nI a) < 0 ∧ x.1 5 qq = (nI a) then 1 else 0) N)]) ⟨hx, hb, hml, hown, hts⟩ ((c_X7_isNaming l hG x N b (nI a) hn (by omega)) A) (cwV 2 hts gX3_worthBy_X7_isNaming rfl rfl rfl (by decide +kernel) ⟨Nat.le_of_ble_eq_true rfl, Nat.le_of_ble_eq_true rfl⟩) (z_pV hI hK hN (z_recv hK hI (zo1 hG) rfl)) rfl rfl hl.1 rfl (lv_room (Nat.le_of_ble_eq_true rfl)) dX3_worthBy_17 ⟨Nat.zero_le _, Nat.zero_le _⟩) hI (fun r_17 u H locs hw hI => ?_)
  obtain ⟨rfl, rfl⟩ := hw
  refine lv_if_eq (tgt := 27) hx hb dX3_worthBy_20 (by decide) (fun c_20 => ?_) (fun c_20 => ?_)
  · skip
    rw [zb_0] at c_20
    refine lv_iconst (v := (nI 0)) hx hb dX3_worthBy_27 rfl ?_
    refine lv_isub hx hb dX3_worthBy_28 ?_
    refine lv_istore (lv' := [(4, .int ((zsum (fun qq => if ¬ (nI a) < 0 ∧ x.1 5 qq = (nI a) then 1 else 0) N) - (nI 0))), (0, .ref (za G (zob x a))), (1, .ref (za G (zob x b))), (2, .int w), (3, .ref (za G 1))]) hx hb dX3_worthBy_29 hl (by decide) rfl (fun ls hl => ?_)
    refine lv_aload_n hx hb dX3_worthBy_31 rfl (lv_at hl 1 rfl) ?_
    refine lv_aload_n hx hb dX3_worthBy_32 rfl (lv_at hl 2 rfl) ?_
    refine lv_iload_n hx hb dX3_worthBy_33 rfl (lv_at hl 3 rfl) ?_
    refine lv_aload_n hx hb dX3_worthBy_34 rfl (lv_at hl 4 rfl) ?_
    obtain ⟨rcl_35, hcl_35⟩ := zclq hG (hn.2.2.1 a ha).2.1 (hn.2.2.1 a ha).2.2.1
    refine z_calli (va_runSU (As := [.ref (za G (zob x b)), .int w, .ref (za G 1)]) (rest := []) (hK.1 _ _ hcl_35).2 ⟨hx, hb, hml, hown, hts⟩ ((c_X1_worthBy l hG x N a b w hn ha hb9) A) (va_cwSU 3 hts gX3_worthBy_X1_worthBy_s26 rfl rfl rfl (by decide +kernel) ⟨Nat.le_of_ble_eq_true rfl, Nat.le_of_ble_eq_true rfl⟩) (z_pV hI hK hN (z_recv hK hI (zop (G := G) (hn.2.2.1 a ha).2.1 (hn.2.2.1 a ha).2.2.1) hcl_35)) rfl rfl hl.1 rfl (lv_room (Nat.le_of_ble_eq_true rfl)) dX3_worthBy_35 ⟨Nat.zero_le _, Nat.zero_le _⟩) hI (fun r_35 u H locs hw hI => ?_)
    obtain ⟨rfl, rfl⟩ := hw
    refine lv_iload hx hb dX3_worthBy_38 (lv_at hl 0 rfl) ?_
    refine lv_if_ne (tgt := 50) hx hb dX3_worthBy_40 (by decide) (fun c_40 => ?_) (fun c_40 => ?_)
    · skip
      refine lv_iconst (v := (nI 0)) hx hb dX3_worthBy_50 rfl ?_
      refine lv_iadd hx hb dX3_worthBy_51 ?_
      exact z_iret hx hb hr hlocks hI (⟨rfl, congrArg (zwhl x a b w + ·) (by rw [if_neg c_20]; exact if_neg c_40)⟩) dX3_worthBy_52
    · skip
      refine lv_aload_n hx hb dX3_worthBy_43 rfl (lv_at hl 1 rfl) ?_
      refine z_getP hx hb hts ⟨hin0, hin1, hin2, hin3, hin4, hin8, hin10⟩ hown hK hG hI (hn.2.2.1 a ha).2.1 (hn.2.2.1 a ha).2.2.1 1 (by decide) wF30 (fun x9 h9 => u_same wS30 x9 h9) dX3_worthBy_44 ?_
      refine lv_goto (tgt := 51) hx hb dX3_worthBy_47 (by decide) ?_
      refine lv_iadd hx hb dX3_worthBy_51 ?_
      exact z_iret hx hb hr hlocks hI (⟨rfl, congrArg (zwhl x a b w + ·) (by rw [if_neg c_20]; exact if_pos c_40)⟩) dX3_worthBy_52
  · skip
    rw [zb_0, Classical.not_not] at c_20
    refine lv_iconst (v := (nI 1)) hx hb dX3_worthBy_23 rfl ?_
    refine lv_goto (tgt := 28) hx hb dX3_worthBy_24 (by decide) ?_
    refine lv_isub hx hb dX3_worthBy_28 ?_
    refine lv_istore (lv' := [(4, .int ((zsum (fun qq => if ¬ (nI a) < 0 ∧ x.1 5 qq = (nI a) then 1 else 0) N) - (nI 1))), (0, .ref (za G (zob x a))), (1, .ref (za G (zob x b))), (2, .int w), (3, .ref (za G 1))]) hx hb dX3_worthBy_29 hl (by decide) rfl (fun ls hl => ?_)
    refine lv_aload_n hx hb dX3_worthBy_31 rfl (lv_at hl 1 rfl) ?_
    refine lv_aload_n hx hb dX3_worthBy_32 rfl (lv_at hl 2 rfl) ?_
    refine lv_iload_n hx hb dX3_worthBy_33 rfl (lv_at hl 3 rfl) ?_
    refine lv_aload_n hx hb dX3_worthBy_34 rfl (lv_at hl 4 rfl) ?_
    obtain ⟨rcl_35, hcl_35⟩ := zclq hG (hn.2.2.1 a ha).2.1 (hn.2.2.1 a ha).2.2.1
    refine z_calli (va_runSU (As := [.ref (za G (zob x b)), .int w, .ref (za G 1)]) (rest := []) (hK.1 _ _ hcl_35).2 ⟨hx, hb, hml, hown, hts⟩ ((c_X1_worthBy l hG x N a b w hn ha hb9) A) (va_cwSU 3 hts gX3_worthBy_X1_worthBy_s26 rfl rfl rfl (by decide +kernel) ⟨Nat.le_of_ble_eq_true rfl, Nat.le_of_ble_eq_true rfl⟩) (z_pV hI hK hN (z_recv hK hI (zop (G := G) (hn.2.2.1 a ha).2.1 (hn.2.2.1 a ha).2.2.1) hcl_35)) rfl rfl hl.1 rfl (lv_room (Nat.le_of_ble_eq_true rfl)) dX3_worthBy_35 ⟨Nat.zero_le _, Nat.zero_le _⟩) hI (fun r_35 u H locs hw hI => ?_)
    obtain ⟨rfl, rfl⟩ := hw
    refine lv_iload hx hb dX3_worthBy_38 (lv_at hl 0 rfl) ?_
    refine lv_if_ne (tgt := 50) hx hb dX3_worthBy_40 (by decide) (fun c_40 => ?_) (fun c_40 => ?_)
    · skip
      refine lv_iconst (v := (nI 0)) hx hb dX3_worthBy_50 rfl ?_
      refine lv_iadd hx hb dX3_worthBy_51 ?_
      exact z_iret hx hb hr hlocks hI (⟨rfl, congrArg (zwhl x a b w + ·) (by rw [if_pos c_20]; exact if_neg c_40)⟩) dX3_worthBy_52
    · skip
      refine lv_aload_n hx hb dX3_worthBy_43 rfl (lv_at hl 1 rfl) ?_
      refine z_getP hx hb hts ⟨hin0, hin1, hin2, hin3, hin4, hin8, hin10⟩ hown hK hG hI (hn.2.2.1 a ha).2.1 (hn.2.2.1 a ha).2.2.1 1 (by decide) wF30 (fun x9 h9 => u_same wS30 x9 h9) dX3_worthBy_44 ?_
      refine lv_goto (tgt := 51) hx hb dX3_worthBy_47 (by decide) ?_
      refine lv_iadd hx hb dX3_worthBy_51 ?_
      exact z_iret hx hb hr hlocks hI (⟨rfl, congrArg (zwhl x a b w + ·) (by rw [if_pos c_20]; exact if_pos c_40)⟩) dX3_worthBy_52
set_option maxHeartbeats 1000000 in
set_option maxRecDepth 100000 in
theorem c_X2_worthBy (l : Launch) {G : zG} (hG : zOK G) (x : zX) (N a b : Nat) (w : Int32) (hn : zNow G x N) (ha : a < N) (hb9 : b < N) : zMi l yX2_worthBy wsX2_worthBy { frames := 2, cells := 0, slots := 0, locals := 46 } G [.ref (za G (zob x a)), .ref (za G (zob x b)), .int w, .ref (za G 1)] x (fun (r : Int32) (u : zX) => x = u ∧ zwhp x a b w = r) := by
  intro A
  refine zBody (cc := cX2_worthBy) (maxL := 4) (ret := (some .int)) (by decide) rfl (Nat.le_of_ble_eq_true rfl) ?_
  intro p e s m below meth c hx hb hml hown hts hr hlocks hK hN hI ls hl
  have hown : s.vm.findClass RX2 = some m.cls := hown
  have hl : lv_has ls 4 [(0, .ref (za G (zob x a))), (1, .ref (za G (zob x b))), (2, .int w), (3, .ref (za G 1))] := hl
  have hin0 : ∀ w ∈ wsX00, w ∈ wsX2_worthBy := (fun _ h => List.mem_cons_of_mem _ (List.mem_append_left _ (List.mem_append_left _ (List.mem_append_left _ (List.mem_append_left _ (List.mem_append_left _ (List.mem_append_left _ (List.mem_append_left _ (List.mem_append_right _ (h))))))))))
  have hin1 : ∀ w ∈ wsX10, w ∈ wsX2_worthBy := (fun _ h => List.mem_cons_of_mem _ (List.mem_append_left _ (List.mem_append_left _ (List.mem_append_left _ (List.mem_append_left _ (List.mem_append_left _ (List.mem_append_left _ (List.mem_append_right _ (h)))))))))
  have hin2 : ∀ w ∈ wsX20, w ∈ wsX2_worthBy := (fun _ h => List.mem_cons_of_mem _ (List.mem_append_left _ (List.mem_append_left _ (List.mem_append_left _ (List.mem_append_left _ (List.mem_append_left _ (List.mem_append_right _ (h))))))))
  have hin3 : ∀ w ∈ wsX30, w ∈ wsX2_worthBy := (fun _ h => List.mem_cons_of_mem _ (List.mem_append_left _ (List.mem_append_left _ (List.mem_append_left _ (List.mem_append_left _ (List.mem_append_right _ (h)))))))
  have hin4 : ∀ w ∈ wsX40, w ∈ wsX2_worthBy := (fun _ h => List.mem_cons_of_mem _ (List.mem_append_left _ (List.mem_append_left _ (List.mem_append_left _ (List.mem_append_right _ (h))))))
  have hin8 : ∀ w ∈ wsX80, w ∈ wsX2_worthBy := (fun _ h => List.mem_cons_of_mem _ (List.mem_append_left _ (List.mem_append_left _ (List.mem_append_right _ (h)))))
  have hin10 : ∀ w ∈ wsX100, w ∈ wsX2_worthBy := (fun _ h => List.mem_cons_of_mem _ (List.mem_append_left _ (List.mem_append_right _ (h))))
  have wS11 := hts (.sameField "WhoSitsBy$Hoped" "WhoSitsBy$Pupil" "number" "I") (z_mem 2 rfl)
  have wF11 := hts (.fieldLink RX2 11 "WhoSitsBy$Hoped" "number" "I") (z_mem 1 rfl)
  have wF17 := hts (.fieldLink RX2 17 "WhoSitsBy$Pupil" "number" "I") (z_mem 3 rfl)
  have wS26 := hts (.sameField "WhoSitsBy$Hoped" "WhoSitsBy$Pupil" "v" "I") (z_mem 5 rfl)
  have wF26 := hts (.fieldLink RX2 26 "WhoSitsBy$Hoped" "v" "I") (z_mem 4 rfl)
  refine lv_aload_n hx hb dX2_worthBy_0 rfl (lv_at hl 0 rfl) ?_
  refine lv_aload_n hx hb dX2_worthBy_1 rfl (lv_at hl 1 rfl) ?_
  refine lv_iload_n hx hb dX2_worthBy_2 rfl (lv_at hl 2 rfl) ?_
  refine lv_aload_n hx hb dX2_worthBy_3 rfl (lv_at hl 3 rfl) ?_
  obtain ⟨rcl_4, hcl_4⟩ := zclq hG (hn.2.2.1 a ha).2.1 (hn.2.2.1 a ha).2.2.1
  refine z_calli (va_runSU (As := [.ref (za G (zob x b)), .int w, .ref (za G 1)]) (rest := []) (hK.1 _ _ hcl_4).2 ⟨hx, hb, hml, hown, hts⟩ ((c_X10_worthBy l hG x N a b w hn ha hb9) A) (va_cwSU 3 hts gX2_worthBy_X10_worthBy_s7 rfl rfl rfl (by decide +kernel) ⟨Nat.le_of_ble_eq_true rfl, Nat.le_of_ble_eq_true rfl⟩) (z_pV hI hK hN (z_recv hK hI (zop (G := G) (hn.2.2.1 a ha).2.1 (hn.2.2.1 a ha).2.2.1) hcl_4)) rfl rfl hl.1 rfl (lv_room (Nat.le_of_ble_eq_true rfl)) dX2_worthBy_4 ⟨Nat.zero_le _, Nat.zero_le _⟩) hI (fun r_4 u H locs hw hI => ?_)
  obtain ⟨rfl, rfl⟩ := hw
  refine lv_aload_n hx hb dX2_worthBy_7 rfl (lv_at hl 3 rfl) ?_
  refine lv_aload_n hx hb dX2_worthBy_8 rfl (lv_at hl 0 rfl) ?_
  refine z_getP hx hb hts ⟨hin0, hin1, hin2, hin3, hin4, hin8, hin10⟩ hown hK hG hI (hn.2.2.1 a ha).2.1 (hn.2.2.1 a ha).2.2.1 0 (by decide) wF11 (fun x9 h9 => u_same wS11 x9 h9) dX2_worthBy_9 ?_
  rw [(hn.2.2.1 a ha).2.2.2]
  refine lv_aload_n hx hb dX2_worthBy_12 rfl (lv_at hl 1 rfl) ?_
  refine z_getP hx hb hts ⟨hin0, hin1, hin2, hin3, hin4, hin8, hin10⟩ hown hK hG hI (hn.2.2.1 b hb9).2.1 (hn.2.2.1 b hb9).2.2.1 0 (by decide) wF17 (fun _ h9 => h9) dX2_worthBy_13 ?_
  rw [(hn.2.2.1 b hb9).2.2.2]
  refine z_calli (va_runV (As := [.int (nI a), .int (nI b)]) (rest := [.int (zwws x a b w)]) ⟨hx, hb, hml, hown, hts⟩ ((c_X7_isNaming l hG x N a (nI b) hn (by omega)) A) (cwV 2 hts gX2_worthBy_X7_isNaming rfl rfl rfl (by decide +kernel) ⟨Nat.le_of_ble_eq_true rfl, Nat.le_of_ble_eq_true rfl⟩) (z_pV hI hK hN (z_recv hK hI (zo1 hG) rfl)) rfl rfl hl.1 rfl (lv_room (Nat.le_of_ble_eq_true rfl)) dX2_worthBy_16 ⟨Nat.zero_le _, Nat.zero_le _⟩) hI (fun r_16 u H locs hw hI => ?_)
  obtain ⟨rfl, rfl⟩ := hw
  refine lv_if_eq (tgt := 29) hx hb dX2_worthBy_19 (by decide) (fun c_19 => ?_) (fun c_19 => ?_)
  · skip
    rw [zb_0] at c_19
    refine lv_iconst (v := (nI 0)) hx hb dX2_worthBy_29 rfl ?_
    refine lv_iadd hx hb dX2_worthBy_30 ?_
    exact z_iret hx hb hr hlocks hI (⟨rfl, congrArg (zwws x a b w + ·) (if_neg c_19)⟩) dX2_worthBy_31
  · skip
    rw [zb_0, Classical.not_not] at c_19
    refine lv_aload_n hx hb dX2_worthBy_22 rfl (lv_at hl 0 rfl) ?_
    refine z_getP hx hb hts ⟨hin0, hin1, hin2, hin3, hin4, hin8, hin10⟩ hown hK hG hI (hn.2.2.1 a ha).2.1 (hn.2.2.1 a ha).2.2.1 1 (by decide) wF26 (fun x9 h9 => u_same wS26 x9 h9) dX2_worthBy_23 ?_
    refine lv_goto (tgt := 30) hx hb dX2_worthBy_26 (by decide) ?_
    refine lv_iadd hx hb dX2_worthBy_30 ?_
    exact z_iret hx hb hr hlocks hI (⟨rfl, congrArg (zwws x a b w + ·) (if_pos c_19)⟩) dX2_worthBy_31
