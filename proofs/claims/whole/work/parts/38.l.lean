theorem zNow_t {G : zG} {x : zX} {N : Nat} {v : Int32} (h : zNow G x N) : zNow G (zsI x 17 1 v) N := by
  obtain ⟨h1, h2, h3, h4, h5⟩ := h
  refine ⟨h1, h2, fun q hq => ?_, h4, h5⟩
  obtain ⟨e1, e2, e3, e4⟩ := h3 q hq
  refine ⟨e1, e2, e3, ?_⟩
  have hne : zob x q ≠ 17 := by omega
  show (zsI x 17 1 v).1 (zob x q) 0 = nI q
  rw [zsI_n hne]
  exact e4
set_option maxHeartbeats 1000000 in
set_option maxRecDepth 100000 in
theorem c_X11_act (l : Launch) {G : zG} (hG : zOK G) (x : zX) (N : Nat) (q a w : Int32) (hn : zNow G x N) : zMi l yX11_act wsX11_act { frames := 8, cells := 0, slots := 0, locals := 175 } G [.ref (za G 0), .int q, .int a, .int w] x (fun (r : Int32) (u : zX) => (¬ zin N q ∧ (zsI x 17 1 (nI 0)) = u ∧ nI 0 = r) ∨ (∃ kb, kb < N ∧ q = nI kb ∧ ((a = nI 0 ∧ zbgs (zsb (zk G (zob x kb))) (zsI x 17 1 (nI 0)) = u ∧ zsv (zk G (zob x kb)) (x.1 (zob x kb) 0) (x.1 (zob x kb) 1) w = r) ∨ (a = nI 1 ∧ zbgs (ztb (zk G (zob x kb))) (zsI x 17 1 (nI 0)) = u ∧ ztv (zk G (zob x kb)) (x.1 (zob x kb) 0) (x.1 (zob x kb) 1) w = r) ∨ (a = nI 2 ∧ zbgs (zeb (zk G (zob x kb))) (zsI x 17 1 (nI 0)) = u ∧ zev (zk G (zob x kb)) (x.1 (zob x kb) 0) (x.1 (zob x kb) 1) w = r) ∨ ((¬ a = nI 0 ∧ ¬ a = nI 1 ∧ ¬ a = nI 2) ∧ (zsI x 17 1 (nI 0)) = u ∧ nI 0 = r)))) := by
  intro A
  refine zBody (cc := cX11_act) (maxL := 5) (ret := (some .int)) (by decide) rfl (Nat.le_of_ble_eq_true rfl) ?_
  intro p e s m below meth c hx hb hml hown hts hr hlocks hK hN hI ls hl
  have hown : s.vm.findClass RX11 = some m.cls := hown
  have hl : lv_has ls 5 [(0, .ref (za G 0)), (1, .int q), (2, .int a), (3, .int w)] := hl
  have hin11 : ∀ w ∈ wsX110, w ∈ wsX11_act := (fun _ h => List.mem_cons_of_mem _ (List.mem_append_left _ (List.mem_append_left _ (List.mem_append_left _ (List.mem_append_left _ (List.mem_append_left _ (List.mem_append_left _ (List.mem_append_left _ (List.mem_append_left _ (List.mem_append_left _ (List.mem_append_right _ (h))))))))))))
  have wF46 := hts (.fieldLink RX11 46 "WhoSitsBy" "traced" "LWhoSitsBy$Trace;") (z_mem 1 rfl)
  have wF12 := hts (.fieldLink RX11 12 "WhoSitsBy" "now" "LWhoSitsBy$Standing;") (z_mem 2 rfl)
  have h8 := hn.1
  refine lv_aload_n hx hb dX11_act_0 rfl (lv_at hl 0 rfl) ?_
  refine z_get (C := RX11) (T := TX11) (N := 14) (ci := 11) (v := .ref (za G 17)) hx hb hts hin11 hown hK hI (zo0 hG) rfl 10 (by decide) wF46 (fun _ h9 => h9) rfl dX11_act_1 ?_
  refine z_callv (va_runV (As := []) (rest := []) ⟨hx, hb, hml, hown, hts⟩ ((c_X9_clear l hG x) A) (cwV 0 hts gX11_act_X9_clear rfl rfl rfl (by decide +kernel) ⟨Nat.le_of_ble_eq_true rfl, Nat.le_of_ble_eq_true rfl⟩) (z_pV hI hK hN (z_recv hK hI (zo17 hG) rfl)) rfl rfl hl.1 rfl (lv_room (Nat.le_of_ble_eq_true rfl)) dX11_act_4 ⟨Nat.zero_le _, Nat.zero_le _⟩) hI (fun u H locs hw hI => ?_)
  obtain rfl := hw
  refine lv_aload_n hx hb dX11_act_7 rfl (lv_at hl 0 rfl) ?_
  refine z_get (C := RX11) (T := TX11) (N := 14) (ci := 11) (v := .ref (za G 1)) hx hb hts hin11 hown hK hI (zo0 hG) rfl 0 (by decide) wF12 (fun _ h9 => h9) rfl dX11_act_8 ?_
  refine lv_iload_n hx hb dX11_act_11 rfl (lv_at hl 1 rfl) ?_
  refine z_callq (va_runV (As := [.int q]) (rest := []) ⟨hx, hb, hml, hown, hts⟩ ((c_X7_at l hG (zsI x 17 1 (nI 0)) N q (zNow_t hn)) A) (cwV 1 hts gX11_act_X7_at rfl rfl rfl (by decide +kernel) ⟨Nat.le_of_ble_eq_true rfl, Nat.le_of_ble_eq_true rfl⟩) (z_pV hI hK hN (z_recv hK hI (zo1 hG) rfl)) rfl rfl hl.1 rfl (lv_room (Nat.le_of_ble_eq_true rfl)) dX11_act_12 ⟨Nat.zero_le _, Nat.zero_le _⟩) hI (fun r_12 u H locs hw hI => ?_)
  obtain ⟨rfl, rfl⟩ := hw
  rcases hq_12 : (zat (zsI x 17 1 (nI 0)) N q) with _ | o_12
  · skip
    have hno : ¬ zin N q := fun h => by rcases zat_no (zNow_t hn) hq_12 with h1 | h1; exact h.1 h1; exact h.2 h1
    refine lv_astoreN (lv' := [(4, .null), (0, .ref (za G 0)), (1, .int q), (2, .int a), (3, .int w)]) hx hb dX11_act_15 hl (by decide) rfl (fun ls hl => ?_)
    refine lv_aloadN hx hb dX11_act_17 (lv_at hl 0 rfl) ?_
    refine lv_ifnonnullN hx hb dX11_act_19 ?_
    refine lv_iconst (v := (nI 0)) hx hb dX11_act_22 rfl ?_
    exact z_iret hx hb hr hlocks hI (Or.inl ⟨hno, rfl, rfl⟩) dX11_act_23
  · skip
    obtain ⟨kb, hkb, rfl, ho9⟩ := zat_of (zNow_t hn) hq_12
    have ho8 : o_12 = zob x kb := ho9
    subst ho8
    have h17 : zob x kb ≠ 17 := by have h9 := (hn.2.2.1 kb hkb).2.1; omega
    refine lv_astore (lv' := [(4, .ref (za G (zob x kb))), (0, .ref (za G 0)), (1, .int (nI kb)), (2, .int a), (3, .int w)]) hx hb dX11_act_15 hl (by decide) rfl (fun ls hl => ?_)
    refine lv_aload hx hb dX11_act_17 (lv_at hl 0 rfl) ?_
    refine lv_ifnonnull (tgt := 24) hx hb dX11_act_19 (by decide) ?_
    refine lv_iload_n hx hb dX11_act_24 rfl (lv_at hl 3 rfl) ?_
    by_cases q25_0 : a = (nI 0)
    · skip
      refine lv_tableIn (off := 27) (tgt := 52) hx hb dX11_act_25 (by rw [q25_0]; decide) (by rw [q25_0]; decide) (by rw [q25_0]; rfl) (by decide) ?_
      refine lv_aload hx hb dX11_act_52 (lv_at hl 0 rfl) ?_
      refine lv_iload_n hx hb dX11_act_54 rfl (lv_at hl 4 rfl) ?_
      refine lv_aload_n hx hb dX11_act_55 rfl (lv_at hl 1 rfl) ?_
      refine z_get (C := RX11) (T := TX11) (N := 14) (ci := 11) (v := .ref (za G 17)) hx hb hts hin11 hown hK hI (zo0 hG) rfl 10 (by decide) wF46 (fun _ h9 => h9) rfl dX11_act_56 ?_
      have hrun_59 : va_Run p l e { frames := 8, cells := 0, slots := 0, locals := 175 } s m ([.ref (za G 0), .int (nI kb), .int a, .int w] : List Value).toArray below meth c H locs 0 0 0 0 (F0 m 59 ls [.ref (za G 17), .int w, .ref (za G (zob x kb))]) [] (va_Qi (fun (r : Int32) (u : zX) => zbgs (zsb (zk G (zob x kb))) (zsI x 17 1 (nI 0)) = u ∧ zsv (zk G (zob x kb)) ((zsI x 17 1 (nI 0)).1 (zob x kb) 0) ((zsI x 17 1 (nI 0)).1 (zob x kb) 1) w = r) (fun u t => zJ G u A t.heap) A (Value.ref (za G (zob x kb)) :: [.int w, .ref (za G 17)]).toArray) A := by
        have ho := zop (G := G) (hn.2.2.1 kb (by omega)).2.1 (hn.2.2.1 kb (by omega)).2.2.1
        rcases hG.2 (zob x kb) (hn.2.2.1 kb (by omega)).2.1 (hn.2.2.1 kb (by omega)).2.2.1 with h | h | h | h | h | h | h <;> rw [h] at ho
        · rw [h]
          exact va_runU (As := [.int w, .ref (za G 17)]) (rest := []) ⟨hx, hb, hml, hown, hts⟩ ((c_X8_sits l hG (zsI x 17 1 (nI 0)) (zob x kb) w (hn.2.2.1 kb (by omega)).2.1 (hn.2.2.1 kb (by omega)).2.2.1) A) (va_cwO 2 hts gX11_act_X8_sits_u283X0 rfl rfl rfl (z_mem 32 rfl) (by decide +kernel) ⟨Nat.le_of_ble_eq_true rfl, Nat.le_of_ble_eq_true rfl⟩) (z_pV hI hK hN (z_recv hK hI ho rfl)) rfl rfl hl.1 rfl (lv_room (Nat.le_of_ble_eq_true rfl)) dX11_act_59 ⟨Nat.zero_le _, Nat.zero_le _⟩
        · rw [h]
          exact va_runU (As := [.int w, .ref (za G 17)]) (rest := []) ⟨hx, hb, hml, hown, hts⟩ ((c_X4_sits l hG (zsI x 17 1 (nI 0)) (zob x kb) w (hn.2.2.1 kb (by omega)).2.1 (hn.2.2.1 kb (by omega)).2.2.1) A) (va_cwU 2 hts gX11_act_X4_sits_u283X1 rfl rfl rfl rfl (by decide +kernel) ⟨Nat.le_of_ble_eq_true rfl, Nat.le_of_ble_eq_true rfl⟩) (z_pV hI hK hN (z_recv hK hI ho rfl)) rfl rfl hl.1 rfl (lv_room (Nat.le_of_ble_eq_true rfl)) dX11_act_59 ⟨Nat.zero_le _, Nat.zero_le _⟩
        · rw [h]
          exact va_runU (As := [.int w, .ref (za G 17)]) (rest := []) ⟨hx, hb, hml, hown, hts⟩ ((c_X2_sits l hG (zsI x 17 1 (nI 0)) (zob x kb) w (hn.2.2.1 kb (by omega)).2.1 (hn.2.2.1 kb (by omega)).2.2.1) A) (va_cwO 2 hts gX11_act_X2_sits_u283X2 rfl rfl rfl (z_mem 32 rfl) (by decide +kernel) ⟨Nat.le_of_ble_eq_true rfl, Nat.le_of_ble_eq_true rfl⟩) (z_pV hI hK hN (z_recv hK hI ho rfl)) rfl rfl hl.1 rfl (lv_room (Nat.le_of_ble_eq_true rfl)) dX11_act_59 ⟨Nat.zero_le _, Nat.zero_le _⟩
        · rw [h]
          exact va_runU (As := [.int w, .ref (za G 17)]) (rest := []) ⟨hx, hb, hml, hown, hts⟩ ((c_X3_sits l hG (zsI x 17 1 (nI 0)) (zob x kb) w (hn.2.2.1 kb (by omega)).2.1 (hn.2.2.1 kb (by omega)).2.2.1) A) (va_cwO 2 hts gX11_act_X3_sits_u283X3 rfl rfl rfl (z_mem 32 rfl) (by decide +kernel) ⟨Nat.le_of_ble_eq_true rfl, Nat.le_of_ble_eq_true rfl⟩) (z_pV hI hK hN (z_recv hK hI ho rfl)) rfl rfl hl.1 rfl (lv_room (Nat.le_of_ble_eq_true rfl)) dX11_act_59 ⟨Nat.zero_le _, Nat.zero_le _⟩
        · rw [h]
          exact va_runV (As := [.int w, .ref (za G 17)]) (rest := []) ⟨hx, hb, hml, hown, hts⟩ ((c_X4_sits l hG (zsI x 17 1 (nI 0)) (zob x kb) w (hn.2.2.1 kb (by omega)).2.1 (hn.2.2.1 kb (by omega)).2.2.1) A) (cwV 2 hts gX11_act_X4_sits rfl rfl rfl (by decide +kernel) ⟨Nat.le_of_ble_eq_true rfl, Nat.le_of_ble_eq_true rfl⟩) (z_pV hI hK hN (z_recv hK hI ho rfl)) rfl rfl hl.1 rfl (lv_room (Nat.le_of_ble_eq_true rfl)) dX11_act_59 ⟨Nat.zero_le _, Nat.zero_le _⟩
        · rw [h]
          exact va_runU (As := [.int w, .ref (za G 17)]) (rest := []) ⟨hx, hb, hml, hown, hts⟩ ((c_X8_sits l hG (zsI x 17 1 (nI 0)) (zob x kb) w (hn.2.2.1 kb (by omega)).2.1 (hn.2.2.1 kb (by omega)).2.2.1) A) (va_cwO 2 hts gX11_act_X8_sits_u283X8 rfl rfl rfl (z_mem 32 rfl) (by decide +kernel) ⟨Nat.le_of_ble_eq_true rfl, Nat.le_of_ble_eq_true rfl⟩) (z_pV hI hK hN (z_recv hK hI ho rfl)) rfl rfl hl.1 rfl (lv_room (Nat.le_of_ble_eq_true rfl)) dX11_act_59 ⟨Nat.zero_le _, Nat.zero_le _⟩
        · rw [h]
          exact va_runU (As := [.int w, .ref (za G 17)]) (rest := []) ⟨hx, hb, hml, hown, hts⟩ ((c_X4_sits l hG (zsI x 17 1 (nI 0)) (zob x kb) w (hn.2.2.1 kb (by omega)).2.1 (hn.2.2.1 kb (by omega)).2.2.1) A) (va_cwU 2 hts gX11_act_X4_sits_u283X10 rfl rfl rfl rfl (by decide +kernel) ⟨Nat.le_of_ble_eq_true rfl, Nat.le_of_ble_eq_true rfl⟩) (z_pV hI hK hN (z_recv hK hI ho rfl)) rfl rfl hl.1 rfl (lv_room (Nat.le_of_ble_eq_true rfl)) dX11_act_59 ⟨Nat.zero_le _, Nat.zero_le _⟩
      refine z_calli hrun_59 hI (fun r_59 u H locs hw hI => ?_)
      obtain ⟨rfl, rfl⟩ := hw
      exact z_iret hx hb hr hlocks hI (Or.inr ⟨kb, hkb, rfl, Or.inl ⟨q25_0, rfl, by rw [zsI_n h17]⟩⟩) dX11_act_62
    by_cases q25_1 : a = (nI 1)
    · skip
      refine lv_tableIn (off := 38) (tgt := 63) hx hb dX11_act_25 (by rw [q25_1]; decide) (by rw [q25_1]; decide) (by rw [q25_1]; rfl) (by decide) ?_
      refine lv_aload hx hb dX11_act_63 (lv_at hl 0 rfl) ?_
      refine lv_iload_n hx hb dX11_act_65 rfl (lv_at hl 4 rfl) ?_
      refine lv_aload_n hx hb dX11_act_66 rfl (lv_at hl 1 rfl) ?_
      refine z_get (C := RX11) (T := TX11) (N := 14) (ci := 11) (v := .ref (za G 17)) hx hb hts hin11 hown hK hI (zo0 hG) rfl 10 (by decide) wF46 (fun _ h9 => h9) rfl dX11_act_67 ?_
      have hrun_70 : va_Run p l e { frames := 8, cells := 0, slots := 0, locals := 175 } s m ([.ref (za G 0), .int (nI kb), .int a, .int w] : List Value).toArray below meth c H locs 0 0 0 0 (F0 m 70 ls [.ref (za G 17), .int w, .ref (za G (zob x kb))]) [] (va_Qi (fun (r : Int32) (u : zX) => zbgs (ztb (zk G (zob x kb))) (zsI x 17 1 (nI 0)) = u ∧ ztv (zk G (zob x kb)) ((zsI x 17 1 (nI 0)).1 (zob x kb) 0) ((zsI x 17 1 (nI 0)).1 (zob x kb) 1) w = r) (fun u t => zJ G u A t.heap) A (Value.ref (za G (zob x kb)) :: [.int w, .ref (za G 17)]).toArray) A := by
        have ho := zop (G := G) (hn.2.2.1 kb (by omega)).2.1 (hn.2.2.1 kb (by omega)).2.2.1
        rcases hG.2 (zob x kb) (hn.2.2.1 kb (by omega)).2.1 (hn.2.2.1 kb (by omega)).2.2.1 with h | h | h | h | h | h | h <;> rw [h] at ho
        · rw [h]
          exact va_runU (As := [.int w, .ref (za G 17)]) (rest := []) ⟨hx, hb, hml, hown, hts⟩ ((c_X4_talks l hG (zsI x 17 1 (nI 0)) (zob x kb) w 0 (hn.2.2.1 kb (by omega)).2.1 (hn.2.2.1 kb (by omega)).2.2.1 h) A) (va_cwU 2 hts gX11_act_X4_talks_u287X0 rfl rfl rfl rfl (by decide +kernel) ⟨Nat.le_of_ble_eq_true rfl, Nat.le_of_ble_eq_true rfl⟩) (z_pV hI hK hN (z_recv hK hI ho rfl)) rfl rfl hl.1 rfl (lv_room (Nat.le_of_ble_eq_true rfl)) dX11_act_70 ⟨Nat.zero_le _, Nat.zero_le _⟩
        · rw [h]
          exact va_runU (As := [.int w, .ref (za G 17)]) (rest := []) ⟨hx, hb, hml, hown, hts⟩ ((c_X1_talks l hG (zsI x 17 1 (nI 0)) (zob x kb) w 1 (hn.2.2.1 kb (by omega)).2.1 (hn.2.2.1 kb (by omega)).2.2.1 h) A) (va_cwO 2 hts gX11_act_X1_talks_u287X1 rfl rfl rfl (z_mem 56 rfl) (by decide +kernel) ⟨Nat.le_of_ble_eq_true rfl, Nat.le_of_ble_eq_true rfl⟩) (z_pV hI hK hN (z_recv hK hI ho rfl)) rfl rfl hl.1 rfl (lv_room (Nat.le_of_ble_eq_true rfl)) dX11_act_70 ⟨Nat.zero_le _, Nat.zero_le _⟩
        · rw [h]
          exact va_runU (As := [.int w, .ref (za G 17)]) (rest := []) ⟨hx, hb, hml, hown, hts⟩ ((c_X2_talks l hG (zsI x 17 1 (nI 0)) (zob x kb) w 2 (hn.2.2.1 kb (by omega)).2.1 (hn.2.2.1 kb (by omega)).2.2.1 h) A) (va_cwO 2 hts gX11_act_X2_talks_u287X2 rfl rfl rfl (z_mem 56 rfl) (by decide +kernel) ⟨Nat.le_of_ble_eq_true rfl, Nat.le_of_ble_eq_true rfl⟩) (z_pV hI hK hN (z_recv hK hI ho rfl)) rfl rfl hl.1 rfl (lv_room (Nat.le_of_ble_eq_true rfl)) dX11_act_70 ⟨Nat.zero_le _, Nat.zero_le _⟩
        · rw [h]
          exact va_runU (As := [.int w, .ref (za G 17)]) (rest := []) ⟨hx, hb, hml, hown, hts⟩ ((c_X3_talks l hG (zsI x 17 1 (nI 0)) (zob x kb) w 3 (hn.2.2.1 kb (by omega)).2.1 (hn.2.2.1 kb (by omega)).2.2.1 h) A) (va_cwO 2 hts gX11_act_X3_talks_u287X3 rfl rfl rfl (z_mem 56 rfl) (by decide +kernel) ⟨Nat.le_of_ble_eq_true rfl, Nat.le_of_ble_eq_true rfl⟩) (z_pV hI hK hN (z_recv hK hI ho rfl)) rfl rfl hl.1 rfl (lv_room (Nat.le_of_ble_eq_true rfl)) dX11_act_70 ⟨Nat.zero_le _, Nat.zero_le _⟩
        · rw [h]
          exact va_runV (As := [.int w, .ref (za G 17)]) (rest := []) ⟨hx, hb, hml, hown, hts⟩ ((c_X4_talks l hG (zsI x 17 1 (nI 0)) (zob x kb) w 4 (hn.2.2.1 kb (by omega)).2.1 (hn.2.2.1 kb (by omega)).2.2.1 h) A) (cwV 2 hts gX11_act_X4_talks rfl rfl rfl (by decide +kernel) ⟨Nat.le_of_ble_eq_true rfl, Nat.le_of_ble_eq_true rfl⟩) (z_pV hI hK hN (z_recv hK hI ho rfl)) rfl rfl hl.1 rfl (lv_room (Nat.le_of_ble_eq_true rfl)) dX11_act_70 ⟨Nat.zero_le _, Nat.zero_le _⟩
        · rw [h]
          exact va_runU (As := [.int w, .ref (za G 17)]) (rest := []) ⟨hx, hb, hml, hown, hts⟩ ((c_X4_talks l hG (zsI x 17 1 (nI 0)) (zob x kb) w 8 (hn.2.2.1 kb (by omega)).2.1 (hn.2.2.1 kb (by omega)).2.2.1 h) A) (va_cwU 2 hts gX11_act_X4_talks_u287X8 rfl rfl rfl rfl (by decide +kernel) ⟨Nat.le_of_ble_eq_true rfl, Nat.le_of_ble_eq_true rfl⟩) (z_pV hI hK hN (z_recv hK hI ho rfl)) rfl rfl hl.1 rfl (lv_room (Nat.le_of_ble_eq_true rfl)) dX11_act_70 ⟨Nat.zero_le _, Nat.zero_le _⟩
        · rw [h]
          exact va_runU (As := [.int w, .ref (za G 17)]) (rest := []) ⟨hx, hb, hml, hown, hts⟩ ((c_X4_talks l hG (zsI x 17 1 (nI 0)) (zob x kb) w 10 (hn.2.2.1 kb (by omega)).2.1 (hn.2.2.1 kb (by omega)).2.2.1 h) A) (va_cwU 2 hts gX11_act_X4_talks_u287X10 rfl rfl rfl rfl (by decide +kernel) ⟨Nat.le_of_ble_eq_true rfl, Nat.le_of_ble_eq_true rfl⟩) (z_pV hI hK hN (z_recv hK hI ho rfl)) rfl rfl hl.1 rfl (lv_room (Nat.le_of_ble_eq_true rfl)) dX11_act_70 ⟨Nat.zero_le _, Nat.zero_le _⟩
      refine z_calli hrun_70 hI (fun r_70 u H locs hw hI => ?_)
      obtain ⟨rfl, rfl⟩ := hw
      exact z_iret hx hb hr hlocks hI (Or.inr ⟨kb, hkb, rfl, Or.inr (Or.inl ⟨q25_1, rfl, by rw [zsI_n h17]⟩)⟩) dX11_act_73
    by_cases q25_2 : a = (nI 2)
    · skip
      refine lv_tableIn (off := 49) (tgt := 74) hx hb dX11_act_25 (by rw [q25_2]; decide) (by rw [q25_2]; decide) (by rw [q25_2]; rfl) (by decide) ?_
      refine lv_aload hx hb dX11_act_74 (lv_at hl 0 rfl) ?_
      refine lv_iload_n hx hb dX11_act_76 rfl (lv_at hl 4 rfl) ?_
      refine lv_aload_n hx hb dX11_act_77 rfl (lv_at hl 1 rfl) ?_
      refine z_get (C := RX11) (T := TX11) (N := 14) (ci := 11) (v := .ref (za G 17)) hx hb hts hin11 hown hK hI (zo0 hG) rfl 10 (by decide) wF46 (fun _ h9 => h9) rfl dX11_act_78 ?_
      have hrun_81 : va_Run p l e { frames := 8, cells := 0, slots := 0, locals := 175 } s m ([.ref (za G 0), .int (nI kb), .int a, .int w] : List Value).toArray below meth c H locs 0 0 0 0 (F0 m 81 ls [.ref (za G 17), .int w, .ref (za G (zob x kb))]) [] (va_Qi (fun (r : Int32) (u : zX) => zbgs (zeb (zk G (zob x kb))) (zsI x 17 1 (nI 0)) = u ∧ zev (zk G (zob x kb)) ((zsI x 17 1 (nI 0)).1 (zob x kb) 0) ((zsI x 17 1 (nI 0)).1 (zob x kb) 1) w = r) (fun u t => zJ G u A t.heap) A (Value.ref (za G (zob x kb)) :: [.int w, .ref (za G 17)]).toArray) A := by
        have ho := zop (G := G) (hn.2.2.1 kb (by omega)).2.1 (hn.2.2.1 kb (by omega)).2.2.1
        rcases hG.2 (zob x kb) (hn.2.2.1 kb (by omega)).2.1 (hn.2.2.1 kb (by omega)).2.2.1 with h | h | h | h | h | h | h <;> rw [h] at ho
        · rw [h]
          exact va_runU (As := [.int w, .ref (za G 17)]) (rest := []) ⟨hx, hb, hml, hown, hts⟩ ((c_X0_tells l hG (zsI x 17 1 (nI 0)) (zob x kb) w 0 (hn.2.2.1 kb (by omega)).2.1 (hn.2.2.1 kb (by omega)).2.2.1 h) A) (va_cwO 2 hts gX11_act_X0_tells_u290X0 rfl rfl rfl (z_mem 91 rfl) (by decide +kernel) ⟨Nat.le_of_ble_eq_true rfl, Nat.le_of_ble_eq_true rfl⟩) (z_pV hI hK hN (z_recv hK hI ho rfl)) rfl rfl hl.1 rfl (lv_room (Nat.le_of_ble_eq_true rfl)) dX11_act_81 ⟨Nat.zero_le _, Nat.zero_le _⟩
        · rw [h]
          exact va_runU (As := [.int w, .ref (za G 17)]) (rest := []) ⟨hx, hb, hml, hown, hts⟩ ((c_X4_tells l hG (zsI x 17 1 (nI 0)) (zob x kb) w 1 (hn.2.2.1 kb (by omega)).2.1 (hn.2.2.1 kb (by omega)).2.2.1 h) A) (va_cwU 2 hts gX11_act_X4_tells_u290X1 rfl rfl rfl rfl (by decide +kernel) ⟨Nat.le_of_ble_eq_true rfl, Nat.le_of_ble_eq_true rfl⟩) (z_pV hI hK hN (z_recv hK hI ho rfl)) rfl rfl hl.1 rfl (lv_room (Nat.le_of_ble_eq_true rfl)) dX11_act_81 ⟨Nat.zero_le _, Nat.zero_le _⟩
        · rw [h]
          exact va_runU (As := [.int w, .ref (za G 17)]) (rest := []) ⟨hx, hb, hml, hown, hts⟩ ((c_X10_tells l hG (zsI x 17 1 (nI 0)) (zob x kb) w 2 (hn.2.2.1 kb (by omega)).2.1 (hn.2.2.1 kb (by omega)).2.2.1 h (by decide)) A) (va_cwO 2 hts gX11_act_X10_tells_u290X2 rfl rfl rfl (z_mem 91 rfl) (by decide +kernel) ⟨Nat.le_of_ble_eq_true rfl, Nat.le_of_ble_eq_true rfl⟩) (z_pV hI hK hN (z_recv hK hI ho rfl)) rfl rfl hl.1 rfl (lv_room (Nat.le_of_ble_eq_true rfl)) dX11_act_81 ⟨Nat.zero_le _, Nat.zero_le _⟩
        · rw [h]
          exact va_runU (As := [.int w, .ref (za G 17)]) (rest := []) ⟨hx, hb, hml, hown, hts⟩ ((c_X4_tells l hG (zsI x 17 1 (nI 0)) (zob x kb) w 3 (hn.2.2.1 kb (by omega)).2.1 (hn.2.2.1 kb (by omega)).2.2.1 h) A) (va_cwU 2 hts gX11_act_X4_tells_u290X3 rfl rfl rfl rfl (by decide +kernel) ⟨Nat.le_of_ble_eq_true rfl, Nat.le_of_ble_eq_true rfl⟩) (z_pV hI hK hN (z_recv hK hI ho rfl)) rfl rfl hl.1 rfl (lv_room (Nat.le_of_ble_eq_true rfl)) dX11_act_81 ⟨Nat.zero_le _, Nat.zero_le _⟩
        · rw [h]
          exact va_runV (As := [.int w, .ref (za G 17)]) (rest := []) ⟨hx, hb, hml, hown, hts⟩ ((c_X4_tells l hG (zsI x 17 1 (nI 0)) (zob x kb) w 4 (hn.2.2.1 kb (by omega)).2.1 (hn.2.2.1 kb (by omega)).2.2.1 h) A) (cwV 2 hts gX11_act_X4_tells rfl rfl rfl (by decide +kernel) ⟨Nat.le_of_ble_eq_true rfl, Nat.le_of_ble_eq_true rfl⟩) (z_pV hI hK hN (z_recv hK hI ho rfl)) rfl rfl hl.1 rfl (lv_room (Nat.le_of_ble_eq_true rfl)) dX11_act_81 ⟨Nat.zero_le _, Nat.zero_le _⟩
        · rw [h]
          exact va_runU (As := [.int w, .ref (za G 17)]) (rest := []) ⟨hx, hb, hml, hown, hts⟩ ((c_X4_tells l hG (zsI x 17 1 (nI 0)) (zob x kb) w 8 (hn.2.2.1 kb (by omega)).2.1 (hn.2.2.1 kb (by omega)).2.2.1 h) A) (va_cwU 2 hts gX11_act_X4_tells_u290X8 rfl rfl rfl rfl (by decide +kernel) ⟨Nat.le_of_ble_eq_true rfl, Nat.le_of_ble_eq_true rfl⟩) (z_pV hI hK hN (z_recv hK hI ho rfl)) rfl rfl hl.1 rfl (lv_room (Nat.le_of_ble_eq_true rfl)) dX11_act_81 ⟨Nat.zero_le _, Nat.zero_le _⟩
        · rw [h]
          exact va_runU (As := [.int w, .ref (za G 17)]) (rest := []) ⟨hx, hb, hml, hown, hts⟩ ((c_X10_tells l hG (zsI x 17 1 (nI 0)) (zob x kb) w 10 (hn.2.2.1 kb (by omega)).2.1 (hn.2.2.1 kb (by omega)).2.2.1 h (by decide)) A) (va_cwO 2 hts gX11_act_X10_tells_u290X10 rfl rfl rfl (z_mem 91 rfl) (by decide +kernel) ⟨Nat.le_of_ble_eq_true rfl, Nat.le_of_ble_eq_true rfl⟩) (z_pV hI hK hN (z_recv hK hI ho rfl)) rfl rfl hl.1 rfl (lv_room (Nat.le_of_ble_eq_true rfl)) dX11_act_81 ⟨Nat.zero_le _, Nat.zero_le _⟩
      refine z_calli hrun_81 hI (fun r_81 u H locs hw hI => ?_)
      obtain ⟨rfl, rfl⟩ := hw
      exact z_iret hx hb hr hlocks hI (Or.inr ⟨kb, hkb, rfl, Or.inr (Or.inr (Or.inl ⟨q25_2, rfl, by rw [zsI_n h17]⟩))⟩) dX11_act_84
    refine lv_tableOut (tgt := 85) hx hb dX11_act_25 (by have := lv_neT (a := 0) q25_0 rfl; have := lv_neT (a := 1) q25_1 rfl; have := lv_neT (a := 2) q25_2 rfl; omega) (by decide) ?_
    refine lv_iconst (v := (nI 0)) hx hb dX11_act_85 rfl ?_
    exact z_iret hx hb hr hlocks hI (Or.inr ⟨kb, hkb, rfl, Or.inr (Or.inr (Or.inr ⟨⟨q25_0, q25_1, q25_2⟩, rfl, rfl⟩))⟩) dX11_act_86
