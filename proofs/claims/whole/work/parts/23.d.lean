set_option maxHeartbeats 4000000 in
set_option maxRecDepth 100000 in
theorem c_X5_hush (l : Launch) {G : zG} (hG : zOK G) (x : zX) (b : Nat) (hb0 : zRm b) : zMi l yX5_hush wsX5_hush { frames := 0, cells := 0, slots := 0, locals := 0 } G [.ref (za G b)] x (fun (r : Int32) (u : zX) => x = u ∧ x.1 b 6 = r) := by
  intro A
  refine zBody (cc := cX5_hush) (maxL := 1) (ret := (some .int)) (by decide) rfl (Nat.le_of_ble_eq_true rfl) ?_
  intro p e s m below meth c hx hb hml hown hts hr hlocks hK hN hI ls hl
  have hown : s.vm.findClass RX5 = some m.cls := hown
  have hl : lv_has ls 1 [(0, .ref (za G b))] := hl
  have hin5 : ∀ w ∈ wsX50, w ∈ wsX5_hush := (fun _ h => List.mem_cons_of_mem _ (List.mem_append_right _ (h)))
  have wF24 := hts (.fieldLink RX5 24 "WhoSitsBy$Room" "hushing" "I") (z_mem 1 rfl)
  refine lv_aload_n hx hb dX5_hush_0 rfl (lv_at hl 0 rfl) ?_
  refine z_get (C := RX5) (T := TX5) (N := 11) (ci := 5) (v := .int (x.1 b 6)) hx hb hts hin5 hown hK hI (zor hG hb0) rfl 6 (by decide) wF24 (fun _ h9 => h9) rfl dX5_hush_1 ?_
  exact z_iret hx hb hr hlocks hI (⟨rfl, rfl⟩) dX5_hush_4
set_option maxHeartbeats 4000000 in
set_option maxRecDepth 100000 in
theorem c_X11_roomAt (l : Launch) {G : zG} (hG : zOK G) (x : zX) (q : Int32)  : zMq l yX11_roomAt wsX11_roomAt { frames := 0, cells := 0, slots := 0, locals := 0 } G [.ref (za G 0), .int q] x (fun (o : Option Nat) (u : zX) => x = u ∧ some (zrix q) = o) := by
  intro A
  refine zBody (cc := cX11_roomAt) (maxL := 3) (ret := (some (.object "WhoSitsBy$Room"))) (by decide) rfl (Nat.le_of_ble_eq_true rfl) ?_
  intro p e s m below meth c hx hb hml hown hts hr hlocks hK hN hI ls hl
  have hown : s.vm.findClass RX11 = some m.cls := hown
  have hl : lv_has ls 3 [(0, .ref (za G 0)), (1, .int q)] := hl
  have hin11 : ∀ w ∈ wsX110, w ∈ wsX11_roomAt := (fun _ h => List.mem_cons_of_mem _ (List.mem_append_right _ (h)))
  have wF32 := hts (.fieldLink RX11 32 "WhoSitsBy" "bare" "LWhoSitsBy$Room;") (z_mem 2 rfl)
  have wF27 := hts (.fieldLink RX11 27 "WhoSitsBy" "rooms" "[LWhoSitsBy$Room;") (z_mem 1 rfl)
  refine lv_iload_n hx hb dX11_roomAt_0 rfl (lv_at hl 1 rfl) ?_
  refine lv_if_lt (tgt := 22) hx hb dX11_roomAt_1 (by decide) (fun c_1 => ?_) (fun c_1 => ?_)
  · skip
    refine lv_aload_n hx hb dX11_roomAt_22 rfl (lv_at hl 0 rfl) ?_
    refine z_get (C := RX11) (T := TX11) (N := 14) (ci := 11) (v := .ref (za G 70)) hx hb hts hin11 hown hK hI (zo0 hG) rfl 6 (by decide) wF32 (fun _ h9 => h9) rfl dX11_roomAt_23 ?_
    refine lv_astore_n (lv' := [(2, .ref (za G 70)), (0, .ref (za G 0)), (1, .int q)]) hx hb dX11_roomAt_26 rfl hl (by decide) rfl (fun ls hl => ?_)
    refine lv_aload_n hx hb dX11_roomAt_27 rfl (lv_at hl 0 rfl) ?_
    refine lv_ifnonnull (tgt := 38) hx hb dX11_roomAt_28 (by decide) ?_
    refine lv_aload_n hx hb dX11_roomAt_38 rfl (lv_at hl 0 rfl) ?_
    exact z_qret (o := (some 70)) hx hb hr (Or.inl ⟨_, rfl⟩) hlocks hI (⟨rfl, by unfold zrix; rw [if_pos c_1]⟩) dX11_roomAt_39
  · skip
    refine lv_iload_n hx hb dX11_roomAt_4 rfl (lv_at hl 1 rfl) ?_
    refine lv_aload_n hx hb dX11_roomAt_5 rfl (lv_at hl 0 rfl) ?_
    refine z_get (C := RX11) (T := TX11) (N := 14) (ci := 11) (v := .ref (za G 10)) hx hb hts hin11 hown hK hI (zo0 hG) rfl 5 (by decide) wF27 (fun _ h9 => h9) rfl dX11_roomAt_6 ?_
    refine z_alen (v := nI 6) hx hb hK hI 5 (zlt hG (by decide)) (zo10 _) rfl rfl dX11_roomAt_9 ?_
    refine lv_icmp_ge (tgt := 22) hx hb dX11_roomAt_10 (by decide) (fun c_10 => ?_) (fun c_10 => ?_)
    · skip
      refine lv_aload_n hx hb dX11_roomAt_22 rfl (lv_at hl 0 rfl) ?_
      refine z_get (C := RX11) (T := TX11) (N := 14) (ci := 11) (v := .ref (za G 70)) hx hb hts hin11 hown hK hI (zo0 hG) rfl 6 (by decide) wF32 (fun _ h9 => h9) rfl dX11_roomAt_23 ?_
      refine lv_astore_n (lv' := [(2, .ref (za G 70)), (0, .ref (za G 0)), (1, .int q)]) hx hb dX11_roomAt_26 rfl hl (by decide) rfl (fun ls hl => ?_)
      refine lv_aload_n hx hb dX11_roomAt_27 rfl (lv_at hl 0 rfl) ?_
      refine lv_ifnonnull (tgt := 38) hx hb dX11_roomAt_28 (by decide) ?_
      refine lv_aload_n hx hb dX11_roomAt_38 rfl (lv_at hl 0 rfl) ?_
      exact z_qret (o := (some 70)) hx hb hr (Or.inl ⟨_, rfl⟩) hlocks hI (⟨rfl, by unfold zrix; rw [if_neg c_1, if_pos c_10]⟩) dX11_roomAt_39
    · skip
      obtain ⟨k, hk, rfl⟩ := z_ix c_1 c_10 (by decide)
      refine lv_aload_n hx hb dX11_roomAt_13 rfl (lv_at hl 0 rfl) ?_
      refine z_get (C := RX11) (T := TX11) (N := 14) (ci := 11) (v := .ref (za G 10)) hx hb hts hin11 hown hK hI (zo0 hG) rfl 5 (by decide) wF27 (fun _ h9 => h9) rfl dX11_roomAt_14 ?_
      refine lv_iload_n hx hb dX11_roomAt_17 rfl (lv_at hl 1 rfl) ?_
      refine z_rald hx hb hK hG hI k rfl (by omega) dX11_roomAt_18 ?_
      refine lv_goto (tgt := 26) hx hb dX11_roomAt_19 (by decide) ?_
      refine lv_astore_n (lv' := [(2, .ref (za G (28 + 7 * k))), (0, .ref (za G 0)), (1, .int (nI k))]) hx hb dX11_roomAt_26 rfl hl (by decide) rfl (fun ls hl => ?_)
      refine lv_aload_n hx hb dX11_roomAt_27 rfl (lv_at hl 0 rfl) ?_
      refine lv_ifnonnull (tgt := 38) hx hb dX11_roomAt_28 (by decide) ?_
      refine lv_aload_n hx hb dX11_roomAt_38 rfl (lv_at hl 0 rfl) ?_
      exact z_qret (o := (some (28 + 7 * k))) hx hb hr (Or.inl ⟨_, rfl⟩) hlocks hI (⟨rfl, by unfold zrix; rw [if_neg c_1, if_neg c_10, nI_clamp (by omega)]⟩) dX11_roomAt_39
set_option maxHeartbeats 4000000 in
set_option maxRecDepth 100000 in
theorem c_X11_of (l : Launch) {G : zG} (hG : zOK G) (x : zX) (N : Nat) (q w : Int32) (hn : zNow G x N) (hsit : zSit x N) : zMi l yX11_of wsX11_of { frames := 2, cells := 0, slots := 0, locals := 45 } G [.ref (za G 0), .int q, .int w] x (fun (r : Int32) (u : zX) => x = u ∧ (if zin N q then zofN G x q.toNatClampNeg w else -1) = r) := by
  intro A
  refine zBody (cc := cX11_of) (maxL := 4) (ret := (some .int)) (by decide) rfl (Nat.le_of_ble_eq_true rfl) ?_
  intro p e s m below meth c hx hb hml hown hts hr hlocks hK hN hI ls hl
  have hown : s.vm.findClass RX11 = some m.cls := hown
  have hl : lv_has ls 4 [(0, .ref (za G 0)), (1, .int q), (2, .int w)] := hl
  have hin0 : ∀ w ∈ wsX00, w ∈ wsX11_of := (fun _ h => List.mem_cons_of_mem _ (List.mem_append_left _ (List.mem_append_left _ (List.mem_append_left _ (List.mem_append_left _ (List.mem_append_left _ (List.mem_append_left _ (List.mem_append_left _ (List.mem_append_right _ (h))))))))))
  have hin1 : ∀ w ∈ wsX10, w ∈ wsX11_of := (fun _ h => List.mem_cons_of_mem _ (List.mem_append_left _ (List.mem_append_left _ (List.mem_append_left _ (List.mem_append_left _ (List.mem_append_left _ (List.mem_append_left _ (List.mem_append_right _ (h)))))))))
  have hin2 : ∀ w ∈ wsX20, w ∈ wsX11_of := (fun _ h => List.mem_cons_of_mem _ (List.mem_append_left _ (List.mem_append_left _ (List.mem_append_left _ (List.mem_append_left _ (List.mem_append_left _ (List.mem_append_right _ (h))))))))
  have hin3 : ∀ w ∈ wsX30, w ∈ wsX11_of := (fun _ h => List.mem_cons_of_mem _ (List.mem_append_left _ (List.mem_append_left _ (List.mem_append_left _ (List.mem_append_left _ (List.mem_append_right _ (h)))))))
  have hin4 : ∀ w ∈ wsX40, w ∈ wsX11_of := (fun _ h => List.mem_cons_of_mem _ (List.mem_append_left _ (List.mem_append_left _ (List.mem_append_left _ (List.mem_append_right _ (h))))))
  have hin7 : ∀ w ∈ wsX70, w ∈ wsX11_of := (fun _ h => List.mem_cons_of_mem _ (List.mem_append_right _ (h)))
  have hin8 : ∀ w ∈ wsX80, w ∈ wsX11_of := (fun _ h => List.mem_cons_of_mem _ (List.mem_append_left _ (List.mem_append_left _ (List.mem_append_right _ (h)))))
  have hin10 : ∀ w ∈ wsX100, w ∈ wsX11_of := (fun _ h => List.mem_cons_of_mem _ (List.mem_append_left _ (List.mem_append_right _ (h))))
  have hin11 : ∀ w ∈ wsX110, w ∈ wsX11_of := (fun _ h => List.mem_cons_of_mem _ (List.mem_append_left _ (List.mem_append_left _ (List.mem_append_left _ (List.mem_append_left _ (List.mem_append_left _ (List.mem_append_left _ (List.mem_append_left _ (List.mem_append_left _ (List.mem_append_right _ (h)))))))))))
  have wF12 := hts (.fieldLink RX11 12 "WhoSitsBy" "now" "LWhoSitsBy$Standing;") (z_mem 1 rfl)
  have wF92 := hts (.fieldLink RX11 92 "WhoSitsBy$Pupil" "v" "I") (z_mem 2 rfl)
  have wF95 := hts (.fieldLink RX11 95 "WhoSitsBy$Pupil" "talkative" "I") (z_mem 3 rfl)
  have wF98 := hts (.fieldLink RX11 98 "WhoSitsBy$Pupil" "knowing" "I") (z_mem 4 rfl)
  have wF101 := hts (.fieldLink RX11 101 "WhoSitsBy$Pupil" "tongue" "I") (z_mem 5 rfl)
  have wF114 := hts (.fieldLink RX11 114 "WhoSitsBy$Standing" "sitters" "[I") (z_mem 6 rfl)
  have h8 := hn.1
  refine lv_aload_n hx hb dX11_of_0 rfl (lv_at hl 0 rfl) ?_
  refine z_get (C := RX11) (T := TX11) (N := 14) (ci := 11) (v := .ref (za G 1)) hx hb hts hin11 hown hK hI (zo0 hG) rfl 0 (by decide) wF12 (fun _ h9 => h9) rfl dX11_of_1 ?_
  refine lv_iload_n hx hb dX11_of_4 rfl (lv_at hl 1 rfl) ?_
  refine z_callq (va_runV (As := [.int q]) (rest := []) ⟨hx, hb, hml, hown, hts⟩ ((c_X7_at l hG x N q hn) A) (cwV 1 hts gX11_of_X7_at rfl rfl rfl (by decide +kernel) ⟨Nat.le_of_ble_eq_true rfl, Nat.le_of_ble_eq_true rfl⟩) (z_pV hI hK hN (z_recv hK hI (zo1 hG) rfl)) rfl rfl hl.1 rfl (lv_room (Nat.le_of_ble_eq_true rfl)) dX11_of_5 ⟨Nat.zero_le _, Nat.zero_le _⟩) hI (fun r_5 u H locs hw hI => ?_)
  obtain ⟨rfl, rfl⟩ := hw
  rcases hq_5 : (zat x N q) with _ | o_5
  · skip
    have hno : ¬ zin N q := fun h => by rcases zat_no hn hq_5 with h1 | h1; exact h.1 h1; exact h.2 h1
    refine lv_astore_nN (lv' := [(3, .null), (0, .ref (za G 0)), (1, .int q), (2, .int w)]) hx hb dX11_of_8 rfl hl (by decide) rfl (fun ls hl => ?_)
    refine lv_aload_nN hx hb dX11_of_9 rfl (lv_at hl 0 rfl) ?_
    refine lv_ifnonnullN hx hb dX11_of_10 ?_
    refine lv_iconst (v := (-1)) hx hb dX11_of_13 rfl ?_
    exact z_iret hx hb hr hlocks hI (⟨rfl, if_neg hno⟩) dX11_of_14
  · skip
    obtain ⟨k, hk, rfl, rfl⟩ := zat_of hn hq_5
    refine lv_astore_n (lv' := [(3, .ref (za G (zob x k))), (0, .ref (za G 0)), (1, .int (nI k)), (2, .int w)]) hx hb dX11_of_8 rfl hl (by decide) rfl (fun ls hl => ?_)
    refine lv_aload_n hx hb dX11_of_9 rfl (lv_at hl 0 rfl) ?_
    refine lv_ifnonnull (tgt := 15) hx hb dX11_of_10 (by decide) ?_
    refine lv_iload_n hx hb dX11_of_15 rfl (lv_at hl 3 rfl) ?_
    by_cases q16_0 : w = (nI 0)
    · skip
      refine lv_tableIn (off := 52) (tgt := 68) hx hb dX11_of_16 (by rw [q16_0]; decide) (by rw [q16_0]; decide) (by rw [q16_0]; rfl) (by decide) ?_
      refine lv_aload_n hx hb dX11_of_68 rfl (lv_at hl 0 rfl) ?_
      have hrun : va_Run p l e { frames := 2, cells := 0, slots := 0, locals := 45 } s m ([.ref (za G 0), .int (nI k), .int w] : List Value).toArray below meth c H locs 0 0 0 0 (F0 m 69 ls [.ref (za G (zob x k))]) [] (va_Qi (fun (r : Int32) (u : zX) => x = u ∧ zkn (zk G (zob x k)) = r) (fun u t => zJ G u A t.heap) A (Value.ref (za G (zob x k)) :: []).toArray) A := by
        have ho := zop (G := G) (hn.2.2.1 k (by omega)).2.1 (hn.2.2.1 k (by omega)).2.2.1
        rcases hG.2 (zob x k) (hn.2.2.1 k (by omega)).2.1 (hn.2.2.1 k (by omega)).2.2.1 with h | h | h | h | h | h | h <;> rw [h] at ho
        · rw [h]
          exact va_runU (As := []) (rest := []) ⟨hx, hb, hml, hown, hts⟩ ((c_X0_kind l hG x (zob x k) (hn.2.2.1 k (by omega)).2.1 (hn.2.2.1 k (by omega)).2.2.1) A) (va_cwO 0 hts gX11_of_X0_kind_u86X0 rfl rfl rfl (z_mem 21 rfl) (by decide +kernel) ⟨Nat.le_of_ble_eq_true rfl, Nat.le_of_ble_eq_true rfl⟩) (z_pV hI hK hN (z_recv hK hI ho rfl)) rfl rfl hl.1 rfl (lv_room (Nat.le_of_ble_eq_true rfl)) dX11_of_69 ⟨Nat.zero_le _, Nat.zero_le _⟩
        · rw [h]
          exact va_runU (As := []) (rest := []) ⟨hx, hb, hml, hown, hts⟩ ((c_X1_kind l hG x (zob x k) (hn.2.2.1 k (by omega)).2.1 (hn.2.2.1 k (by omega)).2.2.1) A) (va_cwO 0 hts gX11_of_X1_kind_u86X1 rfl rfl rfl (z_mem 21 rfl) (by decide +kernel) ⟨Nat.le_of_ble_eq_true rfl, Nat.le_of_ble_eq_true rfl⟩) (z_pV hI hK hN (z_recv hK hI ho rfl)) rfl rfl hl.1 rfl (lv_room (Nat.le_of_ble_eq_true rfl)) dX11_of_69 ⟨Nat.zero_le _, Nat.zero_le _⟩
        · rw [h]
          exact va_runU (As := []) (rest := []) ⟨hx, hb, hml, hown, hts⟩ ((c_X2_kind l hG x (zob x k) (hn.2.2.1 k (by omega)).2.1 (hn.2.2.1 k (by omega)).2.2.1) A) (va_cwO 0 hts gX11_of_X2_kind_u86X2 rfl rfl rfl (z_mem 21 rfl) (by decide +kernel) ⟨Nat.le_of_ble_eq_true rfl, Nat.le_of_ble_eq_true rfl⟩) (z_pV hI hK hN (z_recv hK hI ho rfl)) rfl rfl hl.1 rfl (lv_room (Nat.le_of_ble_eq_true rfl)) dX11_of_69 ⟨Nat.zero_le _, Nat.zero_le _⟩
        · rw [h]
          exact va_runU (As := []) (rest := []) ⟨hx, hb, hml, hown, hts⟩ ((c_X3_kind l hG x (zob x k) (hn.2.2.1 k (by omega)).2.1 (hn.2.2.1 k (by omega)).2.2.1) A) (va_cwO 0 hts gX11_of_X3_kind_u86X3 rfl rfl rfl (z_mem 21 rfl) (by decide +kernel) ⟨Nat.le_of_ble_eq_true rfl, Nat.le_of_ble_eq_true rfl⟩) (z_pV hI hK hN (z_recv hK hI ho rfl)) rfl rfl hl.1 rfl (lv_room (Nat.le_of_ble_eq_true rfl)) dX11_of_69 ⟨Nat.zero_le _, Nat.zero_le _⟩
        · rw [h]
          exact va_runV (As := []) (rest := []) ⟨hx, hb, hml, hown, hts⟩ ((c_X4_kind l hG x (zob x k) (hn.2.2.1 k (by omega)).2.1 (hn.2.2.1 k (by omega)).2.2.1) A) (cwV 0 hts gX11_of_X4_kind rfl rfl rfl (by decide +kernel) ⟨Nat.le_of_ble_eq_true rfl, Nat.le_of_ble_eq_true rfl⟩) (z_pV hI hK hN (z_recv hK hI ho rfl)) rfl rfl hl.1 rfl (lv_room (Nat.le_of_ble_eq_true rfl)) dX11_of_69 ⟨Nat.zero_le _, Nat.zero_le _⟩
        · rw [h]
          exact va_runU (As := []) (rest := []) ⟨hx, hb, hml, hown, hts⟩ ((c_X8_kind l hG x (zob x k) (hn.2.2.1 k (by omega)).2.1 (hn.2.2.1 k (by omega)).2.2.1) A) (va_cwO 0 hts gX11_of_X8_kind_u86X8 rfl rfl rfl (z_mem 21 rfl) (by decide +kernel) ⟨Nat.le_of_ble_eq_true rfl, Nat.le_of_ble_eq_true rfl⟩) (z_pV hI hK hN (z_recv hK hI ho rfl)) rfl rfl hl.1 rfl (lv_room (Nat.le_of_ble_eq_true rfl)) dX11_of_69 ⟨Nat.zero_le _, Nat.zero_le _⟩
        · rw [h]
          exact va_runU (As := []) (rest := []) ⟨hx, hb, hml, hown, hts⟩ ((c_X10_kind l hG x (zob x k) (hn.2.2.1 k (by omega)).2.1 (hn.2.2.1 k (by omega)).2.2.1) A) (va_cwO 0 hts gX11_of_X10_kind_u86X10 rfl rfl rfl (z_mem 21 rfl) (by decide +kernel) ⟨Nat.le_of_ble_eq_true rfl, Nat.le_of_ble_eq_true rfl⟩) (z_pV hI hK hN (z_recv hK hI ho rfl)) rfl rfl hl.1 rfl (lv_room (Nat.le_of_ble_eq_true rfl)) dX11_of_69 ⟨Nat.zero_le _, Nat.zero_le _⟩
      refine z_calli hrun hI (fun r_69 u H locs hw hI => ?_)
      obtain ⟨rfl, rfl⟩ := hw
      exact z_iret hx hb hr hlocks hI (⟨rfl, by rw [if_pos ⟨nI_pos (by omega), nI_ge hk (by omega)⟩, nI_clamp (by omega)]; unfold zofN; rw [if_pos q16_0]⟩) dX11_of_72
    by_cases q16_1 : w = (nI 1)
    · skip
      refine lv_tableIn (off := 57) (tgt := 73) hx hb dX11_of_16 (by rw [q16_1]; decide) (by rw [q16_1]; decide) (by rw [q16_1]; rfl) (by decide) ?_
      refine lv_aload_n hx hb dX11_of_73 rfl (lv_at hl 0 rfl) ?_
      refine z_getP hx hb hts ⟨hin0, hin1, hin2, hin3, hin4, hin8, hin10⟩ hown hK hG hI (hn.2.2.1 k (by omega)).2.1 (hn.2.2.1 k (by omega)).2.2.1 1 (by decide) wF92 (fun _ h9 => h9) dX11_of_74 ?_
      exact z_iret hx hb hr hlocks hI (⟨rfl, by rw [if_pos ⟨nI_pos (by omega), nI_ge hk (by omega)⟩, nI_clamp (by omega)]; unfold zofN; rw [if_neg q16_0, if_pos q16_1]⟩) dX11_of_77
    by_cases q16_2 : w = (nI 2)
    · skip
      refine lv_tableIn (off := 62) (tgt := 78) hx hb dX11_of_16 (by rw [q16_2]; decide) (by rw [q16_2]; decide) (by rw [q16_2]; rfl) (by decide) ?_
      refine lv_aload_n hx hb dX11_of_78 rfl (lv_at hl 0 rfl) ?_
      refine z_getP hx hb hts ⟨hin0, hin1, hin2, hin3, hin4, hin8, hin10⟩ hown hK hG hI (hn.2.2.1 k (by omega)).2.1 (hn.2.2.1 k (by omega)).2.2.1 2 (by decide) wF95 (fun _ h9 => h9) dX11_of_79 ?_
      exact z_iret hx hb hr hlocks hI (⟨rfl, by rw [if_pos ⟨nI_pos (by omega), nI_ge hk (by omega)⟩, nI_clamp (by omega)]; unfold zofN; rw [if_neg q16_0, if_neg q16_1, if_pos q16_2]⟩) dX11_of_82
    by_cases q16_3 : w = (nI 3)
    · skip
      refine lv_tableIn (off := 67) (tgt := 83) hx hb dX11_of_16 (by rw [q16_3]; decide) (by rw [q16_3]; decide) (by rw [q16_3]; rfl) (by decide) ?_
      refine lv_aload_n hx hb dX11_of_83 rfl (lv_at hl 0 rfl) ?_
      refine z_getP hx hb hts ⟨hin0, hin1, hin2, hin3, hin4, hin8, hin10⟩ hown hK hG hI (hn.2.2.1 k (by omega)).2.1 (hn.2.2.1 k (by omega)).2.2.1 3 (by decide) wF98 (fun _ h9 => h9) dX11_of_84 ?_
      exact z_iret hx hb hr hlocks hI (⟨rfl, by rw [if_pos ⟨nI_pos (by omega), nI_ge hk (by omega)⟩, nI_clamp (by omega)]; unfold zofN; rw [if_neg q16_0, if_neg q16_1, if_neg q16_2, if_pos q16_3]⟩) dX11_of_87
    by_cases q16_4 : w = (nI 4)
    · skip
      refine lv_tableIn (off := 72) (tgt := 88) hx hb dX11_of_16 (by rw [q16_4]; decide) (by rw [q16_4]; decide) (by rw [q16_4]; rfl) (by decide) ?_
      refine lv_aload_n hx hb dX11_of_88 rfl (lv_at hl 0 rfl) ?_
      refine z_getP hx hb hts ⟨hin0, hin1, hin2, hin3, hin4, hin8, hin10⟩ hown hK hG hI (hn.2.2.1 k (by omega)).2.1 (hn.2.2.1 k (by omega)).2.2.1 4 (by decide) wF101 (fun _ h9 => h9) dX11_of_89 ?_
      exact z_iret hx hb hr hlocks hI (⟨rfl, by rw [if_pos ⟨nI_pos (by omega), nI_ge hk (by omega)⟩, nI_clamp (by omega)]; unfold zofN; rw [if_neg q16_0, if_neg q16_1, if_neg q16_2, if_neg q16_3, if_pos q16_4]⟩) dX11_of_92
    by_cases q16_5 : w = (nI 5)
    · skip
      refine lv_tableIn (off := 77) (tgt := 93) hx hb dX11_of_16 (by rw [q16_5]; decide) (by rw [q16_5]; decide) (by rw [q16_5]; rfl) (by decide) ?_
      refine lv_aload_n hx hb dX11_of_93 rfl (lv_at hl 1 rfl) ?_
      refine z_get (C := RX11) (T := TX11) (N := 14) (ci := 11) (v := .ref (za G 1)) hx hb hts hin11 hown hK hI (zo0 hG) rfl 0 (by decide) wF12 (fun _ h9 => h9) rfl dX11_of_94 ?_
      refine lv_iload_n hx hb dX11_of_97 rfl (lv_at hl 2 rfl) ?_
      refine z_calli (va_runV (As := [.int (nI k)]) (rest := []) ⟨hx, hb, hml, hown, hts⟩ ((c_X7_needsFront l hG x (nI k)) A) (cwV 1 hts gX11_of_X7_needsFront rfl rfl rfl (by decide +kernel) ⟨Nat.le_of_ble_eq_true rfl, Nat.le_of_ble_eq_true rfl⟩) (z_pV hI hK hN (z_recv hK hI (zo1 hG) rfl)) rfl rfl hl.1 rfl (lv_room (Nat.le_of_ble_eq_true rfl)) dX11_of_98 ⟨Nat.zero_le _, Nat.zero_le _⟩) hI (fun r_98 u H locs hw hI => ?_)
      obtain ⟨rfl, rfl⟩ := hw
      refine lv_if_eq (tgt := 108) hx hb dX11_of_101 (by decide) (fun c_101 => ?_) (fun c_101 => ?_)
      · skip
        rw [zb_0] at c_101
        refine lv_iconst (v := (nI 0)) hx hb dX11_of_108 rfl ?_
        exact z_iret hx hb hr hlocks hI (⟨rfl, by rw [if_pos ⟨nI_pos (by omega), nI_ge hk (by omega)⟩, nI_clamp (by omega)]; unfold zofN; rw [if_neg q16_0, if_neg q16_1, if_neg q16_2, if_neg q16_3, if_neg q16_4, if_pos q16_5, if_neg c_101]⟩) dX11_of_109
      · skip
        rw [zb_0, Classical.not_not] at c_101
        refine lv_iconst (v := (nI 1)) hx hb dX11_of_104 rfl ?_
        refine lv_goto (tgt := 109) hx hb dX11_of_105 (by decide) ?_
        exact z_iret hx hb hr hlocks hI (⟨rfl, by rw [if_pos ⟨nI_pos (by omega), nI_ge hk (by omega)⟩, nI_clamp (by omega)]; unfold zofN; rw [if_neg q16_0, if_neg q16_1, if_neg q16_2, if_neg q16_3, if_neg q16_4, if_pos q16_5, if_pos c_101]⟩) dX11_of_109
    by_cases q16_6 : w = (nI 6)
    · skip
      refine lv_tableIn (off := 94) (tgt := 110) hx hb dX11_of_16 (by rw [q16_6]; decide) (by rw [q16_6]; decide) (by rw [q16_6]; rfl) (by decide) ?_
      refine lv_aload_n hx hb dX11_of_110 rfl (lv_at hl 1 rfl) ?_
      refine z_get (C := RX11) (T := TX11) (N := 14) (ci := 11) (v := .ref (za G 1)) hx hb hts hin11 hown hK hI (zo0 hG) rfl 0 (by decide) wF12 (fun _ h9 => h9) rfl dX11_of_111 ?_
      refine lv_iload_n hx hb dX11_of_114 rfl (lv_at hl 2 rfl) ?_
      refine z_calli (va_runV (As := [.int (nI k)]) (rest := []) ⟨hx, hb, hml, hown, hts⟩ ((c_X7_whomNames l hG x N k hn (by omega)) A) (cwV 1 hts gX11_of_X7_whomNames rfl rfl rfl (by decide +kernel) ⟨Nat.le_of_ble_eq_true rfl, Nat.le_of_ble_eq_true rfl⟩) (z_pV hI hK hN (z_recv hK hI (zo1 hG) rfl)) rfl rfl hl.1 rfl (lv_room (Nat.le_of_ble_eq_true rfl)) dX11_of_115 ⟨Nat.zero_le _, Nat.zero_le _⟩) hI (fun r_115 u H locs hw hI => ?_)
      obtain ⟨rfl, rfl⟩ := hw
      refine z_calli (va_runS (As := [.int (x.1 5 k)]) (rest := []) ⟨hx, hb, hml, hown, hts⟩ ((c_X11_orNobody l hG x (x.1 5 k)) A) (va_cwS 1 hts gX11_of_X11_orNobody rfl rfl rfl (by decide +kernel) ⟨Nat.le_of_ble_eq_true rfl, Nat.le_of_ble_eq_true rfl⟩) (z_pS hI hK hN) rfl rfl hl.1 rfl (lv_room (Nat.le_of_ble_eq_true rfl)) dX11_of_118 ⟨Nat.zero_le _, Nat.zero_le _⟩) hI (fun r_118 u H locs hw hI => ?_)
      obtain ⟨rfl, rfl⟩ := hw
      exact z_iret hx hb hr hlocks hI (⟨rfl, by rw [if_pos ⟨nI_pos (by omega), nI_ge hk (by omega)⟩, nI_clamp (by omega)]; unfold zofN; rw [if_neg q16_0, if_neg q16_1, if_neg q16_2, if_neg q16_3, if_neg q16_4, if_neg q16_5, if_pos q16_6]⟩) dX11_of_121
    by_cases q16_7 : w = (nI 7)
    · skip
      refine lv_tableIn (off := 106) (tgt := 122) hx hb dX11_of_16 (by rw [q16_7]; decide) (by rw [q16_7]; decide) (by rw [q16_7]; rfl) (by decide) ?_
      refine lv_aload_n hx hb dX11_of_122 rfl (lv_at hl 1 rfl) ?_
      refine z_get (C := RX11) (T := TX11) (N := 14) (ci := 11) (v := .ref (za G 1)) hx hb hts hin11 hown hK hI (zo0 hG) rfl 0 (by decide) wF12 (fun _ h9 => h9) rfl dX11_of_123 ?_
      refine z_get (C := RX7) (T := TX7) (N := 7) (ci := 7) (v := .ref (za G 4)) hx hb hts hin7 hown hK hI (zo1 hG) rfl 1 (by decide) wF114 (fun _ h9 => h9) rfl dX11_of_126 ?_
      refine lv_iload_n hx hb dX11_of_129 rfl (lv_at hl 2 rfl) ?_
      refine z_calli (va_runS (As := [.ref (za G 4), .int (nI k)]) (rest := []) ⟨hx, hb, hml, hown, hts⟩ ((c_X11_seatIn l hG x 4 (nI k) (zo4 hG)) A) (va_cwS 2 hts gX11_of_X11_seatIn rfl rfl rfl (by decide +kernel) ⟨Nat.le_of_ble_eq_true rfl, Nat.le_of_ble_eq_true rfl⟩) (z_pS hI hK hN) rfl rfl hl.1 rfl (lv_room (Nat.le_of_ble_eq_true rfl)) dX11_of_130 ⟨Nat.zero_le _, Nat.zero_le _⟩) hI (fun r_130 u H locs hw hI => ?_)
      obtain ⟨rfl, rfl⟩ := hw
      rw [(hsit k hk).2]
      exact z_iret hx hb hr hlocks hI (⟨rfl, by rw [if_pos ⟨nI_pos (by omega), nI_ge hk (by omega)⟩, nI_clamp (by omega)]; unfold zofN; rw [if_neg q16_0, if_neg q16_1, if_neg q16_2, if_neg q16_3, if_neg q16_4, if_neg q16_5, if_neg q16_6, if_pos q16_7]⟩) dX11_of_133
    by_cases q16_8 : w = (nI 8)
    · skip
      refine lv_tableIn (off := 118) (tgt := 134) hx hb dX11_of_16 (by rw [q16_8]; decide) (by rw [q16_8]; decide) (by rw [q16_8]; rfl) (by decide) ?_
      refine lv_aload_n hx hb dX11_of_134 rfl (lv_at hl 1 rfl) ?_
      refine z_get (C := RX11) (T := TX11) (N := 14) (ci := 11) (v := .ref (za G 1)) hx hb hts hin11 hown hK hI (zo0 hG) rfl 0 (by decide) wF12 (fun _ h9 => h9) rfl dX11_of_135 ?_
      refine lv_iload_n hx hb dX11_of_138 rfl (lv_at hl 2 rfl) ?_
      refine z_calli (va_runV (As := [.int (nI k)]) (rest := []) ⟨hx, hb, hml, hown, hts⟩ ((c_X7_besideOf l hG x k (zst x k) (hsit k hk).1 (hsit k hk).2) A) (cwV 1 hts gX11_of_X7_besideOf rfl rfl rfl (by decide +kernel) ⟨Nat.le_of_ble_eq_true rfl, Nat.le_of_ble_eq_true rfl⟩) (z_pV hI hK hN (z_recv hK hI (zo1 hG) rfl)) rfl rfl hl.1 rfl (lv_room (Nat.le_of_ble_eq_true rfl)) dX11_of_139 ⟨Nat.zero_le _, Nat.zero_le _⟩) hI (fun r_139 u H locs hw hI => ?_)
      obtain ⟨rfl, rfl⟩ := hw
      refine z_calli (va_runS (As := [.int (x.1 4 ((zst x k) ^^^ 1))]) (rest := []) ⟨hx, hb, hml, hown, hts⟩ ((c_X11_orNobody l hG x (x.1 4 ((zst x k) ^^^ 1))) A) (va_cwS 1 hts gX11_of_X11_orNobody rfl rfl rfl (by decide +kernel) ⟨Nat.le_of_ble_eq_true rfl, Nat.le_of_ble_eq_true rfl⟩) (z_pS hI hK hN) rfl rfl hl.1 rfl (lv_room (Nat.le_of_ble_eq_true rfl)) dX11_of_142 ⟨Nat.zero_le _, Nat.zero_le _⟩) hI (fun r_142 u H locs hw hI => ?_)
      obtain ⟨rfl, rfl⟩ := hw
      exact z_iret hx hb hr hlocks hI (⟨rfl, by rw [if_pos ⟨nI_pos (by omega), nI_ge hk (by omega)⟩, nI_clamp (by omega)]; unfold zofN; rw [if_neg q16_0, if_neg q16_1, if_neg q16_2, if_neg q16_3, if_neg q16_4, if_neg q16_5, if_neg q16_6, if_neg q16_7, if_pos q16_8]⟩) dX11_of_145
    refine lv_tableOut (tgt := 146) hx hb dX11_of_16 (by have := lv_neT (a := 0) q16_0 rfl; have := lv_neT (a := 1) q16_1 rfl; have := lv_neT (a := 2) q16_2 rfl; have := lv_neT (a := 3) q16_3 rfl; have := lv_neT (a := 4) q16_4 rfl; have := lv_neT (a := 5) q16_5 rfl; have := lv_neT (a := 6) q16_6 rfl; have := lv_neT (a := 7) q16_7 rfl; have := lv_neT (a := 8) q16_8 rfl; omega) (by decide) ?_
    refine lv_iconst (v := (-1)) hx hb dX11_of_146 rfl ?_
    exact z_iret hx hb hr hlocks hI (⟨rfl, by rw [if_pos ⟨nI_pos (by omega), nI_ge hk (by omega)⟩, nI_clamp (by omega)]; unfold zofN; rw [if_neg q16_0, if_neg q16_1, if_neg q16_2, if_neg q16_3, if_neg q16_4, if_neg q16_5, if_neg q16_6, if_neg q16_7, if_neg q16_8]⟩) dX11_of_147
set_option maxHeartbeats 4000000 in
set_option maxRecDepth 100000 in
theorem c_X11_front (l : Launch) {G : zG} (hG : zOK G) (x : zX) (N : Nat) (q b : Int32) (hn : zNow G x N) : zMi l yX11_front wsX11_front { frames := 2, cells := 0, slots := 0, locals := 42 } G [.ref (za G 0), .int q, .int b] x (fun (r : Int32) (u : zX) => (zin N q ∧ zsI x 1 4 (if b = 0 then (x.1 1 4) &&& ((nI 1 <<< (q &&& 31)) ^^^ (-1)) else (x.1 1 4) ||| (nI 1 <<< (q &&& 31))) = u ∧ (if zbit (x.1 1 4) q then nI 1 else nI 0) = r) ∨ (¬ zin N q ∧ x = u ∧ -1 = r)) := by
  intro A
  refine zBody (cc := cX11_front) (maxL := 4) (ret := (some .int)) (by decide) rfl (Nat.le_of_ble_eq_true rfl) ?_
  intro p e s m below meth c hx hb hml hown hts hr hlocks hK hN hI ls hl
  have hown : s.vm.findClass RX11 = some m.cls := hown
  have hl : lv_has ls 4 [(0, .ref (za G 0)), (1, .int q), (2, .int b)] := hl
  have hin11 : ∀ w ∈ wsX110, w ∈ wsX11_front := (fun _ h => List.mem_cons_of_mem _ (List.mem_append_left _ (List.mem_append_right _ (h))))
  have wF12 := hts (.fieldLink RX11 12 "WhoSitsBy" "now" "LWhoSitsBy$Standing;") (z_mem 1 rfl)
  have h8 := hn.1
  refine lv_aload_n hx hb dX11_front_0 rfl (lv_at hl 0 rfl) ?_
  refine z_get (C := RX11) (T := TX11) (N := 14) (ci := 11) (v := .ref (za G 1)) hx hb hts hin11 hown hK hI (zo0 hG) rfl 0 (by decide) wF12 (fun _ h9 => h9) rfl dX11_front_1 ?_
  refine lv_iload_n hx hb dX11_front_4 rfl (lv_at hl 1 rfl) ?_
  refine z_callq (va_runV (As := [.int q]) (rest := []) ⟨hx, hb, hml, hown, hts⟩ ((c_X7_at l hG x N q hn) A) (cwV 1 hts gX11_front_X7_at rfl rfl rfl (by decide +kernel) ⟨Nat.le_of_ble_eq_true rfl, Nat.le_of_ble_eq_true rfl⟩) (z_pV hI hK hN (z_recv hK hI (zo1 hG) rfl)) rfl rfl hl.1 rfl (lv_room (Nat.le_of_ble_eq_true rfl)) dX11_front_5 ⟨Nat.zero_le _, Nat.zero_le _⟩) hI (fun r_5 u H locs hw hI => ?_)
  obtain ⟨rfl, rfl⟩ := hw
  rcases hq_5 : (zat x N q) with _ | o_5
  · skip
    have hno : ¬ zin N q := fun h => by rcases zat_no hn hq_5 with h1 | h1; exact h.1 h1; exact h.2 h1
    refine lv_ifnonnullN hx hb dX11_front_8 ?_
    refine lv_iconst (v := (-1)) hx hb dX11_front_11 rfl ?_
    exact z_iret hx hb hr hlocks hI (Or.inr ⟨hno, rfl, rfl⟩) dX11_front_12
  · skip
    obtain ⟨k, hk, rfl, rfl⟩ := zat_of hn hq_5
    refine lv_ifnonnull (tgt := 13) hx hb dX11_front_8 (by decide) ?_
    refine lv_aload_n hx hb dX11_front_13 rfl (lv_at hl 0 rfl) ?_
    refine z_get (C := RX11) (T := TX11) (N := 14) (ci := 11) (v := .ref (za G 1)) hx hb hts hin11 hown hK hI (zo0 hG) rfl 0 (by decide) wF12 (fun _ h9 => h9) rfl dX11_front_14 ?_
    refine lv_iload_n hx hb dX11_front_17 rfl (lv_at hl 1 rfl) ?_
    refine z_calli (va_runV (As := [.int (nI k)]) (rest := []) ⟨hx, hb, hml, hown, hts⟩ ((c_X7_needsFront l hG x (nI k)) A) (cwV 1 hts gX11_front_X7_needsFront rfl rfl rfl (by decide +kernel) ⟨Nat.le_of_ble_eq_true rfl, Nat.le_of_ble_eq_true rfl⟩) (z_pV hI hK hN (z_recv hK hI (zo1 hG) rfl)) rfl rfl hl.1 rfl (lv_room (Nat.le_of_ble_eq_true rfl)) dX11_front_18 ⟨Nat.zero_le _, Nat.zero_le _⟩) hI (fun r_18 u H locs hw hI => ?_)
    obtain ⟨rfl, rfl⟩ := hw
    refine lv_if_eq (tgt := 28) hx hb dX11_front_21 (by decide) (fun c_21 => ?_) (fun c_21 => ?_)
    · skip
      rw [zb_0] at c_21
      refine lv_iconst (v := (nI 0)) hx hb dX11_front_28 rfl ?_
      refine lv_istore_n (lv' := [(3, .int (nI 0)), (0, .ref (za G 0)), (1, .int (nI k)), (2, .int b)]) hx hb dX11_front_29 rfl hl (by decide) rfl (fun ls hl => ?_)
      refine lv_aload_n hx hb dX11_front_30 rfl (lv_at hl 1 rfl) ?_
      refine z_get (C := RX11) (T := TX11) (N := 14) (ci := 11) (v := .ref (za G 1)) hx hb hts hin11 hown hK hI (zo0 hG) rfl 0 (by decide) wF12 (fun _ h9 => h9) rfl dX11_front_31 ?_
      refine lv_iload_n hx hb dX11_front_34 rfl (lv_at hl 2 rfl) ?_
      refine lv_iload_n hx hb dX11_front_35 rfl (lv_at hl 3 rfl) ?_
      refine z_callv (va_runV (As := [.int (nI k), .int b]) (rest := []) ⟨hx, hb, hml, hown, hts⟩ ((c_X7_setFront l hG x (nI k) b) A) (cwV 2 hts gX11_front_X7_setFront rfl rfl rfl (by decide +kernel) ⟨Nat.le_of_ble_eq_true rfl, Nat.le_of_ble_eq_true rfl⟩) (z_pV hI hK hN (z_recv hK hI (zo1 hG) rfl)) rfl rfl hl.1 rfl (lv_room (Nat.le_of_ble_eq_true rfl)) dX11_front_36 ⟨Nat.zero_le _, Nat.zero_le _⟩) hI (fun u H locs hw hI => ?_)
      obtain rfl := hw
      refine lv_iload_n hx hb dX11_front_39 rfl (lv_at hl 0 rfl) ?_
      exact z_iret hx hb hr hlocks hI (Or.inl ⟨⟨nI_pos (by omega), nI_ge hk (by omega)⟩, rfl, if_neg c_21⟩) dX11_front_40
    · skip
      rw [zb_0, Classical.not_not] at c_21
      refine lv_iconst (v := (nI 1)) hx hb dX11_front_24 rfl ?_
      refine lv_goto (tgt := 29) hx hb dX11_front_25 (by decide) ?_
      refine lv_istore_n (lv' := [(3, .int (nI 1)), (0, .ref (za G 0)), (1, .int (nI k)), (2, .int b)]) hx hb dX11_front_29 rfl hl (by decide) rfl (fun ls hl => ?_)
      refine lv_aload_n hx hb dX11_front_30 rfl (lv_at hl 1 rfl) ?_
      refine z_get (C := RX11) (T := TX11) (N := 14) (ci := 11) (v := .ref (za G 1)) hx hb hts hin11 hown hK hI (zo0 hG) rfl 0 (by decide) wF12 (fun _ h9 => h9) rfl dX11_front_31 ?_
      refine lv_iload_n hx hb dX11_front_34 rfl (lv_at hl 2 rfl) ?_
      refine lv_iload_n hx hb dX11_front_35 rfl (lv_at hl 3 rfl) ?_
      refine z_callv (va_runV (As := [.int (nI k), .int b]) (rest := []) ⟨hx, hb, hml, hown, hts⟩ ((c_X7_setFront l hG x (nI k) b) A) (cwV 2 hts gX11_front_X7_setFront rfl rfl rfl (by decide +kernel) ⟨Nat.le_of_ble_eq_true rfl, Nat.le_of_ble_eq_true rfl⟩) (z_pV hI hK hN (z_recv hK hI (zo1 hG) rfl)) rfl rfl hl.1 rfl (lv_room (Nat.le_of_ble_eq_true rfl)) dX11_front_36 ⟨Nat.zero_le _, Nat.zero_le _⟩) hI (fun u H locs hw hI => ?_)
      obtain rfl := hw
      refine lv_iload_n hx hb dX11_front_39 rfl (lv_at hl 0 rfl) ?_
      exact z_iret hx hb hr hlocks hI (Or.inl ⟨⟨nI_pos (by omega), nI_ge hk (by omega)⟩, rfl, if_pos c_21⟩) dX11_front_40
set_option maxHeartbeats 4000000 in
set_option maxRecDepth 100000 in
theorem c_X11_name (l : Launch) {G : zG} (hG : zOK G) (x : zX) (N : Nat) (q y : Int32) (hn : zNow G x N) : zMi l yX11_name wsX11_name { frames := 1, cells := 0, slots := 0, locals := 22 } G [.ref (za G 0), .int q, .int y] x (fun (r : Int32) (u : zX) => (¬ (zin N q ∧ (y = -1 ∨ zin N y)) ∧ x = u ∧ -1 = r) ∨ (zin N q ∧ (y = -1 ∨ zin N y) ∧ q = y ∧ x = u ∧ -2 = r) ∨ (∃ k, k < N ∧ q = nI k ∧ (y = -1 ∨ zin N y) ∧ ¬ q = y ∧ zsI (zsI x 5 k y) 0 9 (nI 0) = u ∧ (if 0 ≤ x.1 5 k then x.1 5 k else (-5)) = r)) := by
  intro A
  refine zBody (cc := cX11_name) (maxL := 4) (ret := (some .int)) (by decide) rfl (Nat.le_of_ble_eq_true rfl) ?_
  intro p e s m below meth c hx hb hml hown hts hr hlocks hK hN hI ls hl
  have hown : s.vm.findClass RX11 = some m.cls := hown
  have hl : lv_has ls 4 [(0, .ref (za G 0)), (1, .int q), (2, .int y)] := hl
  have hin11 : ∀ w ∈ wsX110, w ∈ wsX11_name := (fun _ h => List.mem_cons_of_mem _ (List.mem_append_left _ (List.mem_append_right _ (h))))
  have wF12 := hts (.fieldLink RX11 12 "WhoSitsBy" "now" "LWhoSitsBy$Standing;") (z_mem 1 rfl)
  have wF78 := hts (.fieldLink RX11 78 "WhoSitsBy" "counted" "Z") (z_mem 2 rfl)
  have h8 := hn.1
  refine lv_aload_n hx hb dX11_name_0 rfl (lv_at hl 0 rfl) ?_
  refine z_get (C := RX11) (T := TX11) (N := 14) (ci := 11) (v := .ref (za G 1)) hx hb hts hin11 hown hK hI (zo0 hG) rfl 0 (by decide) wF12 (fun _ h9 => h9) rfl dX11_name_1 ?_
  refine lv_iload_n hx hb dX11_name_4 rfl (lv_at hl 1 rfl) ?_
  refine z_callq (va_runV (As := [.int q]) (rest := []) ⟨hx, hb, hml, hown, hts⟩ ((c_X7_at l hG x N q hn) A) (cwV 1 hts gX11_name_X7_at rfl rfl rfl (by decide +kernel) ⟨Nat.le_of_ble_eq_true rfl, Nat.le_of_ble_eq_true rfl⟩) (z_pV hI hK hN (z_recv hK hI (zo1 hG) rfl)) rfl rfl hl.1 rfl (lv_room (Nat.le_of_ble_eq_true rfl)) dX11_name_5 ⟨Nat.zero_le _, Nat.zero_le _⟩) hI (fun r_5 u H locs hw hI => ?_)
  obtain ⟨rfl, rfl⟩ := hw
  rcases hq_5 : (zat x N q) with _ | o_5
  · skip
    have hno : ¬ zin N q := fun h => by rcases zat_no hn hq_5 with h1 | h1; exact h.1 h1; exact h.2 h1
    refine lv_ifnullN (tgt := 27) hx hb dX11_name_8 (by decide) ?_
    refine lv_iconst (v := (-1)) hx hb dX11_name_27 rfl ?_
    exact z_iret hx hb hr hlocks hI (Or.inl ⟨fun h => hno h.1, rfl, rfl⟩) dX11_name_28
  · skip
    obtain ⟨k, hk, rfl, rfl⟩ := zat_of hn hq_5
    refine lv_ifnull hx hb dX11_name_8 ?_
    refine lv_iload_n hx hb dX11_name_11 rfl (lv_at hl 2 rfl) ?_
    refine lv_iconst (v := (-1)) hx hb dX11_name_12 rfl ?_
    refine lv_icmp_eq (tgt := 29) hx hb dX11_name_13 (by decide) (fun c_13 => ?_) (fun c_13 => ?_)
    · skip
      refine lv_iload_n hx hb dX11_name_29 rfl (lv_at hl 1 rfl) ?_
      refine lv_iload_n hx hb dX11_name_30 rfl (lv_at hl 2 rfl) ?_
      refine lv_icmp_ne (tgt := 37) hx hb dX11_name_31 (by decide) (fun c_31 => ?_) (fun c_31 => ?_)
      · skip
        refine lv_aload_n hx hb dX11_name_37 rfl (lv_at hl 0 rfl) ?_
        refine z_get (C := RX11) (T := TX11) (N := 14) (ci := 11) (v := .ref (za G 1)) hx hb hts hin11 hown hK hI (zo0 hG) rfl 0 (by decide) wF12 (fun _ h9 => h9) rfl dX11_name_38 ?_
        refine lv_iload_n hx hb dX11_name_41 rfl (lv_at hl 1 rfl) ?_
        refine z_calli (va_runV (As := [.int (nI k)]) (rest := []) ⟨hx, hb, hml, hown, hts⟩ ((c_X7_whomNames l hG x N k hn (by omega)) A) (cwV 1 hts gX11_name_X7_whomNames rfl rfl rfl (by decide +kernel) ⟨Nat.le_of_ble_eq_true rfl, Nat.le_of_ble_eq_true rfl⟩) (z_pV hI hK hN (z_recv hK hI (zo1 hG) rfl)) rfl rfl hl.1 rfl (lv_room (Nat.le_of_ble_eq_true rfl)) dX11_name_42 ⟨Nat.zero_le _, Nat.zero_le _⟩) hI (fun r_42 u H locs hw hI => ?_)
        obtain ⟨rfl, rfl⟩ := hw
        refine lv_istore_n (lv' := [(3, .int (x.1 5 k)), (0, .ref (za G 0)), (1, .int (nI k)), (2, .int y)]) hx hb dX11_name_45 rfl hl (by decide) rfl (fun ls hl => ?_)
        refine lv_aload_n hx hb dX11_name_46 rfl (lv_at hl 1 rfl) ?_
        refine z_get (C := RX11) (T := TX11) (N := 14) (ci := 11) (v := .ref (za G 1)) hx hb hts hin11 hown hK hI (zo0 hG) rfl 0 (by decide) wF12 (fun _ h9 => h9) rfl dX11_name_47 ?_
        refine lv_iload_n hx hb dX11_name_50 rfl (lv_at hl 2 rfl) ?_
        refine lv_iload_n hx hb dX11_name_51 rfl (lv_at hl 3 rfl) ?_
        refine z_callv (va_runV (As := [.int (nI k), .int y]) (rest := []) ⟨hx, hb, hml, hown, hts⟩ ((c_X7_setSlip l hG x k y (by omega)) A) (cwV 2 hts gX11_name_X7_setSlip rfl rfl rfl (by decide +kernel) ⟨Nat.le_of_ble_eq_true rfl, Nat.le_of_ble_eq_true rfl⟩) (z_pV hI hK hN (z_recv hK hI (zo1 hG) rfl)) rfl rfl hl.1 rfl (lv_room (Nat.le_of_ble_eq_true rfl)) dX11_name_52 ⟨Nat.zero_le _, Nat.zero_le _⟩) hI (fun u H locs hw hI => ?_)
        obtain rfl := hw
        refine lv_aload_n hx hb dX11_name_55 rfl (lv_at hl 1 rfl) ?_
        refine lv_iconst (v := (nI 0)) hx hb dX11_name_56 rfl ?_
        refine z_putI (C := RX11) (T := TX11) (N := 14) (ci := 11) (ty := .boolean) hx hb hts hin11 tyX11 tyX11_ok nmX11 hown hK hI (zo0 hG) rfl 9 (by decide) wF78 (fun _ h9 => h9) rfl (fun _ _ => rfl) (by decide +kernel) rfl rfl (fun _ _ => Nat.le_of_ble_eq_true rfl) dX11_name_57 (fun H locs hI => ?_)
        refine lv_iload_n hx hb dX11_name_60 rfl (lv_at hl 0 rfl) ?_
        refine z_calli (va_runS (As := [.int (x.1 5 k)]) (rest := []) ⟨hx, hb, hml, hown, hts⟩ ((c_X11_orNobody l hG (zsI (zsI x 5 k y) 0 9 (nI 0)) (x.1 5 k)) A) (va_cwS 1 hts gX11_name_X11_orNobody rfl rfl rfl (by decide +kernel) ⟨Nat.le_of_ble_eq_true rfl, Nat.le_of_ble_eq_true rfl⟩) (z_pS hI hK hN) rfl rfl hl.1 rfl (lv_room (Nat.le_of_ble_eq_true rfl)) dX11_name_61 ⟨Nat.zero_le _, Nat.zero_le _⟩) hI (fun r_61 u H locs hw hI => ?_)
        obtain ⟨rfl, rfl⟩ := hw
        exact z_iret hx hb hr hlocks hI (Or.inr (Or.inr ⟨k, hk, rfl, Or.inl c_13, c_31, rfl, rfl⟩)) dX11_name_64
      · skip
        refine lv_bipush (v := (-2)) hx hb dX11_name_34 rfl ?_
        exact z_iret hx hb hr hlocks hI (Or.inr (Or.inl ⟨⟨nI_pos (by omega), nI_ge hk (by omega)⟩, Or.inl c_13, c_31, rfl, rfl⟩)) dX11_name_36
    · skip
      refine lv_aload_n hx hb dX11_name_16 rfl (lv_at hl 0 rfl) ?_
      refine z_get (C := RX11) (T := TX11) (N := 14) (ci := 11) (v := .ref (za G 1)) hx hb hts hin11 hown hK hI (zo0 hG) rfl 0 (by decide) wF12 (fun _ h9 => h9) rfl dX11_name_17 ?_
      refine lv_iload_n hx hb dX11_name_20 rfl (lv_at hl 2 rfl) ?_
      refine z_callq (va_runV (As := [.int y]) (rest := []) ⟨hx, hb, hml, hown, hts⟩ ((c_X7_at l hG x N y hn) A) (cwV 1 hts gX11_name_X7_at rfl rfl rfl (by decide +kernel) ⟨Nat.le_of_ble_eq_true rfl, Nat.le_of_ble_eq_true rfl⟩) (z_pV hI hK hN (z_recv hK hI (zo1 hG) rfl)) rfl rfl hl.1 rfl (lv_room (Nat.le_of_ble_eq_true rfl)) dX11_name_21 ⟨Nat.zero_le _, Nat.zero_le _⟩) hI (fun r_21 u H locs hw hI => ?_)
      obtain ⟨rfl, rfl⟩ := hw
      rcases hq_21 : (zat x N y) with _ | o_21
      · skip
        have hno2 : ¬ zin N y := fun h => by rcases zat_no hn hq_21 with h1 | h1; exact h.1 h1; exact h.2 h1
        refine lv_ifnonnullN hx hb dX11_name_24 ?_
        refine lv_iconst (v := (-1)) hx hb dX11_name_27 rfl ?_
        exact z_iret hx hb hr hlocks hI (Or.inl ⟨fun h => h.2.elim c_13 hno2, rfl, rfl⟩) dX11_name_28
      · skip
        have hy2 : zin N y := by obtain ⟨k2, hk2, h2, -⟩ := zat_of hn hq_21; rw [h2]; exact ⟨nI_pos (by omega), nI_ge hk2 (by omega)⟩
        refine lv_ifnonnull (tgt := 29) hx hb dX11_name_24 (by decide) ?_
        refine lv_iload_n hx hb dX11_name_29 rfl (lv_at hl 1 rfl) ?_
        refine lv_iload_n hx hb dX11_name_30 rfl (lv_at hl 2 rfl) ?_
        refine lv_icmp_ne (tgt := 37) hx hb dX11_name_31 (by decide) (fun c_31 => ?_) (fun c_31 => ?_)
        · skip
          refine lv_aload_n hx hb dX11_name_37 rfl (lv_at hl 0 rfl) ?_
          refine z_get (C := RX11) (T := TX11) (N := 14) (ci := 11) (v := .ref (za G 1)) hx hb hts hin11 hown hK hI (zo0 hG) rfl 0 (by decide) wF12 (fun _ h9 => h9) rfl dX11_name_38 ?_
          refine lv_iload_n hx hb dX11_name_41 rfl (lv_at hl 1 rfl) ?_
          refine z_calli (va_runV (As := [.int (nI k)]) (rest := []) ⟨hx, hb, hml, hown, hts⟩ ((c_X7_whomNames l hG x N k hn (by omega)) A) (cwV 1 hts gX11_name_X7_whomNames rfl rfl rfl (by decide +kernel) ⟨Nat.le_of_ble_eq_true rfl, Nat.le_of_ble_eq_true rfl⟩) (z_pV hI hK hN (z_recv hK hI (zo1 hG) rfl)) rfl rfl hl.1 rfl (lv_room (Nat.le_of_ble_eq_true rfl)) dX11_name_42 ⟨Nat.zero_le _, Nat.zero_le _⟩) hI (fun r_42 u H locs hw hI => ?_)
          obtain ⟨rfl, rfl⟩ := hw
          refine lv_istore_n (lv' := [(3, .int (x.1 5 k)), (0, .ref (za G 0)), (1, .int (nI k)), (2, .int y)]) hx hb dX11_name_45 rfl hl (by decide) rfl (fun ls hl => ?_)
          refine lv_aload_n hx hb dX11_name_46 rfl (lv_at hl 1 rfl) ?_
          refine z_get (C := RX11) (T := TX11) (N := 14) (ci := 11) (v := .ref (za G 1)) hx hb hts hin11 hown hK hI (zo0 hG) rfl 0 (by decide) wF12 (fun _ h9 => h9) rfl dX11_name_47 ?_
          refine lv_iload_n hx hb dX11_name_50 rfl (lv_at hl 2 rfl) ?_
          refine lv_iload_n hx hb dX11_name_51 rfl (lv_at hl 3 rfl) ?_
          refine z_callv (va_runV (As := [.int (nI k), .int y]) (rest := []) ⟨hx, hb, hml, hown, hts⟩ ((c_X7_setSlip l hG x k y (by omega)) A) (cwV 2 hts gX11_name_X7_setSlip rfl rfl rfl (by decide +kernel) ⟨Nat.le_of_ble_eq_true rfl, Nat.le_of_ble_eq_true rfl⟩) (z_pV hI hK hN (z_recv hK hI (zo1 hG) rfl)) rfl rfl hl.1 rfl (lv_room (Nat.le_of_ble_eq_true rfl)) dX11_name_52 ⟨Nat.zero_le _, Nat.zero_le _⟩) hI (fun u H locs hw hI => ?_)
          obtain rfl := hw
          refine lv_aload_n hx hb dX11_name_55 rfl (lv_at hl 1 rfl) ?_
          refine lv_iconst (v := (nI 0)) hx hb dX11_name_56 rfl ?_
          refine z_putI (C := RX11) (T := TX11) (N := 14) (ci := 11) (ty := .boolean) hx hb hts hin11 tyX11 tyX11_ok nmX11 hown hK hI (zo0 hG) rfl 9 (by decide) wF78 (fun _ h9 => h9) rfl (fun _ _ => rfl) (by decide +kernel) rfl rfl (fun _ _ => Nat.le_of_ble_eq_true rfl) dX11_name_57 (fun H locs hI => ?_)
          refine lv_iload_n hx hb dX11_name_60 rfl (lv_at hl 0 rfl) ?_
          refine z_calli (va_runS (As := [.int (x.1 5 k)]) (rest := []) ⟨hx, hb, hml, hown, hts⟩ ((c_X11_orNobody l hG (zsI (zsI x 5 k y) 0 9 (nI 0)) (x.1 5 k)) A) (va_cwS 1 hts gX11_name_X11_orNobody rfl rfl rfl (by decide +kernel) ⟨Nat.le_of_ble_eq_true rfl, Nat.le_of_ble_eq_true rfl⟩) (z_pS hI hK hN) rfl rfl hl.1 rfl (lv_room (Nat.le_of_ble_eq_true rfl)) dX11_name_61 ⟨Nat.zero_le _, Nat.zero_le _⟩) hI (fun r_61 u H locs hw hI => ?_)
          obtain ⟨rfl, rfl⟩ := hw
          exact z_iret hx hb hr hlocks hI (Or.inr (Or.inr ⟨k, hk, rfl, Or.inr hy2, c_31, rfl, rfl⟩)) dX11_name_64
        · skip
          refine lv_bipush (v := (-2)) hx hb dX11_name_34 rfl ?_
          exact z_iret hx hb hr hlocks hI (Or.inr (Or.inl ⟨⟨nI_pos (by omega), nI_ge hk (by omega)⟩, Or.inr hy2, c_31, rfl, rfl⟩)) dX11_name_36
set_option maxHeartbeats 4000000 in
set_option maxRecDepth 100000 in
theorem c_X11_sit (l : Launch) {G : zG} (hG : zOK G) (x : zX) (N : Nat) (q s0 : Int32) (hn : zNow G x N) (hsit : zSit x N) : zMi l yX11_sit wsX11_sit { frames := 1, cells := 0, slots := 0, locals := 23 } G [.ref (za G 0), .int q, .int s0] x (fun (r : Int32) (u : zX) => (¬ (zin N q ∧ zin 8 s0) ∧ x = u ∧ -1 = r) ∨ (∃ k t, k < N ∧ q = nI k ∧ t < 8 ∧ s0 = nI t ∧ zsI (zsI x 4 (zst x k) (x.1 4 t)) 4 t (x.1 4 (zst x k)) = u ∧ nI (zst x k) = r)) := by
  intro A
  refine zBody (cc := cX11_sit) (maxL := 4) (ret := (some .int)) (by decide) rfl (Nat.le_of_ble_eq_true rfl) ?_
  intro p e s m below meth c hx hb hml hown hts hr hlocks hK hN hI ls hl
  have hown : s.vm.findClass RX11 = some m.cls := hown
  have hl : lv_has ls 4 [(0, .ref (za G 0)), (1, .int q), (2, .int s0)] := hl
  have hin7 : ∀ w ∈ wsX70, w ∈ wsX11_sit := (fun _ h => List.mem_cons_of_mem _ (List.mem_append_right _ (h)))
  have hin11 : ∀ w ∈ wsX110, w ∈ wsX11_sit := (fun _ h => List.mem_cons_of_mem _ (List.mem_append_left _ (List.mem_append_right _ (h))))
  have wF12 := hts (.fieldLink RX11 12 "WhoSitsBy" "now" "LWhoSitsBy$Standing;") (z_mem 1 rfl)
  have wF114 := hts (.fieldLink RX11 114 "WhoSitsBy$Standing" "sitters" "[I") (z_mem 2 rfl)
  have h8 := hn.1
  refine lv_aload_n hx hb dX11_sit_0 rfl (lv_at hl 0 rfl) ?_
  refine z_get (C := RX11) (T := TX11) (N := 14) (ci := 11) (v := .ref (za G 1)) hx hb hts hin11 hown hK hI (zo0 hG) rfl 0 (by decide) wF12 (fun _ h9 => h9) rfl dX11_sit_1 ?_
  refine lv_iload_n hx hb dX11_sit_4 rfl (lv_at hl 1 rfl) ?_
  refine z_callq (va_runV (As := [.int q]) (rest := []) ⟨hx, hb, hml, hown, hts⟩ ((c_X7_at l hG x N q hn) A) (cwV 1 hts gX11_sit_X7_at rfl rfl rfl (by decide +kernel) ⟨Nat.le_of_ble_eq_true rfl, Nat.le_of_ble_eq_true rfl⟩) (z_pV hI hK hN (z_recv hK hI (zo1 hG) rfl)) rfl rfl hl.1 rfl (lv_room (Nat.le_of_ble_eq_true rfl)) dX11_sit_5 ⟨Nat.zero_le _, Nat.zero_le _⟩) hI (fun r_5 u H locs hw hI => ?_)
  obtain ⟨rfl, rfl⟩ := hw
  rcases hq_5 : (zat x N q) with _ | o_5
  · skip
    have hno : ¬ zin N q := fun h => by rcases zat_no hn hq_5 with h1 | h1; exact h.1 h1; exact h.2 h1
    refine lv_ifnullN (tgt := 21) hx hb dX11_sit_8 (by decide) ?_
    refine lv_iconst (v := (-1)) hx hb dX11_sit_21 rfl ?_
    exact z_iret hx hb hr hlocks hI (Or.inl ⟨fun h => hno h.1, rfl, rfl⟩) dX11_sit_22
  · skip
    obtain ⟨k, hk, rfl, rfl⟩ := zat_of hn hq_5
    refine lv_ifnull hx hb dX11_sit_8 ?_
    refine lv_iload_n hx hb dX11_sit_11 rfl (lv_at hl 2 rfl) ?_
    refine lv_if_lt (tgt := 21) hx hb dX11_sit_12 (by decide) (fun c_12 => ?_) (fun c_12 => ?_)
    · skip
      refine lv_iconst (v := (-1)) hx hb dX11_sit_21 rfl ?_
      exact z_iret hx hb hr hlocks hI (Or.inl ⟨fun h => h.2.1 c_12, rfl, rfl⟩) dX11_sit_22
    · skip
      refine lv_iload_n hx hb dX11_sit_15 rfl (lv_at hl 2 rfl) ?_
      refine lv_bipush (v := (nI 8)) hx hb dX11_sit_16 rfl ?_
      refine lv_icmp_lt (tgt := 23) hx hb dX11_sit_18 (by decide) (fun c_18 => ?_) (fun c_18 => ?_)
      · skip
        obtain ⟨t, ht, rfl⟩ := z_ix c_12 (z_nle2 c_18) (by decide)
        refine lv_aload_n hx hb dX11_sit_23 rfl (lv_at hl 0 rfl) ?_
        refine z_get (C := RX11) (T := TX11) (N := 14) (ci := 11) (v := .ref (za G 1)) hx hb hts hin11 hown hK hI (zo0 hG) rfl 0 (by decide) wF12 (fun _ h9 => h9) rfl dX11_sit_24 ?_
        refine z_get (C := RX7) (T := TX7) (N := 7) (ci := 7) (v := .ref (za G 4)) hx hb hts hin7 hown hK hI (zo1 hG) rfl 1 (by decide) wF114 (fun _ h9 => h9) rfl dX11_sit_27 ?_
        refine lv_iload_n hx hb dX11_sit_30 rfl (lv_at hl 1 rfl) ?_
        refine z_calli (va_runS (As := [.ref (za G 4), .int (nI k)]) (rest := []) ⟨hx, hb, hml, hown, hts⟩ ((c_X11_seatIn l hG x 4 (nI k) (zo4 hG)) A) (va_cwS 2 hts gX11_sit_X11_seatIn rfl rfl rfl (by decide +kernel) ⟨Nat.le_of_ble_eq_true rfl, Nat.le_of_ble_eq_true rfl⟩) (z_pS hI hK hN) rfl rfl hl.1 rfl (lv_room (Nat.le_of_ble_eq_true rfl)) dX11_sit_31 ⟨Nat.zero_le _, Nat.zero_le _⟩) hI (fun r_31 u H locs hw hI => ?_)
        obtain ⟨rfl, rfl⟩ := hw
        rw [(hsit k hk).2]
        refine lv_istore_n (lv' := [(3, .int (nI (zst x k))), (0, .ref (za G 0)), (1, .int (nI k)), (2, .int (nI t))]) hx hb dX11_sit_34 rfl hl (by decide) rfl (fun ls hl => ?_)
        refine lv_aload_n hx hb dX11_sit_35 rfl (lv_at hl 1 rfl) ?_
        refine z_get (C := RX11) (T := TX11) (N := 14) (ci := 11) (v := .ref (za G 1)) hx hb hts hin11 hown hK hI (zo0 hG) rfl 0 (by decide) wF12 (fun _ h9 => h9) rfl dX11_sit_36 ?_
        refine z_get (C := RX7) (T := TX7) (N := 7) (ci := 7) (v := .ref (za G 4)) hx hb hts hin7 hown hK hI (zo1 hG) rfl 1 (by decide) wF114 (fun _ h9 => h9) rfl dX11_sit_39 ?_
        refine lv_iload_n hx hb dX11_sit_42 rfl (lv_at hl 0 rfl) ?_
        refine lv_iload_n hx hb dX11_sit_43 rfl (lv_at hl 3 rfl) ?_
        refine z_callv (va_runS (As := [.ref (za G 4), .int (nI (zst x k)), .int (nI t)]) (rest := []) ⟨hx, hb, hml, hown, hts⟩ ((c_X11_exchange l hG x 4 (zst x k) t (zo4 hG) (hsit k hk).1 ht) A) (va_cwS 3 hts gX11_sit_X11_exchange rfl rfl rfl (by decide +kernel) ⟨Nat.le_of_ble_eq_true rfl, Nat.le_of_ble_eq_true rfl⟩) (z_pS hI hK hN) rfl rfl hl.1 rfl (lv_room (Nat.le_of_ble_eq_true rfl)) dX11_sit_44 ⟨Nat.zero_le _, Nat.zero_le _⟩) hI (fun u H locs hw hI => ?_)
        obtain rfl := hw
        refine lv_iload_n hx hb dX11_sit_47 rfl (lv_at hl 0 rfl) ?_
        exact z_iret hx hb hr hlocks hI (Or.inr ⟨k, t, hk, rfl, ht, rfl, rfl, rfl⟩) dX11_sit_48
      · skip
        refine lv_iconst (v := (-1)) hx hb dX11_sit_21 rfl ?_
        exact z_iret hx hb hr hlocks hI (Or.inl ⟨fun h => c_18 (z_le h.2.2), rfl, rfl⟩) dX11_sit_22
set_option maxHeartbeats 4000000 in
set_option maxRecDepth 100000 in
theorem c_X11_named (l : Launch) {G : zG} (hG : zOK G) (x : zX) (N : Nat) (q : Int32) (hn : zNow G x N) : zMi l yX11_named wsX11_named { frames := 2, cells := 0, slots := 0, locals := 45 } G [.ref (za G 0), .int q] x (fun (r : Int32) (u : zX) => x = u ∧ (if zin N q then zsum (fun k => if ¬ q < 0 ∧ x.1 5 k = q then 1 else 0) N else -1) = r) := by
  intro A
  refine zBody (cc := cX11_named) (maxL := 2) (ret := (some .int)) (by decide) rfl (Nat.le_of_ble_eq_true rfl) ?_
  intro p e s m below meth c hx hb hml hown hts hr hlocks hK hN hI ls hl
  have hown : s.vm.findClass RX11 = some m.cls := hown
  have hl : lv_has ls 2 [(0, .ref (za G 0)), (1, .int q)] := hl
  have hin11 : ∀ w ∈ wsX110, w ∈ wsX11_named := (fun _ h => List.mem_cons_of_mem _ (List.mem_append_left _ (List.mem_append_right _ (h))))
  have wF12 := hts (.fieldLink RX11 12 "WhoSitsBy" "now" "LWhoSitsBy$Standing;") (z_mem 1 rfl)
  have h8 := hn.1
  refine lv_aload_n hx hb dX11_named_0 rfl (lv_at hl 0 rfl) ?_
  refine z_get (C := RX11) (T := TX11) (N := 14) (ci := 11) (v := .ref (za G 1)) hx hb hts hin11 hown hK hI (zo0 hG) rfl 0 (by decide) wF12 (fun _ h9 => h9) rfl dX11_named_1 ?_
  refine lv_iload_n hx hb dX11_named_4 rfl (lv_at hl 1 rfl) ?_
  refine z_callq (va_runV (As := [.int q]) (rest := []) ⟨hx, hb, hml, hown, hts⟩ ((c_X7_at l hG x N q hn) A) (cwV 1 hts gX11_named_X7_at rfl rfl rfl (by decide +kernel) ⟨Nat.le_of_ble_eq_true rfl, Nat.le_of_ble_eq_true rfl⟩) (z_pV hI hK hN (z_recv hK hI (zo1 hG) rfl)) rfl rfl hl.1 rfl (lv_room (Nat.le_of_ble_eq_true rfl)) dX11_named_5 ⟨Nat.zero_le _, Nat.zero_le _⟩) hI (fun r_5 u H locs hw hI => ?_)
  obtain ⟨rfl, rfl⟩ := hw
  rcases hq_5 : (zat x N q) with _ | o_5
  · skip
    have hno : ¬ zin N q := fun h => by rcases zat_no hn hq_5 with h1 | h1; exact h.1 h1; exact h.2 h1
    refine lv_ifnonnullN hx hb dX11_named_8 ?_
    refine lv_iconst (v := (-1)) hx hb dX11_named_11 rfl ?_
    refine lv_goto (tgt := 23) hx hb dX11_named_12 (by decide) ?_
    exact z_iret hx hb hr hlocks hI (⟨rfl, if_neg hno⟩) dX11_named_23
  · skip
    obtain ⟨k, hk, rfl, rfl⟩ := zat_of hn hq_5
    refine lv_ifnonnull (tgt := 15) hx hb dX11_named_8 (by decide) ?_
    refine lv_aload_n hx hb dX11_named_15 rfl (lv_at hl 0 rfl) ?_
    refine z_get (C := RX11) (T := TX11) (N := 14) (ci := 11) (v := .ref (za G 1)) hx hb hts hin11 hown hK hI (zo0 hG) rfl 0 (by decide) wF12 (fun _ h9 => h9) rfl dX11_named_16 ?_
    refine lv_iload_n hx hb dX11_named_19 rfl (lv_at hl 1 rfl) ?_
    refine z_calli (va_runV (As := [.int (nI k)]) (rest := []) ⟨hx, hb, hml, hown, hts⟩ ((c_X7_namersOf l hG x N (nI k) hn) A) (cwV 1 hts gX11_named_X7_namersOf rfl rfl rfl (by decide +kernel) ⟨Nat.le_of_ble_eq_true rfl, Nat.le_of_ble_eq_true rfl⟩) (z_pV hI hK hN (z_recv hK hI (zo1 hG) rfl)) rfl rfl hl.1 rfl (lv_room (Nat.le_of_ble_eq_true rfl)) dX11_named_20 ⟨Nat.zero_le _, Nat.zero_le _⟩) hI (fun r_20 u H locs hw hI => ?_)
    obtain ⟨rfl, rfl⟩ := hw
    exact z_iret hx hb hr hlocks hI (⟨rfl, if_pos ⟨nI_pos (by omega), nI_ge hk (by omega)⟩⟩) dX11_named_23
set_option maxHeartbeats 4000000 in
set_option maxRecDepth 100000 in
theorem c_X11_feed (l : Launch) {G : zG} (hG : zOK G) (x : zX) (f : Nat) (q : Int32) (hf : f ≤ 100) (hft : x.1 0 4 = nI f) : zMi l yX11_feed wsX11_feed { frames := 0, cells := 0, slots := 0, locals := 0 } G [.ref (za G 0), .int q] x (fun (r : Int32) (u : zX) => (¬ (¬ q < 0 ∧ ¬ nI 127 < q) ∧ x = u ∧ -2 = r) ∨ ((¬ q < 0 ∧ ¬ nI 127 < q) ∧ f = 100 ∧ x = u ∧ -4 = r) ∨ ((¬ q < 0 ∧ ¬ nI 127 < q) ∧ f < 100 ∧ zsI (zsI x 9 f q) 0 4 (nI (f + 1)) = u ∧ nI (f + 1) = r)) := by
  intro A
  refine zBody (cc := cX11_feed) (maxL := 2) (ret := (some .int)) (by decide) rfl (Nat.le_of_ble_eq_true rfl) ?_
  intro p e s m below meth c hx hb hml hown hts hr hlocks hK hN hI ls hl
  have hown : s.vm.findClass RX11 = some m.cls := hown
  have hl : lv_has ls 2 [(0, .ref (za G 0)), (1, .int q)] := hl
  have hin11 : ∀ w ∈ wsX110, w ∈ wsX11_feed := (fun _ h => List.mem_cons_of_mem _ (List.mem_append_right _ (h)))
  have wF136 := hts (.fieldLink RX11 136 "WhoSitsBy" "textLength" "I") (z_mem 1 rfl)
  have wF21 := hts (.fieldLink RX11 21 "WhoSitsBy" "text" "[B") (z_mem 2 rfl)
  refine lv_iload_n hx hb dX11_feed_0 rfl (lv_at hl 1 rfl) ?_
  refine lv_if_lt (tgt := 10) hx hb dX11_feed_1 (by decide) (fun c_1 => ?_) (fun c_1 => ?_)
  · skip
    refine lv_bipush (v := (-2)) hx hb dX11_feed_10 rfl ?_
    exact z_iret hx hb hr hlocks hI (Or.inl ⟨fun h => h.1 c_1, rfl, rfl⟩) dX11_feed_12
  · skip
    refine lv_iload_n hx hb dX11_feed_4 rfl (lv_at hl 1 rfl) ?_
    refine lv_bipush (v := (nI 127)) hx hb dX11_feed_5 rfl ?_
    refine lv_icmp_le (tgt := 13) hx hb dX11_feed_7 (by decide) (fun c_7 => ?_) (fun c_7 => ?_)
    · skip
      refine lv_aload_n hx hb dX11_feed_13 rfl (lv_at hl 0 rfl) ?_
      refine z_get (C := RX11) (T := TX11) (N := 14) (ci := 11) (v := .int (nI f)) hx hb hts hin11 hown hK hI (zo0 hG) rfl 4 (by decide) wF136 (fun _ h9 => h9) (congrArg (fun q => some (Value.int q)) hft) dX11_feed_14 ?_
      refine lv_if_lt (tgt := 32) hx hb dX11_feed_17 (by decide) (fun c_17 => ?_) (fun c_17 => ?_)
      · skip
        rw [show (0 : Int32) = nI 0 from rfl] at c_17; rw [zqL (by omega) (by omega)] at c_17
        exact absurd c_17 (by omega)
      · skip
        rw [show (0 : Int32) = nI 0 from rfl] at c_17; rw [zqL (by omega) (by omega)] at c_17
        refine lv_aload_n hx hb dX11_feed_20 rfl (lv_at hl 0 rfl) ?_
        refine z_get (C := RX11) (T := TX11) (N := 14) (ci := 11) (v := .int (nI f)) hx hb hts hin11 hown hK hI (zo0 hG) rfl 4 (by decide) wF136 (fun _ h9 => h9) (congrArg (fun q => some (Value.int q)) hft) dX11_feed_21 ?_
        refine lv_aload_n hx hb dX11_feed_24 rfl (lv_at hl 0 rfl) ?_
        refine z_get (C := RX11) (T := TX11) (N := 14) (ci := 11) (v := .ref (za G 9)) hx hb hts hin11 hown hK hI (zo0 hG) rfl 3 (by decide) wF21 (fun _ h9 => h9) rfl dX11_feed_25 ?_
        refine z_alen (v := nI 100) hx hb hK hI 2 (zo9 hG).1 ((zo9 hG).2 _) rfl rfl dX11_feed_28 ?_
        refine lv_icmp_lt (tgt := 35) hx hb dX11_feed_29 (by decide) (fun c_29 => ?_) (fun c_29 => ?_)
        · skip
          rw [zqL (by omega) (by omega)] at c_29
          refine lv_aload_n hx hb dX11_feed_35 rfl (lv_at hl 0 rfl) ?_
          refine z_get (C := RX11) (T := TX11) (N := 14) (ci := 11) (v := .ref (za G 9)) hx hb hts hin11 hown hK hI (zo0 hG) rfl 3 (by decide) wF21 (fun _ h9 => h9) rfl dX11_feed_36 ?_
          refine lv_aload_n hx hb dX11_feed_39 rfl (lv_at hl 0 rfl) ?_
          refine z_get (C := RX11) (T := TX11) (N := 14) (ci := 11) (v := .int (nI f)) hx hb hts hin11 hown hK hI (zo0 hG) rfl 4 (by decide) wF136 (fun _ h9 => h9) (congrArg (fun q => some (Value.int q)) hft) dX11_feed_40 ?_
          refine lv_iload_n hx hb dX11_feed_43 rfl (lv_at hl 1 rfl) ?_
          refine lv_i2b hx hb dX11_feed_44 rfl ?_
          refine z_bast (y := (q.toInt8.toInt32)) hx hb hK hI (zo9 hG) f rfl (by omega) (by decide) (pk_vb q) dX11_feed_45 (fun H locs hI => ?_)
          refine lv_aload_n hx hb dX11_feed_46 rfl (lv_at hl 0 rfl) ?_
          refine lv_dup hx hb dX11_feed_47 rfl ?_
          refine z_get (C := RX11) (T := TX11) (N := 14) (ci := 11) (v := .int (nI f)) hx hb hts hin11 hown hK hI (zo0 hG) rfl 4 (by decide) wF136 (fun _ h9 => h9) (congrArg (fun q => some (Value.int q)) hft) dX11_feed_48 ?_
          refine lv_iconst (v := (nI 1)) hx hb dX11_feed_51 rfl ?_
          refine z_iadd (v := (nI (f + 1))) hx hb (nI_add _ _) dX11_feed_52 ?_
          refine z_putI (C := RX11) (T := TX11) (N := 14) (ci := 11) (ty := .int) hx hb hts hin11 tyX11 tyX11_ok nmX11 hown hK hI (zo0 hG) rfl 4 (by decide) wF136 (fun _ h9 => h9) rfl (fun _ _ => rfl) (by decide +kernel) rfl rfl (fun _ _ => Nat.le_of_ble_eq_true rfl) dX11_feed_53 (fun H locs hI => ?_)
          refine lv_aload_n hx hb dX11_feed_56 rfl (lv_at hl 0 rfl) ?_
          refine z_get (C := RX11) (T := TX11) (N := 14) (ci := 11) (v := .int (nI (f + 1))) hx hb hts hin11 hown hK hI (zo0 hG) rfl 4 (by decide) wF136 (fun _ h9 => h9) rfl dX11_feed_57 ?_
          exact z_iret hx hb hr hlocks hI (Or.inr (Or.inr ⟨⟨c_1, z_nle c_7⟩, c_29, by rw [zbyte c_1 (z_nle c_7)], rfl⟩)) dX11_feed_60
        · skip
          rw [zqL (by omega) (by omega)] at c_29
          refine lv_bipush (v := (-4)) hx hb dX11_feed_32 rfl ?_
          exact z_iret hx hb hr hlocks hI (Or.inr (Or.inl ⟨⟨c_1, z_nle c_7⟩, by omega, rfl, rfl⟩)) dX11_feed_34
    · skip
      refine lv_bipush (v := (-2)) hx hb dX11_feed_10 rfl ?_
      exact z_iret hx hb hr hlocks hI (Or.inl ⟨fun h => h.2 (z_le c_7), rfl, rfl⟩) dX11_feed_12
set_option maxHeartbeats 4000000 in
set_option maxRecDepth 100000 in
theorem c_X11_talkersIn (l : Launch) {G : zG} (hG : zOK G) (x : zX) (N n : Nat) (b : Int32) (hn : zNow G x N) (hn60 : n ≤ 60) : zMi l yX11_talkersIn wsX11_talkersIn { frames := 4, cells := 0, slots := 0, locals := 97 } G [.ref (za G 0), .int b, .int (nI n)] x (fun (r : Int32) (u : zX) => x = u ∧ ziter (fun y => zlater G x y (x.1 (zrix (x.1 1 6)) 6) (-1)) n b = r) := by
  intro A
  refine zBody (cc := cX11_talkersIn) (maxL := 6) (ret := (some .int)) (by decide) rfl (Nat.le_of_ble_eq_true rfl) ?_
  intro p e s m below meth c hx hb hml hown hts hr hlocks hK hN hI ls hl
  have hown : s.vm.findClass RX11 = some m.cls := hown
  have hl : lv_has ls 6 [(0, .ref (za G 0)), (1, .int b), (2, .int (nI n))] := hl
  have hin7 : ∀ w ∈ wsX70, w ∈ wsX11_talkersIn := (fun _ h => List.mem_cons_of_mem _ (List.mem_append_left _ (List.mem_append_left _ (List.mem_append_left _ (List.mem_append_left _ (List.mem_append_left _ (List.mem_append_left _ (List.mem_append_left _ (List.mem_append_left _ (List.mem_append_right _ (h)))))))))))
  have hin11 : ∀ w ∈ wsX110, w ∈ wsX11_talkersIn := (fun _ h => List.mem_cons_of_mem _ (List.mem_append_left _ (List.mem_append_left _ (List.mem_append_left _ (List.mem_append_left _ (List.mem_append_left _ (List.mem_append_left _ (List.mem_append_left _ (List.mem_append_left _ (List.mem_append_left _ (List.mem_append_right _ (h))))))))))))
  have wF12 := hts (.fieldLink RX11 12 "WhoSitsBy" "now" "LWhoSitsBy$Standing;") (z_mem 1 rfl)
  have wF150 := hts (.fieldLink RX11 150 "WhoSitsBy$Standing" "held" "I") (z_mem 2 rfl)
  refine lv_aload_n hx hb dX11_talkersIn_0 rfl (lv_at hl 0 rfl) ?_
  refine lv_aload_n hx hb dX11_talkersIn_1 rfl (lv_at hl 0 rfl) ?_
  refine z_get (C := RX11) (T := TX11) (N := 14) (ci := 11) (v := .ref (za G 1)) hx hb hts hin11 hown hK hI (zo0 hG) rfl 0 (by decide) wF12 (fun _ h9 => h9) rfl dX11_talkersIn_2 ?_
  refine z_get (C := RX7) (T := TX7) (N := 7) (ci := 7) (v := .int (x.1 1 6)) hx hb hts hin7 hown hK hI (zo1 hG) rfl 6 (by decide) wF150 (fun _ h9 => h9) rfl dX11_talkersIn_5 ?_
  refine z_callq (va_runV (As := [.int (x.1 1 6)]) (rest := []) ⟨hx, hb, hml, hown, hts⟩ ((c_X11_roomAt l hG x (x.1 1 6)) A) (cwV 1 hts gX11_talkersIn_X11_roomAt rfl rfl rfl (by decide +kernel) ⟨Nat.le_of_ble_eq_true rfl, Nat.le_of_ble_eq_true rfl⟩) (z_pV hI hK hN (z_recv hK hI (zo0 hG) rfl)) rfl rfl hl.1 rfl (lv_room (Nat.le_of_ble_eq_true rfl)) dX11_talkersIn_8 ⟨Nat.zero_le _, Nat.zero_le _⟩) hI (fun r_8 u H locs hw hI => ?_)
  obtain ⟨rfl, rfl⟩ := hw
  refine z_calli (va_runV (As := []) (rest := []) ⟨hx, hb, hml, hown, hts⟩ ((c_X5_hush l hG x (zrix (x.1 1 6)) (zrix_ok (x.1 1 6))) A) (cwV 0 hts gX11_talkersIn_X5_hush rfl rfl rfl (by decide +kernel) ⟨Nat.le_of_ble_eq_true rfl, Nat.le_of_ble_eq_true rfl⟩) (z_pV hI hK hN (z_recv hK hI (zor hG (zrix_ok (x.1 1 6))) rfl)) rfl rfl hl.1 rfl (lv_room (Nat.le_of_ble_eq_true rfl)) dX11_talkersIn_11 ⟨Nat.zero_le _, Nat.zero_le _⟩) hI (fun r_11 u H locs hw hI => ?_)
  obtain ⟨rfl, rfl⟩ := hw
  refine lv_istore_n (lv' := [(3, .int (x.1 (zrix (x.1 1 6)) 6)), (0, .ref (za G 0)), (1, .int b), (2, .int (nI n))]) hx hb dX11_talkersIn_14 rfl hl (by decide) rfl (fun ls hl => ?_)
  refine lv_iload_n hx hb dX11_talkersIn_15 rfl (lv_at hl 2 rfl) ?_
  refine lv_istore (lv' := [(4, .int b), (3, .int (x.1 (zrix (x.1 1 6)) 6)), (0, .ref (za G 0)), (1, .int b), (2, .int (nI n))]) hx hb dX11_talkersIn_16 hl (by decide) rfl (fun ls hl => ?_)
  refine lv_iconst (v := (nI 0)) hx hb dX11_talkersIn_18 rfl ?_
  refine lv_istore (lv' := [(5, .int (nI 0)), (4, .int b), (3, .int (x.1 (zrix (x.1 1 6)) 6)), (0, .ref (za G 0)), (1, .int b), (2, .int (nI n))]) hx hb dX11_talkersIn_19 hl (by decide) rfl (fun ls hl => ?_)
  have L21 : ∀ (f : Nat) (j : Nat) (a : Int32), (j ≤ n) → (a = ziter (fun y => zlater G x y (x.1 (zrix (x.1 1 6)) 6) (-1)) j b) → n + 1 ≤ j + f → ∀ (H : Heap) (locs : List Loc), zI G x A s.heap H locs → ∀ ls : Array Slot, lv_has ls 6 [(0, .ref (za G 0)), (1, .int b), (2, .int (nI n)), (3, .int (x.1 (zrix (x.1 1 6)) 6)), (4, .int a), (5, .int (nI j))] → W p l e { frames := 4, cells := 0, slots := 0, locals := 97 } s m ([.ref (za G 0), .int b, .int (nI n)] : List Value).toArray below meth c H locs 0 0 (MQ below (va_Qi (fun (r : Int32) (u : zX) => x = u ∧ ziter (fun y => zlater G x y (x.1 (zrix (x.1 1 6)) 6) (-1)) n b = r) (fun u t => zJ G u A t.heap) A) ([.ref (za G 0), .int b, .int (nI n)] : List Value).toArray s 0 0 A) (F0 m 21 ls []) := by
    intro f
    induction f with
    | zero =>
      intro j a h1 h2 hf
      exact absurd hf (by omega)
    | succ f ih =>
      intro j a h1 h2 hf H locs hI ls hl
      have ih21 := ih
      refine lv_iload hx hb dX11_talkersIn_21 (lv_at hl 5 rfl) ?_
      refine lv_iload_n hx hb dX11_talkersIn_23 rfl (lv_at hl 2 rfl) ?_
      refine lv_icmp_ge (tgt := 46) hx hb dX11_talkersIn_24 (by decide) (fun c_24 => ?_) (fun c_24 => ?_)
      · skip
        rw [zqG (by omega) (by omega)] at c_24
        refine lv_iload hx hb dX11_talkersIn_46 (lv_at hl 4 rfl) ?_
        exact z_iret hx hb hr hlocks hI (⟨rfl, by rw [h2, show j = n by omega]⟩) dX11_talkersIn_48
      · skip
        rw [zqG (by omega) (by omega)] at c_24
        refine lv_aload_n hx hb dX11_talkersIn_27 rfl (lv_at hl 0 rfl) ?_
        refine z_get (C := RX11) (T := TX11) (N := 14) (ci := 11) (v := .ref (za G 1)) hx hb hts hin11 hown hK hI (zo0 hG) rfl 0 (by decide) wF12 (fun _ h9 => h9) rfl dX11_talkersIn_28 ?_
        refine lv_iload hx hb dX11_talkersIn_31 (lv_at hl 4 rfl) ?_
        refine lv_iload_n hx hb dX11_talkersIn_33 rfl (lv_at hl 3 rfl) ?_
        refine lv_iconst (v := (-1)) hx hb dX11_talkersIn_34 rfl ?_
        refine z_calli (va_runV (As := [.int a, .int (x.1 (zrix (x.1 1 6)) 6), .int (-1)]) (rest := []) ⟨hx, hb, hml, hown, hts⟩ ((c_X7_talkersAfter l hG x N a (x.1 (zrix (x.1 1 6)) 6) (-1) hn) A) (cwV 3 hts gX11_talkersIn_X7_talkersAfter rfl rfl rfl (by decide +kernel) ⟨Nat.le_of_ble_eq_true rfl, Nat.le_of_ble_eq_true rfl⟩) (z_pV hI hK hN (z_recv hK hI (zo1 hG) rfl)) rfl rfl hl.1 rfl (lv_room (Nat.le_of_ble_eq_true rfl)) dX11_talkersIn_35 ⟨Nat.zero_le _, Nat.zero_le _⟩) hI (fun r_35 u H locs hw hI => ?_)
        obtain ⟨rfl, rfl⟩ := hw
        refine lv_istore (lv' := [(4, .int (zlater G x a (x.1 (zrix (x.1 1 6)) 6) (-1))), (0, .ref (za G 0)), (1, .int b), (2, .int (nI n)), (3, .int (x.1 (zrix (x.1 1 6)) 6)), (5, .int (nI j))]) hx hb dX11_talkersIn_38 hl (by decide) rfl (fun ls hl => ?_)
        refine lv_iinc (v := (nI (j + 1))) (lv' := [(5, .int (nI (j + 1))), (4, .int (zlater G x a (x.1 (zrix (x.1 1 6)) 6) (-1))), (0, .ref (za G 0)), (1, .int b), (2, .int (nI n)), (3, .int (x.1 (zrix (x.1 1 6)) 6))]) hx hb dX11_talkersIn_40 hl (k := 5) rfl (zinc j) (by decide) rfl (fun ls hl => ?_)
        refine lv_goto (tgt := 21) hx hb dX11_talkersIn_43 (by decide) ?_
        exact ih21 (j + 1) (zlater G x a (x.1 (zrix (x.1 1 6)) 6) (-1)) (by omega) (by rw [ziter_s, ← h2]) (by omega) _ _ hI ls (lv_sub hl [2, 3, 4, 5, 1, 0] rfl)
  exact L21 (n + 1) 0 b (by omega) rfl (by omega) _ _ hI ls (lv_sub hl [3, 4, 5, 2, 1, 0] rfl)
set_option maxHeartbeats 4000000 in
set_option maxRecDepth 100000 in
theorem c_X11_firstStill (l : Launch) {G : zG} (hG : zOK G) (x : zX) (N : Nat) (b : Int32) (hn : zNow G x N) : zMi l yX11_firstStill wsX11_firstStill { frames := 4, cells := 0, slots := 0, locals := 97 } G [.ref (za G 0), .int b] x (fun (r : Int32) (u : zX) => x = u ∧ zstill (fun y => zlater G x y (x.1 (zrix (x.1 1 6)) 6) (-1)) 0 61 b = r) := by
  intro A
  refine zBody (cc := cX11_firstStill) (maxL := 5) (ret := (some .int)) (by decide) rfl (Nat.le_of_ble_eq_true rfl) ?_
  intro p e s m below meth c hx hb hml hown hts hr hlocks hK hN hI ls hl
  have hown : s.vm.findClass RX11 = some m.cls := hown
  have hl : lv_has ls 5 [(0, .ref (za G 0)), (1, .int b)] := hl
  have hin7 : ∀ w ∈ wsX70, w ∈ wsX11_firstStill := (fun _ h => List.mem_cons_of_mem _ (List.mem_append_left _ (List.mem_append_left _ (List.mem_append_left _ (List.mem_append_left _ (List.mem_append_left _ (List.mem_append_left _ (List.mem_append_left _ (List.mem_append_left _ (List.mem_append_right _ (h)))))))))))
  have hin11 : ∀ w ∈ wsX110, w ∈ wsX11_firstStill := (fun _ h => List.mem_cons_of_mem _ (List.mem_append_left _ (List.mem_append_left _ (List.mem_append_left _ (List.mem_append_left _ (List.mem_append_left _ (List.mem_append_left _ (List.mem_append_left _ (List.mem_append_left _ (List.mem_append_left _ (List.mem_append_right _ (h))))))))))))
  have wF12 := hts (.fieldLink RX11 12 "WhoSitsBy" "now" "LWhoSitsBy$Standing;") (z_mem 1 rfl)
  have wF150 := hts (.fieldLink RX11 150 "WhoSitsBy$Standing" "held" "I") (z_mem 2 rfl)
  refine lv_aload_n hx hb dX11_firstStill_0 rfl (lv_at hl 0 rfl) ?_
  refine lv_aload_n hx hb dX11_firstStill_1 rfl (lv_at hl 0 rfl) ?_
  refine z_get (C := RX11) (T := TX11) (N := 14) (ci := 11) (v := .ref (za G 1)) hx hb hts hin11 hown hK hI (zo0 hG) rfl 0 (by decide) wF12 (fun _ h9 => h9) rfl dX11_firstStill_2 ?_
  refine z_get (C := RX7) (T := TX7) (N := 7) (ci := 7) (v := .int (x.1 1 6)) hx hb hts hin7 hown hK hI (zo1 hG) rfl 6 (by decide) wF150 (fun _ h9 => h9) rfl dX11_firstStill_5 ?_
  refine z_callq (va_runV (As := [.int (x.1 1 6)]) (rest := []) ⟨hx, hb, hml, hown, hts⟩ ((c_X11_roomAt l hG x (x.1 1 6)) A) (cwV 1 hts gX11_firstStill_X11_roomAt rfl rfl rfl (by decide +kernel) ⟨Nat.le_of_ble_eq_true rfl, Nat.le_of_ble_eq_true rfl⟩) (z_pV hI hK hN (z_recv hK hI (zo0 hG) rfl)) rfl rfl hl.1 rfl (lv_room (Nat.le_of_ble_eq_true rfl)) dX11_firstStill_8 ⟨Nat.zero_le _, Nat.zero_le _⟩) hI (fun r_8 u H locs hw hI => ?_)
  obtain ⟨rfl, rfl⟩ := hw
  refine z_calli (va_runV (As := []) (rest := []) ⟨hx, hb, hml, hown, hts⟩ ((c_X5_hush l hG x (zrix (x.1 1 6)) (zrix_ok (x.1 1 6))) A) (cwV 0 hts gX11_firstStill_X5_hush rfl rfl rfl (by decide +kernel) ⟨Nat.le_of_ble_eq_true rfl, Nat.le_of_ble_eq_true rfl⟩) (z_pV hI hK hN (z_recv hK hI (zor hG (zrix_ok (x.1 1 6))) rfl)) rfl rfl hl.1 rfl (lv_room (Nat.le_of_ble_eq_true rfl)) dX11_firstStill_11 ⟨Nat.zero_le _, Nat.zero_le _⟩) hI (fun r_11 u H locs hw hI => ?_)
  obtain ⟨rfl, rfl⟩ := hw
  refine lv_istore_n (lv' := [(2, .int (x.1 (zrix (x.1 1 6)) 6)), (0, .ref (za G 0)), (1, .int b)]) hx hb dX11_firstStill_14 rfl hl (by decide) rfl (fun ls hl => ?_)
  refine lv_iload_n hx hb dX11_firstStill_15 rfl (lv_at hl 2 rfl) ?_
  refine lv_istore_n (lv' := [(3, .int b), (2, .int (x.1 (zrix (x.1 1 6)) 6)), (0, .ref (za G 0)), (1, .int b)]) hx hb dX11_firstStill_16 rfl hl (by decide) rfl (fun ls hl => ?_)
  refine lv_iconst (v := (nI 0)) hx hb dX11_firstStill_17 rfl ?_
  refine lv_istore (lv' := [(4, .int (nI 0)), (3, .int b), (2, .int (x.1 (zrix (x.1 1 6)) 6)), (0, .ref (za G 0)), (1, .int b)]) hx hb dX11_firstStill_18 hl (by decide) rfl (fun ls hl => ?_)
  have L20 : ∀ (f : Nat) (j : Nat) (a : Int32), (j ≤ 61) → (zstill (fun y => zlater G x y (x.1 (zrix (x.1 1 6)) 6) (-1)) 0 61 b = zstill (fun y => zlater G x y (x.1 (zrix (x.1 1 6)) 6) (-1)) j (61 - j) a) → 62 ≤ j + f → ∀ (H : Heap) (locs : List Loc), zI G x A s.heap H locs → ∀ ls : Array Slot, lv_has ls 5 [(0, .ref (za G 0)), (1, .int b), (2, .int (x.1 (zrix (x.1 1 6)) 6)), (3, .int a), (4, .int (nI j))] → W p l e { frames := 4, cells := 0, slots := 0, locals := 97 } s m ([.ref (za G 0), .int b] : List Value).toArray below meth c H locs 0 0 (MQ below (va_Qi (fun (r : Int32) (u : zX) => x = u ∧ zstill (fun y => zlater G x y (x.1 (zrix (x.1 1 6)) 6) (-1)) 0 61 b = r) (fun u t => zJ G u A t.heap) A) ([.ref (za G 0), .int b] : List Value).toArray s 0 0 A) (F0 m 20 ls []) := by
    intro f
    induction f with
    | zero =>
      intro j a h1 h2 hf
      exact absurd hf (by omega)
    | succ f ih =>
      intro j a h1 h2 hf H locs hI ls hl
      have ih20 := ih
      refine lv_iload hx hb dX11_firstStill_20 (lv_at hl 4 rfl) ?_
      refine lv_bipush (v := (nI 60)) hx hb dX11_firstStill_22 rfl ?_
      refine lv_icmp_gt (tgt := 51) hx hb dX11_firstStill_24 (by decide) (fun c_24 => ?_) (fun c_24 => ?_)
      · skip
        rw [zqL (by omega) (by omega)] at c_24
        refine lv_bipush (v := (-5)) hx hb dX11_firstStill_51 rfl ?_
        exact z_iret hx hb hr hlocks hI (⟨rfl, by rw [h2, show 61 - j = 0 by omega]; rfl⟩) dX11_firstStill_53
      · skip
        rw [zqL (by omega) (by omega)] at c_24
        refine lv_iload_n hx hb dX11_firstStill_27 rfl (lv_at hl 3 rfl) ?_
        refine lv_if_ne (tgt := 34) hx hb dX11_firstStill_28 (by decide) (fun c_28 => ?_) (fun c_28 => ?_)
        · skip
          refine lv_aload_n hx hb dX11_firstStill_34 rfl (lv_at hl 0 rfl) ?_
          refine z_get (C := RX11) (T := TX11) (N := 14) (ci := 11) (v := .ref (za G 1)) hx hb hts hin11 hown hK hI (zo0 hG) rfl 0 (by decide) wF12 (fun _ h9 => h9) rfl dX11_firstStill_35 ?_
          refine lv_iload_n hx hb dX11_firstStill_38 rfl (lv_at hl 3 rfl) ?_
          refine lv_iload_n hx hb dX11_firstStill_39 rfl (lv_at hl 2 rfl) ?_
          refine lv_iconst (v := (-1)) hx hb dX11_firstStill_40 rfl ?_
          refine z_calli (va_runV (As := [.int a, .int (x.1 (zrix (x.1 1 6)) 6), .int (-1)]) (rest := []) ⟨hx, hb, hml, hown, hts⟩ ((c_X7_talkersAfter l hG x N a (x.1 (zrix (x.1 1 6)) 6) (-1) hn) A) (cwV 3 hts gX11_firstStill_X7_talkersAfter rfl rfl rfl (by decide +kernel) ⟨Nat.le_of_ble_eq_true rfl, Nat.le_of_ble_eq_true rfl⟩) (z_pV hI hK hN (z_recv hK hI (zo1 hG) rfl)) rfl rfl hl.1 rfl (lv_room (Nat.le_of_ble_eq_true rfl)) dX11_firstStill_41 ⟨Nat.zero_le _, Nat.zero_le _⟩) hI (fun r_41 u H locs hw hI => ?_)
          obtain ⟨rfl, rfl⟩ := hw
          refine lv_istore_n (lv' := [(3, .int (zlater G x a (x.1 (zrix (x.1 1 6)) 6) (-1))), (0, .ref (za G 0)), (1, .int b), (2, .int (x.1 (zrix (x.1 1 6)) 6)), (4, .int (nI j))]) hx hb dX11_firstStill_44 rfl hl (by decide) rfl (fun ls hl => ?_)
          refine lv_iinc (v := (nI (j + 1))) (lv' := [(4, .int (nI (j + 1))), (3, .int (zlater G x a (x.1 (zrix (x.1 1 6)) 6) (-1))), (0, .ref (za G 0)), (1, .int b), (2, .int (x.1 (zrix (x.1 1 6)) 6))]) hx hb dX11_firstStill_45 hl (k := 4) rfl (zinc j) (by decide) rfl (fun ls hl => ?_)
          refine lv_goto (tgt := 20) hx hb dX11_firstStill_48 (by decide) ?_
          exact ih20 (j + 1) (zlater G x a (x.1 (zrix (x.1 1 6)) 6) (-1)) (by omega) (by rw [h2, zstill_n c_28 (by omega)]; rfl) (by omega) _ _ hI ls (lv_sub hl [2, 3, 4, 1, 0] rfl)
        · skip
          refine lv_iload hx hb dX11_firstStill_31 (lv_at hl 4 rfl) ?_
          exact z_iret hx hb hr hlocks hI (⟨rfl, by rw [h2, zstill_y c_28 (by omega)]⟩) dX11_firstStill_33
  exact L20 (62) 0 b (by omega) rfl (by omega) _ _ hI ls (lv_sub hl [3, 4, 2, 1, 0] rfl)
set_option maxHeartbeats 4000000 in
set_option maxRecDepth 100000 in
theorem c_X11_noiseWithout (l : Launch) {G : zG} (hG : zOK G) (x : zX) (N n : Nat) (q b : Int32) (hn : zNow G x N) (hn60 : n ≤ 60) : zMi l yX11_noiseWithout wsX11_noiseWithout { frames := 4, cells := 0, slots := 0, locals := 97 } G [.ref (za G 0), .int q, .int b, .int (nI n)] x (fun (r : Int32) (u : zX) => x = u ∧ (zrun (fun y => zlater G x y (x.1 (zrix (x.1 1 6)) 6) q) (fun y => zsum (fun qq => if zbit y (nI qq) then x.1 (zob x qq) 2 else 0) N) n (b &&& ((nI 1 <<< (q &&& 31)) ^^^ (-1)))).2 = r) := by
  intro A
  refine zBody (cc := cX11_noiseWithout) (maxL := 8) (ret := (some .int)) (by decide) rfl (Nat.le_of_ble_eq_true rfl) ?_
  intro p e s m below meth c hx hb hml hown hts hr hlocks hK hN hI ls hl
  have hown : s.vm.findClass RX11 = some m.cls := hown
  have hl : lv_has ls 8 [(0, .ref (za G 0)), (1, .int q), (2, .int b), (3, .int (nI n))] := hl
  have hin7 : ∀ w ∈ wsX70, w ∈ wsX11_noiseWithout := (fun _ h => List.mem_cons_of_mem _ (List.mem_append_left _ (List.mem_append_left _ (List.mem_append_left _ (List.mem_append_left _ (List.mem_append_left _ (List.mem_append_left _ (List.mem_append_left _ (List.mem_append_left _ (List.mem_append_right _ (h)))))))))))
  have hin11 : ∀ w ∈ wsX110, w ∈ wsX11_noiseWithout := (fun _ h => List.mem_cons_of_mem _ (List.mem_append_left _ (List.mem_append_left _ (List.mem_append_left _ (List.mem_append_left _ (List.mem_append_left _ (List.mem_append_left _ (List.mem_append_left _ (List.mem_append_left _ (List.mem_append_left _ (List.mem_append_right _ (h))))))))))))
  have wF12 := hts (.fieldLink RX11 12 "WhoSitsBy" "now" "LWhoSitsBy$Standing;") (z_mem 1 rfl)
  have wF150 := hts (.fieldLink RX11 150 "WhoSitsBy$Standing" "held" "I") (z_mem 2 rfl)
  refine lv_aload_n hx hb dX11_noiseWithout_0 rfl (lv_at hl 0 rfl) ?_
  refine lv_aload_n hx hb dX11_noiseWithout_1 rfl (lv_at hl 0 rfl) ?_
  refine z_get (C := RX11) (T := TX11) (N := 14) (ci := 11) (v := .ref (za G 1)) hx hb hts hin11 hown hK hI (zo0 hG) rfl 0 (by decide) wF12 (fun _ h9 => h9) rfl dX11_noiseWithout_2 ?_
  refine z_get (C := RX7) (T := TX7) (N := 7) (ci := 7) (v := .int (x.1 1 6)) hx hb hts hin7 hown hK hI (zo1 hG) rfl 6 (by decide) wF150 (fun _ h9 => h9) rfl dX11_noiseWithout_5 ?_
  refine z_callq (va_runV (As := [.int (x.1 1 6)]) (rest := []) ⟨hx, hb, hml, hown, hts⟩ ((c_X11_roomAt l hG x (x.1 1 6)) A) (cwV 1 hts gX11_noiseWithout_X11_roomAt rfl rfl rfl (by decide +kernel) ⟨Nat.le_of_ble_eq_true rfl, Nat.le_of_ble_eq_true rfl⟩) (z_pV hI hK hN (z_recv hK hI (zo0 hG) rfl)) rfl rfl hl.1 rfl (lv_room (Nat.le_of_ble_eq_true rfl)) dX11_noiseWithout_8 ⟨Nat.zero_le _, Nat.zero_le _⟩) hI (fun r_8 u H locs hw hI => ?_)
  obtain ⟨rfl, rfl⟩ := hw
  refine z_calli (va_runV (As := []) (rest := []) ⟨hx, hb, hml, hown, hts⟩ ((c_X5_hush l hG x (zrix (x.1 1 6)) (zrix_ok (x.1 1 6))) A) (cwV 0 hts gX11_noiseWithout_X5_hush rfl rfl rfl (by decide +kernel) ⟨Nat.le_of_ble_eq_true rfl, Nat.le_of_ble_eq_true rfl⟩) (z_pV hI hK hN (z_recv hK hI (zor hG (zrix_ok (x.1 1 6))) rfl)) rfl rfl hl.1 rfl (lv_room (Nat.le_of_ble_eq_true rfl)) dX11_noiseWithout_11 ⟨Nat.zero_le _, Nat.zero_le _⟩) hI (fun r_11 u H locs hw hI => ?_)
  obtain ⟨rfl, rfl⟩ := hw
  refine lv_istore (lv' := [(4, .int (x.1 (zrix (x.1 1 6)) 6)), (0, .ref (za G 0)), (1, .int q), (2, .int b), (3, .int (nI n))]) hx hb dX11_noiseWithout_14 hl (by decide) rfl (fun ls hl => ?_)
  refine lv_iload_n hx hb dX11_noiseWithout_16 rfl (lv_at hl 3 rfl) ?_
  refine lv_iconst (v := (nI 1)) hx hb dX11_noiseWithout_17 rfl ?_
  refine lv_iload_n hx hb dX11_noiseWithout_18 rfl (lv_at hl 2 rfl) ?_
  refine lv_ishl hx hb dX11_noiseWithout_19 ?_
  refine lv_iconst (v := (-1)) hx hb dX11_noiseWithout_20 rfl ?_
  refine lv_ixor hx hb dX11_noiseWithout_21 ?_
  refine lv_iand hx hb dX11_noiseWithout_22 ?_
  refine lv_istore (lv' := [(5, .int (b &&& (((nI 1) <<< (q &&& 31)) ^^^ (-1)))), (4, .int (x.1 (zrix (x.1 1 6)) 6)), (0, .ref (za G 0)), (1, .int q), (2, .int b), (3, .int (nI n))]) hx hb dX11_noiseWithout_23 hl (by decide) rfl (fun ls hl => ?_)
  refine lv_aload_n hx hb dX11_noiseWithout_25 rfl (lv_at hl 2 rfl) ?_
  refine z_get (C := RX11) (T := TX11) (N := 14) (ci := 11) (v := .ref (za G 1)) hx hb hts hin11 hown hK hI (zo0 hG) rfl 0 (by decide) wF12 (fun _ h9 => h9) rfl dX11_noiseWithout_26 ?_
  refine lv_iload hx hb dX11_noiseWithout_29 (lv_at hl 0 rfl) ?_
  refine z_calli (va_runV (As := [.int (b &&& (((nI 1) <<< (q &&& 31)) ^^^ (-1)))]) (rest := []) ⟨hx, hb, hml, hown, hts⟩ ((c_X7_loudness l hG x N (b &&& (((nI 1) <<< (q &&& 31)) ^^^ (-1))) hn) A) (cwV 1 hts gX11_noiseWithout_X7_loudness rfl rfl rfl (by decide +kernel) ⟨Nat.le_of_ble_eq_true rfl, Nat.le_of_ble_eq_true rfl⟩) (z_pV hI hK hN (z_recv hK hI (zo1 hG) rfl)) rfl rfl hl.1 rfl (lv_room (Nat.le_of_ble_eq_true rfl)) dX11_noiseWithout_31 ⟨Nat.zero_le _, Nat.zero_le _⟩) hI (fun r_31 u H locs hw hI => ?_)
  obtain ⟨rfl, rfl⟩ := hw
  refine lv_istore (lv' := [(6, .int (zsum (fun qq => if zbit (b &&& (((nI 1) <<< (q &&& 31)) ^^^ (-1))) (nI qq) then x.1 (zob x qq) 2 else 0) N)), (5, .int (b &&& (((nI 1) <<< (q &&& 31)) ^^^ (-1)))), (4, .int (x.1 (zrix (x.1 1 6)) 6)), (0, .ref (za G 0)), (1, .int q), (2, .int b), (3, .int (nI n))]) hx hb dX11_noiseWithout_34 hl (by decide) rfl (fun ls hl => ?_)
  refine lv_iconst (v := (nI 0)) hx hb dX11_noiseWithout_36 rfl ?_
  refine lv_istore (lv' := [(7, .int (nI 0)), (6, .int (zsum (fun qq => if zbit (b &&& (((nI 1) <<< (q &&& 31)) ^^^ (-1))) (nI qq) then x.1 (zob x qq) 2 else 0) N)), (5, .int (b &&& (((nI 1) <<< (q &&& 31)) ^^^ (-1)))), (4, .int (x.1 (zrix (x.1 1 6)) 6)), (0, .ref (za G 0)), (1, .int q), (2, .int b), (3, .int (nI n))]) hx hb dX11_noiseWithout_37 hl (by decide) rfl (fun ls hl => ?_)
  have L39 : ∀ (f : Nat) (j : Nat) (a : Int32) (z : Int32), (j ≤ n) → (a = (zrun (fun y => zlater G x y (x.1 (zrix (x.1 1 6)) 6) q) (fun y => zsum (fun qq => if zbit y (nI qq) then x.1 (zob x qq) 2 else 0) N) j (b &&& ((nI 1 <<< (q &&& 31)) ^^^ (-1)))).1) → (z = (zrun (fun y => zlater G x y (x.1 (zrix (x.1 1 6)) 6) q) (fun y => zsum (fun qq => if zbit y (nI qq) then x.1 (zob x qq) 2 else 0) N) j (b &&& ((nI 1 <<< (q &&& 31)) ^^^ (-1)))).2) → n + 1 ≤ j + f → ∀ (H : Heap) (locs : List Loc), zI G x A s.heap H locs → ∀ ls : Array Slot, lv_has ls 8 [(0, .ref (za G 0)), (1, .int q), (2, .int b), (3, .int (nI n)), (4, .int (x.1 (zrix (x.1 1 6)) 6)), (5, .int a), (6, .int z), (7, .int (nI j))] → W p l e { frames := 4, cells := 0, slots := 0, locals := 97 } s m ([.ref (za G 0), .int q, .int b, .int (nI n)] : List Value).toArray below meth c H locs 0 0 (MQ below (va_Qi (fun (r : Int32) (u : zX) => x = u ∧ (zrun (fun y => zlater G x y (x.1 (zrix (x.1 1 6)) 6) q) (fun y => zsum (fun qq => if zbit y (nI qq) then x.1 (zob x qq) 2 else 0) N) n (b &&& ((nI 1 <<< (q &&& 31)) ^^^ (-1)))).2 = r) (fun u t => zJ G u A t.heap) A) ([.ref (za G 0), .int q, .int b, .int (nI n)] : List Value).toArray s 0 0 A) (F0 m 39 ls []) := by
    intro f
    induction f with
    | zero =>
      intro j a z h1 h2 h3 hf
      exact absurd hf (by omega)
    | succ f ih =>
      intro j a z h1 h2 h3 hf H locs hI ls hl
      have ih39 := ih
      refine lv_iload hx hb dX11_noiseWithout_39 (lv_at hl 7 rfl) ?_
      refine lv_iload_n hx hb dX11_noiseWithout_41 rfl (lv_at hl 3 rfl) ?_
      refine lv_icmp_ge (tgt := 79) hx hb dX11_noiseWithout_42 (by decide) (fun c_42 => ?_) (fun c_42 => ?_)
      · skip
        rw [zqG (by omega) (by omega)] at c_42
        refine lv_iload hx hb dX11_noiseWithout_79 (lv_at hl 6 rfl) ?_
        exact z_iret hx hb hr hlocks hI (⟨rfl, by rw [h3, show j = n by omega]⟩) dX11_noiseWithout_81
      · skip
        rw [zqG (by omega) (by omega)] at c_42
        refine lv_aload_n hx hb dX11_noiseWithout_45 rfl (lv_at hl 0 rfl) ?_
        refine z_get (C := RX11) (T := TX11) (N := 14) (ci := 11) (v := .ref (za G 1)) hx hb hts hin11 hown hK hI (zo0 hG) rfl 0 (by decide) wF12 (fun _ h9 => h9) rfl dX11_noiseWithout_46 ?_
        refine lv_iload hx hb dX11_noiseWithout_49 (lv_at hl 5 rfl) ?_
        refine lv_iload hx hb dX11_noiseWithout_51 (lv_at hl 4 rfl) ?_
        refine lv_iload_n hx hb dX11_noiseWithout_53 rfl (lv_at hl 1 rfl) ?_
        refine z_calli (va_runV (As := [.int a, .int (x.1 (zrix (x.1 1 6)) 6), .int q]) (rest := []) ⟨hx, hb, hml, hown, hts⟩ ((c_X7_talkersAfter l hG x N a (x.1 (zrix (x.1 1 6)) 6) q hn) A) (cwV 3 hts gX11_noiseWithout_X7_talkersAfter rfl rfl rfl (by decide +kernel) ⟨Nat.le_of_ble_eq_true rfl, Nat.le_of_ble_eq_true rfl⟩) (z_pV hI hK hN (z_recv hK hI (zo1 hG) rfl)) rfl rfl hl.1 rfl (lv_room (Nat.le_of_ble_eq_true rfl)) dX11_noiseWithout_54 ⟨Nat.zero_le _, Nat.zero_le _⟩) hI (fun r_54 u H locs hw hI => ?_)
        obtain ⟨rfl, rfl⟩ := hw
        refine lv_istore (lv' := [(5, .int (zlater G x a (x.1 (zrix (x.1 1 6)) 6) q)), (0, .ref (za G 0)), (1, .int q), (2, .int b), (3, .int (nI n)), (4, .int (x.1 (zrix (x.1 1 6)) 6)), (6, .int z), (7, .int (nI j))]) hx hb dX11_noiseWithout_57 hl (by decide) rfl (fun ls hl => ?_)
        refine lv_iload hx hb dX11_noiseWithout_59 (lv_at hl 6 rfl) ?_
        refine lv_aload_n hx hb dX11_noiseWithout_61 rfl (lv_at hl 1 rfl) ?_
        refine z_get (C := RX11) (T := TX11) (N := 14) (ci := 11) (v := .ref (za G 1)) hx hb hts hin11 hown hK hI (zo0 hG) rfl 0 (by decide) wF12 (fun _ h9 => h9) rfl dX11_noiseWithout_62 ?_
        refine lv_iload hx hb dX11_noiseWithout_65 (lv_at hl 0 rfl) ?_
        refine z_calli (va_runV (As := [.int (zlater G x a (x.1 (zrix (x.1 1 6)) 6) q)]) (rest := [.int z]) ⟨hx, hb, hml, hown, hts⟩ ((c_X7_loudness l hG x N (zlater G x a (x.1 (zrix (x.1 1 6)) 6) q) hn) A) (cwV 1 hts gX11_noiseWithout_X7_loudness rfl rfl rfl (by decide +kernel) ⟨Nat.le_of_ble_eq_true rfl, Nat.le_of_ble_eq_true rfl⟩) (z_pV hI hK hN (z_recv hK hI (zo1 hG) rfl)) rfl rfl hl.1 rfl (lv_room (Nat.le_of_ble_eq_true rfl)) dX11_noiseWithout_67 ⟨Nat.zero_le _, Nat.zero_le _⟩) hI (fun r_67 u H locs hw hI => ?_)
        obtain ⟨rfl, rfl⟩ := hw
        refine lv_iadd hx hb dX11_noiseWithout_70 ?_
        refine lv_istore (lv' := [(6, .int (z + (zsum (fun qq => if zbit (zlater G x a (x.1 (zrix (x.1 1 6)) 6) q) (nI qq) then x.1 (zob x qq) 2 else 0) N))), (5, .int (zlater G x a (x.1 (zrix (x.1 1 6)) 6) q)), (0, .ref (za G 0)), (1, .int q), (2, .int b), (3, .int (nI n)), (4, .int (x.1 (zrix (x.1 1 6)) 6)), (7, .int (nI j))]) hx hb dX11_noiseWithout_71 hl (by decide) rfl (fun ls hl => ?_)
        refine lv_iinc (v := (nI (j + 1))) (lv' := [(7, .int (nI (j + 1))), (6, .int (z + (zsum (fun qq => if zbit (zlater G x a (x.1 (zrix (x.1 1 6)) 6) q) (nI qq) then x.1 (zob x qq) 2 else 0) N))), (5, .int (zlater G x a (x.1 (zrix (x.1 1 6)) 6) q)), (0, .ref (za G 0)), (1, .int q), (2, .int b), (3, .int (nI n)), (4, .int (x.1 (zrix (x.1 1 6)) 6))]) hx hb dX11_noiseWithout_73 hl (k := 7) rfl (zinc j) (by decide) rfl (fun ls hl => ?_)
        refine lv_goto (tgt := 39) hx hb dX11_noiseWithout_76 (by decide) ?_
        exact ih39 (j + 1) (zlater G x a (x.1 (zrix (x.1 1 6)) 6) q) (z + (zsum (fun qq => if zbit (zlater G x a (x.1 (zrix (x.1 1 6)) 6) q) (nI qq) then x.1 (zob x qq) 2 else 0) N)) (by omega) (by rw [h2]; rfl) (by rw [h3, h2]; rfl) (by omega) _ _ hI ls (lv_sub hl [3, 4, 5, 6, 7, 2, 1, 0] rfl)
  exact L39 (n + 1) 0 (b &&& (((nI 1) <<< (q &&& 31)) ^^^ (-1))) (zsum (fun qq => if zbit (b &&& (((nI 1) <<< (q &&& 31)) ^^^ (-1))) (nI qq) then x.1 (zob x qq) 2 else 0) N) (by omega) rfl rfl (by omega) _ _ hI ls (lv_sub hl [4, 5, 6, 7, 3, 2, 1, 0] rfl)
set_option maxHeartbeats 4000000 in
set_option maxRecDepth 100000 in
theorem c_X11_talk (l : Launch) {G : zG} (hG : zOK G) (x : zX) (N : Nat) (b m0 : Int32) (hn : zNow G x N) : zMi l yX11_talk wsX11_talk { frames := 5, cells := 0, slots := 0, locals := 122 } G [.ref (za G 0), .int b, .int m0] x (fun (r : Int32) (u : zX) => (¬ ((¬ b < 0 ∧ ¬ nI (2 ^ N) ≤ b) ∧ ¬ m0 < 0 ∧ ¬ nI 60 < m0) ∧ x = u ∧ -2 = r) ∨ ((¬ b < 0 ∧ ¬ nI (2 ^ N) ≤ b) ∧ ∃ n, n ≤ 60 ∧ m0 = nI n ∧ x = u ∧ ziter (fun y => zlater G x y (x.1 (zrix (x.1 1 6)) 6) (-1)) n b = r)) := by
  intro A
  refine zBody (cc := cX11_talk) (maxL := 3) (ret := (some .int)) (by decide) rfl (Nat.le_of_ble_eq_true rfl) ?_
  intro p e s m below meth c hx hb hml hown hts hr hlocks hK hN hI ls hl
  have hown : s.vm.findClass RX11 = some m.cls := hown
  have hl : lv_has ls 3 [(0, .ref (za G 0)), (1, .int b), (2, .int m0)] := hl
  have hin11 : ∀ w ∈ wsX110, w ∈ wsX11_talk := (fun _ h => List.mem_cons_of_mem _ (List.mem_append_left _ (List.mem_append_left _ (List.mem_append_left _ (List.mem_append_left _ (List.mem_append_left _ (List.mem_append_left _ (List.mem_append_left _ (List.mem_append_left _ (List.mem_append_left _ (List.mem_append_right _ (h))))))))))))
  have wF12 := hts (.fieldLink RX11 12 "WhoSitsBy" "now" "LWhoSitsBy$Standing;") (z_mem 1 rfl)
  have h8 := hn.1
  refine lv_aload_n hx hb dX11_talk_0 rfl (lv_at hl 0 rfl) ?_
  refine z_get (C := RX11) (T := TX11) (N := 14) (ci := 11) (v := .ref (za G 1)) hx hb hts hin11 hown hK hI (zo0 hG) rfl 0 (by decide) wF12 (fun _ h9 => h9) rfl dX11_talk_1 ?_
  refine lv_iload_n hx hb dX11_talk_4 rfl (lv_at hl 1 rfl) ?_
  refine z_calli (va_runV (As := [.int b]) (rest := []) ⟨hx, hb, hml, hown, hts⟩ ((c_X7_arePupils l hG x N b hn) A) (cwV 1 hts gX11_talk_X7_arePupils rfl rfl rfl (by decide +kernel) ⟨Nat.le_of_ble_eq_true rfl, Nat.le_of_ble_eq_true rfl⟩) (z_pV hI hK hN (z_recv hK hI (zo1 hG) rfl)) rfl rfl hl.1 rfl (lv_room (Nat.le_of_ble_eq_true rfl)) dX11_talk_5 ⟨Nat.zero_le _, Nat.zero_le _⟩) hI (fun r_5 u H locs hw hI => ?_)
  obtain ⟨rfl, rfl⟩ := hw
  refine lv_if_eq (tgt := 21) hx hb dX11_talk_8 (by decide) (fun c_8 => ?_) (fun c_8 => ?_)
  · skip
    rw [zb_0] at c_8
    refine lv_bipush (v := (-2)) hx hb dX11_talk_21 rfl ?_
    exact z_iret hx hb hr hlocks hI (Or.inl ⟨fun h => c_8 h.1, rfl, rfl⟩) dX11_talk_23
  · skip
    rw [zb_0, Classical.not_not] at c_8
    refine lv_iload_n hx hb dX11_talk_11 rfl (lv_at hl 2 rfl) ?_
    refine lv_if_lt (tgt := 21) hx hb dX11_talk_12 (by decide) (fun c_12 => ?_) (fun c_12 => ?_)
    · skip
      refine lv_bipush (v := (-2)) hx hb dX11_talk_21 rfl ?_
      exact z_iret hx hb hr hlocks hI (Or.inl ⟨fun h => h.2.1 c_12, rfl, rfl⟩) dX11_talk_23
    · skip
      refine lv_iload_n hx hb dX11_talk_15 rfl (lv_at hl 2 rfl) ?_
      refine lv_bipush (v := (nI 60)) hx hb dX11_talk_16 rfl ?_
      refine lv_icmp_le (tgt := 24) hx hb dX11_talk_18 (by decide) (fun c_18 => ?_) (fun c_18 => ?_)
      · skip
        obtain ⟨n, hn0, rfl⟩ := z_ix (n := 61) c_12 (fun h => z_nle h (z_lt1 (m := 60) c_18)) (by decide)
        refine lv_aload_n hx hb dX11_talk_24 rfl (lv_at hl 0 rfl) ?_
        refine lv_iload_n hx hb dX11_talk_25 rfl (lv_at hl 1 rfl) ?_
        refine lv_iload_n hx hb dX11_talk_26 rfl (lv_at hl 2 rfl) ?_
        refine z_calli (va_runV (As := [.int b, .int (nI n)]) (rest := []) ⟨hx, hb, hml, hown, hts⟩ ((c_X11_talkersIn l hG x N n b hn (by omega)) A) (cwV 2 hts gX11_talk_X11_talkersIn rfl rfl rfl (by decide +kernel) ⟨Nat.le_of_ble_eq_true rfl, Nat.le_of_ble_eq_true rfl⟩) (z_pV hI hK hN (z_recv hK hI (zo0 hG) rfl)) rfl rfl hl.1 rfl (lv_room (Nat.le_of_ble_eq_true rfl)) dX11_talk_27 ⟨Nat.zero_le _, Nat.zero_le _⟩) hI (fun r_27 u H locs hw hI => ?_)
        obtain ⟨rfl, rfl⟩ := hw
        exact z_iret hx hb hr hlocks hI (Or.inr ⟨c_8, n, by omega, rfl, rfl, rfl⟩) dX11_talk_30
      · skip
        refine lv_bipush (v := (-2)) hx hb dX11_talk_21 rfl ?_
        exact z_iret hx hb hr hlocks hI (Or.inl ⟨fun h => c_18 (z_nlt h.2.2), rfl, rfl⟩) dX11_talk_23
set_option maxHeartbeats 4000000 in
set_option maxRecDepth 100000 in
theorem c_X11_noise (l : Launch) {G : zG} (hG : zOK G) (x : zX) (N : Nat) (b m0 w : Int32) (hn : zNow G x N) : zMi l yX11_noise wsX11_noise { frames := 5, cells := 0, slots := 0, locals := 122 } G [.ref (za G 0), .int b, .int m0, .int w] x (fun (r : Int32) (u : zX) => (¬ (w = nI 0 ∨ w = nI 1) ∧ x = u ∧ -1 = r) ∨ ((w = nI 0 ∨ w = nI 1) ∧ ¬ ((¬ b < 0 ∧ ¬ nI (2 ^ N) ≤ b) ∧ ¬ m0 < 0 ∧ ¬ nI 60 < m0) ∧ x = u ∧ -2 = r) ∨ ((w = nI 0 ∨ w = nI 1) ∧ (¬ b < 0 ∧ ¬ nI (2 ^ N) ≤ b) ∧ ∃ n, n ≤ 60 ∧ m0 = nI n ∧ x = u ∧ (if w = nI 0 then (fun y => zsum (fun qq => if zbit y (nI qq) then x.1 (zob x qq) 2 else 0) N) (ziter (fun y => zlater G x y (x.1 (zrix (x.1 1 6)) 6) (-1)) n b) else zstill (fun y => zlater G x y (x.1 (zrix (x.1 1 6)) 6) (-1)) 0 61 b) = r)) := by
  intro A
  refine zBody (cc := cX11_noise) (maxL := 4) (ret := (some .int)) (by decide) rfl (Nat.le_of_ble_eq_true rfl) ?_
  intro p e s m below meth c hx hb hml hown hts hr hlocks hK hN hI ls hl
  have hown : s.vm.findClass RX11 = some m.cls := hown
  have hl : lv_has ls 4 [(0, .ref (za G 0)), (1, .int b), (2, .int m0), (3, .int w)] := hl
  have hin11 : ∀ w ∈ wsX110, w ∈ wsX11_noise := (fun _ h => List.mem_cons_of_mem _ (List.mem_append_left _ (List.mem_append_left _ (List.mem_append_left _ (List.mem_append_left _ (List.mem_append_left _ (List.mem_append_left _ (List.mem_append_left _ (List.mem_append_left _ (List.mem_append_left _ (List.mem_append_right _ (h))))))))))))
  have wF12 := hts (.fieldLink RX11 12 "WhoSitsBy" "now" "LWhoSitsBy$Standing;") (z_mem 1 rfl)
  have h8 := hn.1
  refine lv_iload_n hx hb dX11_noise_0 rfl (lv_at hl 3 rfl) ?_
  refine lv_if_eq (tgt := 11) hx hb dX11_noise_1 (by decide) (fun c_1 => ?_) (fun c_1 => ?_)
  · skip
    refine lv_aload_n hx hb dX11_noise_11 rfl (lv_at hl 0 rfl) ?_
    refine z_get (C := RX11) (T := TX11) (N := 14) (ci := 11) (v := .ref (za G 1)) hx hb hts hin11 hown hK hI (zo0 hG) rfl 0 (by decide) wF12 (fun _ h9 => h9) rfl dX11_noise_12 ?_
    refine lv_iload_n hx hb dX11_noise_15 rfl (lv_at hl 1 rfl) ?_
    refine z_calli (va_runV (As := [.int b]) (rest := []) ⟨hx, hb, hml, hown, hts⟩ ((c_X7_arePupils l hG x N b hn) A) (cwV 1 hts gX11_noise_X7_arePupils rfl rfl rfl (by decide +kernel) ⟨Nat.le_of_ble_eq_true rfl, Nat.le_of_ble_eq_true rfl⟩) (z_pV hI hK hN (z_recv hK hI (zo1 hG) rfl)) rfl rfl hl.1 rfl (lv_room (Nat.le_of_ble_eq_true rfl)) dX11_noise_16 ⟨Nat.zero_le _, Nat.zero_le _⟩) hI (fun r_16 u H locs hw hI => ?_)
    obtain ⟨rfl, rfl⟩ := hw
    refine lv_if_eq (tgt := 32) hx hb dX11_noise_19 (by decide) (fun c_19 => ?_) (fun c_19 => ?_)
    · skip
      rw [zb_0] at c_19
      refine lv_bipush (v := (-2)) hx hb dX11_noise_32 rfl ?_
      exact z_iret hx hb hr hlocks hI (Or.inr (Or.inl ⟨Or.inl c_1, fun h => c_19 h.1, rfl, rfl⟩)) dX11_noise_34
    · skip
      rw [zb_0, Classical.not_not] at c_19
      refine lv_iload_n hx hb dX11_noise_22 rfl (lv_at hl 2 rfl) ?_
      refine lv_if_lt (tgt := 32) hx hb dX11_noise_23 (by decide) (fun c_23 => ?_) (fun c_23 => ?_)
      · skip
        refine lv_bipush (v := (-2)) hx hb dX11_noise_32 rfl ?_
        exact z_iret hx hb hr hlocks hI (Or.inr (Or.inl ⟨Or.inl c_1, fun h => h.2.1 c_23, rfl, rfl⟩)) dX11_noise_34
      · skip
        refine lv_iload_n hx hb dX11_noise_26 rfl (lv_at hl 2 rfl) ?_
        refine lv_bipush (v := (nI 60)) hx hb dX11_noise_27 rfl ?_
        refine lv_icmp_le (tgt := 35) hx hb dX11_noise_29 (by decide) (fun c_29 => ?_) (fun c_29 => ?_)
        · skip
          obtain ⟨n, hn0, rfl⟩ := z_ix (n := 61) c_23 (fun h => z_nle h (z_lt1 (m := 60) c_29)) (by decide)
          refine lv_iload_n hx hb dX11_noise_35 rfl (lv_at hl 3 rfl) ?_
          refine lv_if_ne (tgt := 55) hx hb dX11_noise_36 (by decide) (fun c_36 => ?_) (fun c_36 => ?_)
          · skip
            refine lv_aload_n hx hb dX11_noise_55 rfl (lv_at hl 0 rfl) ?_
            refine lv_iload_n hx hb dX11_noise_56 rfl (lv_at hl 1 rfl) ?_
            refine z_calli (va_runV (As := [.int b]) (rest := []) ⟨hx, hb, hml, hown, hts⟩ ((c_X11_firstStill l hG x N b hn) A) (cwV 1 hts gX11_noise_X11_firstStill rfl rfl rfl (by decide +kernel) ⟨Nat.le_of_ble_eq_true rfl, Nat.le_of_ble_eq_true rfl⟩) (z_pV hI hK hN (z_recv hK hI (zo0 hG) rfl)) rfl rfl hl.1 rfl (lv_room (Nat.le_of_ble_eq_true rfl)) dX11_noise_57 ⟨Nat.zero_le _, Nat.zero_le _⟩) hI (fun r_57 u H locs hw hI => ?_)
            obtain ⟨rfl, rfl⟩ := hw
            exact z_iret hx hb hr hlocks hI (Or.inr (Or.inr ⟨Or.inl c_1, c_19, n, by omega, rfl, rfl, if_neg c_36⟩)) dX11_noise_60
          · skip
            refine lv_aload_n hx hb dX11_noise_39 rfl (lv_at hl 0 rfl) ?_
            refine z_get (C := RX11) (T := TX11) (N := 14) (ci := 11) (v := .ref (za G 1)) hx hb hts hin11 hown hK hI (zo0 hG) rfl 0 (by decide) wF12 (fun _ h9 => h9) rfl dX11_noise_40 ?_
            refine lv_aload_n hx hb dX11_noise_43 rfl (lv_at hl 0 rfl) ?_
            refine lv_iload_n hx hb dX11_noise_44 rfl (lv_at hl 1 rfl) ?_
            refine lv_iload_n hx hb dX11_noise_45 rfl (lv_at hl 2 rfl) ?_
            refine z_calli (va_runV (As := [.int b, .int (nI n)]) (rest := [.ref (za G 1)]) ⟨hx, hb, hml, hown, hts⟩ ((c_X11_talkersIn l hG x N n b hn (by omega)) A) (cwV 2 hts gX11_noise_X11_talkersIn rfl rfl rfl (by decide +kernel) ⟨Nat.le_of_ble_eq_true rfl, Nat.le_of_ble_eq_true rfl⟩) (z_pV hI hK hN (z_recv hK hI (zo0 hG) rfl)) rfl rfl hl.1 rfl (lv_room (Nat.le_of_ble_eq_true rfl)) dX11_noise_46 ⟨Nat.zero_le _, Nat.zero_le _⟩) hI (fun r_46 u H locs hw hI => ?_)
            obtain ⟨rfl, rfl⟩ := hw
            refine z_calli (va_runV (As := [.int (ziter (fun y => zlater G x y (x.1 (zrix (x.1 1 6)) 6) (-1)) n b)]) (rest := []) ⟨hx, hb, hml, hown, hts⟩ ((c_X7_loudness l hG x N (ziter (fun y => zlater G x y (x.1 (zrix (x.1 1 6)) 6) (-1)) n b) hn) A) (cwV 1 hts gX11_noise_X7_loudness rfl rfl rfl (by decide +kernel) ⟨Nat.le_of_ble_eq_true rfl, Nat.le_of_ble_eq_true rfl⟩) (z_pV hI hK hN (z_recv hK hI (zo1 hG) rfl)) rfl rfl hl.1 rfl (lv_room (Nat.le_of_ble_eq_true rfl)) dX11_noise_49 ⟨Nat.zero_le _, Nat.zero_le _⟩) hI (fun r_49 u H locs hw hI => ?_)
            obtain ⟨rfl, rfl⟩ := hw
            refine lv_goto (tgt := 60) hx hb dX11_noise_52 (by decide) ?_
            exact z_iret hx hb hr hlocks hI (Or.inr (Or.inr ⟨Or.inl c_1, c_19, n, by omega, rfl, rfl, if_pos c_36⟩)) dX11_noise_60
        · skip
          refine lv_bipush (v := (-2)) hx hb dX11_noise_32 rfl ?_
          exact z_iret hx hb hr hlocks hI (Or.inr (Or.inl ⟨Or.inl c_1, fun h => c_29 (z_nlt h.2.2), rfl, rfl⟩)) dX11_noise_34
  · skip
    refine lv_iload_n hx hb dX11_noise_4 rfl (lv_at hl 3 rfl) ?_
    refine lv_iconst (v := (nI 1)) hx hb dX11_noise_5 rfl ?_
    refine lv_icmp_eq (tgt := 11) hx hb dX11_noise_6 (by decide) (fun c_6 => ?_) (fun c_6 => ?_)
    · skip
      refine lv_aload_n hx hb dX11_noise_11 rfl (lv_at hl 0 rfl) ?_
      refine z_get (C := RX11) (T := TX11) (N := 14) (ci := 11) (v := .ref (za G 1)) hx hb hts hin11 hown hK hI (zo0 hG) rfl 0 (by decide) wF12 (fun _ h9 => h9) rfl dX11_noise_12 ?_
      refine lv_iload_n hx hb dX11_noise_15 rfl (lv_at hl 1 rfl) ?_
      refine z_calli (va_runV (As := [.int b]) (rest := []) ⟨hx, hb, hml, hown, hts⟩ ((c_X7_arePupils l hG x N b hn) A) (cwV 1 hts gX11_noise_X7_arePupils rfl rfl rfl (by decide +kernel) ⟨Nat.le_of_ble_eq_true rfl, Nat.le_of_ble_eq_true rfl⟩) (z_pV hI hK hN (z_recv hK hI (zo1 hG) rfl)) rfl rfl hl.1 rfl (lv_room (Nat.le_of_ble_eq_true rfl)) dX11_noise_16 ⟨Nat.zero_le _, Nat.zero_le _⟩) hI (fun r_16 u H locs hw hI => ?_)
      obtain ⟨rfl, rfl⟩ := hw
      refine lv_if_eq (tgt := 32) hx hb dX11_noise_19 (by decide) (fun c_19 => ?_) (fun c_19 => ?_)
      · skip
        rw [zb_0] at c_19
        refine lv_bipush (v := (-2)) hx hb dX11_noise_32 rfl ?_
        exact z_iret hx hb hr hlocks hI (Or.inr (Or.inl ⟨Or.inr c_6, fun h => c_19 h.1, rfl, rfl⟩)) dX11_noise_34
      · skip
        rw [zb_0, Classical.not_not] at c_19
        refine lv_iload_n hx hb dX11_noise_22 rfl (lv_at hl 2 rfl) ?_
        refine lv_if_lt (tgt := 32) hx hb dX11_noise_23 (by decide) (fun c_23 => ?_) (fun c_23 => ?_)
        · skip
          refine lv_bipush (v := (-2)) hx hb dX11_noise_32 rfl ?_
          exact z_iret hx hb hr hlocks hI (Or.inr (Or.inl ⟨Or.inr c_6, fun h => h.2.1 c_23, rfl, rfl⟩)) dX11_noise_34
        · skip
          refine lv_iload_n hx hb dX11_noise_26 rfl (lv_at hl 2 rfl) ?_
          refine lv_bipush (v := (nI 60)) hx hb dX11_noise_27 rfl ?_
          refine lv_icmp_le (tgt := 35) hx hb dX11_noise_29 (by decide) (fun c_29 => ?_) (fun c_29 => ?_)
          · skip
            obtain ⟨n, hn0, rfl⟩ := z_ix (n := 61) c_23 (fun h => z_nle h (z_lt1 (m := 60) c_29)) (by decide)
            refine lv_iload_n hx hb dX11_noise_35 rfl (lv_at hl 3 rfl) ?_
            refine lv_if_ne (tgt := 55) hx hb dX11_noise_36 (by decide) (fun c_36 => ?_) (fun c_36 => ?_)
            · skip
              refine lv_aload_n hx hb dX11_noise_55 rfl (lv_at hl 0 rfl) ?_
              refine lv_iload_n hx hb dX11_noise_56 rfl (lv_at hl 1 rfl) ?_
              refine z_calli (va_runV (As := [.int b]) (rest := []) ⟨hx, hb, hml, hown, hts⟩ ((c_X11_firstStill l hG x N b hn) A) (cwV 1 hts gX11_noise_X11_firstStill rfl rfl rfl (by decide +kernel) ⟨Nat.le_of_ble_eq_true rfl, Nat.le_of_ble_eq_true rfl⟩) (z_pV hI hK hN (z_recv hK hI (zo0 hG) rfl)) rfl rfl hl.1 rfl (lv_room (Nat.le_of_ble_eq_true rfl)) dX11_noise_57 ⟨Nat.zero_le _, Nat.zero_le _⟩) hI (fun r_57 u H locs hw hI => ?_)
              obtain ⟨rfl, rfl⟩ := hw
              exact z_iret hx hb hr hlocks hI (Or.inr (Or.inr ⟨Or.inr c_6, c_19, n, by omega, rfl, rfl, if_neg c_36⟩)) dX11_noise_60
            · skip
              refine lv_aload_n hx hb dX11_noise_39 rfl (lv_at hl 0 rfl) ?_
              refine z_get (C := RX11) (T := TX11) (N := 14) (ci := 11) (v := .ref (za G 1)) hx hb hts hin11 hown hK hI (zo0 hG) rfl 0 (by decide) wF12 (fun _ h9 => h9) rfl dX11_noise_40 ?_
              refine lv_aload_n hx hb dX11_noise_43 rfl (lv_at hl 0 rfl) ?_
              refine lv_iload_n hx hb dX11_noise_44 rfl (lv_at hl 1 rfl) ?_
              refine lv_iload_n hx hb dX11_noise_45 rfl (lv_at hl 2 rfl) ?_
              refine z_calli (va_runV (As := [.int b, .int (nI n)]) (rest := [.ref (za G 1)]) ⟨hx, hb, hml, hown, hts⟩ ((c_X11_talkersIn l hG x N n b hn (by omega)) A) (cwV 2 hts gX11_noise_X11_talkersIn rfl rfl rfl (by decide +kernel) ⟨Nat.le_of_ble_eq_true rfl, Nat.le_of_ble_eq_true rfl⟩) (z_pV hI hK hN (z_recv hK hI (zo0 hG) rfl)) rfl rfl hl.1 rfl (lv_room (Nat.le_of_ble_eq_true rfl)) dX11_noise_46 ⟨Nat.zero_le _, Nat.zero_le _⟩) hI (fun r_46 u H locs hw hI => ?_)
              obtain ⟨rfl, rfl⟩ := hw
              refine z_calli (va_runV (As := [.int (ziter (fun y => zlater G x y (x.1 (zrix (x.1 1 6)) 6) (-1)) n b)]) (rest := []) ⟨hx, hb, hml, hown, hts⟩ ((c_X7_loudness l hG x N (ziter (fun y => zlater G x y (x.1 (zrix (x.1 1 6)) 6) (-1)) n b) hn) A) (cwV 1 hts gX11_noise_X7_loudness rfl rfl rfl (by decide +kernel) ⟨Nat.le_of_ble_eq_true rfl, Nat.le_of_ble_eq_true rfl⟩) (z_pV hI hK hN (z_recv hK hI (zo1 hG) rfl)) rfl rfl hl.1 rfl (lv_room (Nat.le_of_ble_eq_true rfl)) dX11_noise_49 ⟨Nat.zero_le _, Nat.zero_le _⟩) hI (fun r_49 u H locs hw hI => ?_)
              obtain ⟨rfl, rfl⟩ := hw
              refine lv_goto (tgt := 60) hx hb dX11_noise_52 (by decide) ?_
              exact z_iret hx hb hr hlocks hI (Or.inr (Or.inr ⟨Or.inr c_6, c_19, n, by omega, rfl, rfl, if_pos c_36⟩)) dX11_noise_60
          · skip
            refine lv_bipush (v := (-2)) hx hb dX11_noise_32 rfl ?_
            exact z_iret hx hb hr hlocks hI (Or.inr (Or.inl ⟨Or.inr c_6, fun h => c_29 (z_nlt h.2.2), rfl, rfl⟩)) dX11_noise_34
    · skip
      refine lv_iconst (v := (-1)) hx hb dX11_noise_9 rfl ?_
      exact z_iret hx hb hr hlocks hI (Or.inl ⟨fun h => h.elim c_1 c_6, rfl, rfl⟩) dX11_noise_10
