set_option maxHeartbeats 1000000 in
set_option maxRecDepth 100000 in
theorem c_X12_plainWorth (l : Launch) {G : zG} (hG : zOK G) (x : zX) (N F C a b : Nat) (r9 : Int32) (hr0 : zRef x N) (hcs : zCls x F C) (ha9 : a < 8) (hb9 : b < 8) (hkd : ∃ k, k < 7 ∧ x.1 78 a = nI k) : zMi l yX12_plainWorth wsX12_plainWorth { frames := 3, cells := 0, slots := 0, locals := 79 } G [.ref (za G 77), .int (nI a), .int (nI b), .int r9] x (fun (r : Int32) (u : zX) => zQ97 x u ∧ zpwR x N F C a b r9 = r) := by
  intro A
  refine zBody (cc := cX12_plainWorth) (maxL := 6) (ret := (some .int)) (by decide) rfl (Nat.le_of_ble_eq_true rfl) ?_
  intro p e s m below meth c hx hb hml hown hts hr hlocks hK hN hI ls hl
  have hown : s.vm.findClass RX12 = some m.cls := hown
  have hl : lv_has ls 6 [(0, .ref (za G 77)), (1, .int (nI a)), (2, .int (nI b)), (3, .int r9)] := hl
  have hin12 : ∀ w ∈ wsX120, w ∈ wsX12_plainWorth := (fun _ h => List.mem_cons_of_mem _ (List.mem_append_right _ (h)))
  have wF16 := hts (.fieldLink RX12 16 "WhoSitsByModel" "kind" "[I") (z_mem 1 rfl)
  have wF26 := hts (.fieldLink RX12 26 "WhoSitsByModel" "knows" "[I") (z_mem 2 rfl)
  have wF20 := hts (.fieldLink RX12 20 "WhoSitsByModel" "v" "[I") (z_mem 3 rfl)
  have wF23 := hts (.fieldLink RX12 23 "WhoSitsByModel" "talks" "[I") (z_mem 4 rfl)
  have wF32 := hts (.fieldLink RX12 32 "WhoSitsByModel" "names" "[I") (z_mem 5 rfl)
  refine lv_aload_n hx hb dX12_plainWorth_0 rfl (lv_at hl 0 rfl) ?_
  refine lv_iconst (v := (nI 0)) hx hb dX12_plainWorth_1 rfl ?_
  refine lv_iload_n hx hb dX12_plainWorth_2 rfl (lv_at hl 1 rfl) ?_
  refine lv_iload_n hx hb dX12_plainWorth_3 rfl (lv_at hl 2 rfl) ?_
  refine lv_iload_n hx hb dX12_plainWorth_4 rfl (lv_at hl 3 rfl) ?_
  refine z_calli (va_runV (As := [.int (nI 0), .int (nI a), .int (nI b), .int r9]) (rest := []) ⟨hx, hb, hml, hown, hts⟩ ((c_X12_sumOf l hG x F C a b (nI 0) r9 hcs ha9 hb9 (by decide)) A) (cwV 4 hts gX12_plainWorth_X12_sumOf rfl rfl rfl (by decide +kernel) ⟨Nat.le_of_ble_eq_true rfl, Nat.le_of_ble_eq_true rfl⟩) (z_pV hI hK hN (z_recv hK hI (zo77 hG) rfl)) rfl rfl hl.1 rfl (lv_room (Nat.le_of_ble_eq_true rfl)) dX12_plainWorth_5 ⟨Nat.zero_le _, Nat.zero_le _⟩) hI (fun r_5 u H locs hw hI => ?_)
  obtain ⟨hq_5, rfl⟩ := hw
  have hqq_5 : zQ97 x u := hq_5
  refine lv_aload_n hx hb dX12_plainWorth_8 rfl (lv_at hl 0 rfl) ?_
  refine lv_iconst (v := (nI 1)) hx hb dX12_plainWorth_9 rfl ?_
  refine lv_iload_n hx hb dX12_plainWorth_10 rfl (lv_at hl 1 rfl) ?_
  refine lv_iload_n hx hb dX12_plainWorth_11 rfl (lv_at hl 2 rfl) ?_
  refine lv_iload_n hx hb dX12_plainWorth_12 rfl (lv_at hl 3 rfl) ?_
  refine z_calli (va_runV (As := [.int (nI 1), .int (nI a), .int (nI b), .int r9]) (rest := [.int (zsuR x F (nI 0) (zfr9 x a b r9) C)]) ⟨hx, hb, hml, hown, hts⟩ ((c_X12_sumOf l hG u F C a b (nI 1) r9 (zCls_q hqq_5.q9 hcs) ha9 hb9 (by decide)) A) (cwV 4 hts gX12_plainWorth_X12_sumOf rfl rfl rfl (by decide +kernel) ⟨Nat.le_of_ble_eq_true rfl, Nat.le_of_ble_eq_true rfl⟩) (z_pV hI hK hN (z_recv hK hI (zo77 hG) rfl)) rfl rfl hl.1 rfl (lv_room (Nat.le_of_ble_eq_true rfl)) dX12_plainWorth_13 ⟨Nat.zero_le _, Nat.zero_le _⟩) hI (fun r_13 u H locs hw hI => ?_)
  obtain ⟨hq_13, rfl⟩ := hw
  rw [zsuR_q hqq_5.q9, zfr9_q hqq_5.q9]
  have hqq_13 : zQ97 x u := hqq_5.t hq_13
  refine lv_isub hx hb dX12_plainWorth_16 ?_
  refine lv_istore (lv' := [(4, .int ((zsuR x F (nI 0) (zfr9 x a b r9) C) - (zsuR x F (nI 1) (zfr9 x a b r9) C))), (0, .ref (za G 77)), (1, .int (nI a)), (2, .int (nI b)), (3, .int r9)]) hx hb dX12_plainWorth_17 hl (by decide) rfl (fun ls hl => ?_)
  refine lv_aload_n hx hb dX12_plainWorth_19 rfl (lv_at hl 1 rfl) ?_
  refine z_get (C := RX12) (T := TX12) (N := 51) (ci := 12) (v := .ref (za G 78)) hx hb hts hin12 hown hK hI (zo77 hG) rfl 2 (by decide) wF16 (fun _ h9 => h9) rfl dX12_plainWorth_20 ?_
  refine lv_iload_n hx hb dX12_plainWorth_23 rfl (lv_at hl 2 rfl) ?_
  obtain ⟨kk, hkk, hk9⟩ := hkd
  rcases (show kk = 0 ∨ kk = 1 ∨ kk = 2 ∨ kk = 3 ∨ kk = 4 ∨ kk = 5 ∨ kk = 6 by omega) with rfl | rfl | rfl | rfl | rfl | rfl | rfl
  · skip
    refine z_iald (v := (nI 0)) hx hb hK hI (zo78 hG) a rfl (by omega) (by decide) ((congrFun (hqq_13.1 78 (by decide)) a).trans hk9) dX12_plainWorth_24 ?_
    refine lv_istore (lv' := [(5, .int (nI 0)), (4, .int ((zsuR x F (nI 0) (zfr9 x a b r9) C) - (zsuR x F (nI 1) (zfr9 x a b r9) C))), (0, .ref (za G 77)), (1, .int (nI a)), (2, .int (nI b)), (3, .int r9)]) hx hb dX12_plainWorth_25 hl (by decide) rfl (fun ls hl => ?_)
    refine lv_iload hx hb dX12_plainWorth_27 (lv_at hl 0 rfl) ?_
    refine lv_iconst (v := (nI 1)) hx hb dX12_plainWorth_29 rfl ?_
    refine lv_icmp_eq (tgt := 39) hx hb dX12_plainWorth_30 (by decide) (fun c_30 => absurd c_30 (by decide)) (fun c_30 => ?_)
    refine lv_iload hx hb dX12_plainWorth_33 (lv_at hl 0 rfl) ?_
    refine lv_iconst (v := (nI 4)) hx hb dX12_plainWorth_35 rfl ?_
    refine lv_icmp_ne (tgt := 69) hx hb dX12_plainWorth_36 (by decide) (fun c_36 => ?_) (fun c_36 => absurd c_36 (by decide))
    refine lv_iload hx hb dX12_plainWorth_69 (lv_at hl 0 rfl) ?_
    refine lv_iconst (v := (nI 4)) hx hb dX12_plainWorth_71 rfl ?_
    refine lv_icmp_ne (tgt := 99) hx hb dX12_plainWorth_72 (by decide) (fun c_72 => ?_) (fun c_72 => absurd c_72 (by decide))
    refine lv_iload hx hb dX12_plainWorth_99 (lv_at hl 0 rfl) ?_
    refine lv_iconst (v := (nI 2)) hx hb dX12_plainWorth_101 rfl ?_
    refine lv_icmp_eq (tgt := 111) hx hb dX12_plainWorth_102 (by decide) (fun c_102 => absurd c_102 (by decide)) (fun c_102 => ?_)
    refine lv_iload hx hb dX12_plainWorth_105 (lv_at hl 0 rfl) ?_
    refine lv_iconst (v := (nI 5)) hx hb dX12_plainWorth_107 rfl ?_
    refine lv_icmp_ne (tgt := 122) hx hb dX12_plainWorth_108 (by decide) (fun c_108 => ?_) (fun c_108 => absurd c_108 (by decide))
    refine lv_iload hx hb dX12_plainWorth_122 (lv_at hl 0 rfl) ?_
    refine lv_iconst (v := (nI 3)) hx hb dX12_plainWorth_124 rfl ?_
    refine lv_icmp_eq (tgt := 135) hx hb dX12_plainWorth_125 (by decide) (fun c_125 => absurd c_125 (by decide)) (fun c_125 => ?_)
    refine lv_iload hx hb dX12_plainWorth_128 (lv_at hl 0 rfl) ?_
    refine lv_bipush (v := (nI 6)) hx hb dX12_plainWorth_130 rfl ?_
    refine lv_icmp_ne (tgt := 160) hx hb dX12_plainWorth_132 (by decide) (fun c_132 => ?_) (fun c_132 => absurd c_132 (by decide))
    refine lv_iload hx hb dX12_plainWorth_160 (lv_at hl 0 rfl) ?_
    refine lv_bipush (v := (nI 6)) hx hb dX12_plainWorth_162 rfl ?_
    refine lv_icmp_ne (tgt := 192) hx hb dX12_plainWorth_164 (by decide) (fun c_164 => ?_) (fun c_164 => absurd c_164 (by decide))
    refine lv_iload hx hb dX12_plainWorth_192 (lv_at hl 1 rfl) ?_
    have z1 : ∀ n, zpw1 x a b n = n := fun n => if_neg (by rw [hk9]; decide)
    have z2 : ∀ n, zpw2 x N a b n = n := fun n => if_neg (by rw [hk9]; decide)
    have z3 : ∀ n, zpw3 x a n = n := fun n => if_neg (by rw [hk9]; decide)
    have z4 : ∀ n, zpw4 x a b n = n := fun n => if_neg (by rw [hk9]; decide)
    have z5 : ∀ n, zpw5 x a b n = n := fun n => if_neg (by rw [hk9]; decide)
    exact z_iret hx hb hr hlocks hI (⟨hqq_13, by unfold zpwR; rw [z1, z2, z3, z4, z5]⟩) dX12_plainWorth_194
  · skip
    refine z_iald (v := (nI 1)) hx hb hK hI (zo78 hG) a rfl (by omega) (by decide) ((congrFun (hqq_13.1 78 (by decide)) a).trans hk9) dX12_plainWorth_24 ?_
    refine lv_istore (lv' := [(5, .int (nI 1)), (4, .int ((zsuR x F (nI 0) (zfr9 x a b r9) C) - (zsuR x F (nI 1) (zfr9 x a b r9) C))), (0, .ref (za G 77)), (1, .int (nI a)), (2, .int (nI b)), (3, .int r9)]) hx hb dX12_plainWorth_25 hl (by decide) rfl (fun ls hl => ?_)
    refine lv_iload hx hb dX12_plainWorth_27 (lv_at hl 0 rfl) ?_
    refine lv_iconst (v := (nI 1)) hx hb dX12_plainWorth_29 rfl ?_
    refine lv_icmp_eq (tgt := 39) hx hb dX12_plainWorth_30 (by decide) (fun c_30 => ?_) (fun c_30 => absurd c_30 (by decide))
    refine lv_iload hx hb dX12_plainWorth_39 (lv_at hl 1 rfl) ?_
    refine lv_aload_n hx hb dX12_plainWorth_41 rfl (lv_at hl 2 rfl) ?_
    refine z_get (C := RX12) (T := TX12) (N := 51) (ci := 12) (v := .ref (za G 81)) hx hb hts hin12 hown hK hI (zo77 hG) rfl 5 (by decide) wF26 (fun _ h9 => h9) rfl dX12_plainWorth_42 ?_
    refine lv_iload_n hx hb dX12_plainWorth_45 rfl (lv_at hl 4 rfl) ?_
    refine z_iald (v := (x.1 81 b)) hx hb hK hI (zo81 hG) b rfl (by omega) (by decide) (congrFun (hqq_13.1 81 (by decide)) b) dX12_plainWorth_46 ?_
    refine lv_aload_n hx hb dX12_plainWorth_47 rfl (lv_at hl 2 rfl) ?_
    refine z_get (C := RX12) (T := TX12) (N := 51) (ci := 12) (v := .ref (za G 81)) hx hb hts hin12 hown hK hI (zo77 hG) rfl 5 (by decide) wF26 (fun _ h9 => h9) rfl dX12_plainWorth_48 ?_
    refine lv_iload_n hx hb dX12_plainWorth_51 rfl (lv_at hl 3 rfl) ?_
    refine z_iald (v := (x.1 81 a)) hx hb hK hI (zo81 hG) a rfl (by omega) (by decide) (congrFun (hqq_13.1 81 (by decide)) a) dX12_plainWorth_52 ?_
    refine lv_icmp_ge (tgt := 65) hx hb dX12_plainWorth_53 (by decide) (fun c_53 => ?_) (fun c_53 => ?_)
    · skip
      refine lv_iconst (v := (nI 0)) hx hb dX12_plainWorth_65 rfl ?_
      refine lv_iadd hx hb dX12_plainWorth_66 ?_
      refine lv_istore (lv' := [(4, .int (((zsuR x F (nI 0) (zfr9 x a b r9) C) - (zsuR x F (nI 1) (zfr9 x a b r9) C)) + (nI 0))), (5, .int (nI 1)), (0, .ref (za G 77)), (1, .int (nI a)), (2, .int (nI b)), (3, .int r9)]) hx hb dX12_plainWorth_67 hl (by decide) rfl (fun ls hl => ?_)
      refine lv_iload hx hb dX12_plainWorth_69 (lv_at hl 1 rfl) ?_
      refine lv_iconst (v := (nI 4)) hx hb dX12_plainWorth_71 rfl ?_
      refine lv_icmp_ne (tgt := 99) hx hb dX12_plainWorth_72 (by decide) (fun c_72 => ?_) (fun c_72 => absurd c_72 (by decide))
      refine lv_iload hx hb dX12_plainWorth_99 (lv_at hl 1 rfl) ?_
      refine lv_iconst (v := (nI 2)) hx hb dX12_plainWorth_101 rfl ?_
      refine lv_icmp_eq (tgt := 111) hx hb dX12_plainWorth_102 (by decide) (fun c_102 => absurd c_102 (by decide)) (fun c_102 => ?_)
      refine lv_iload hx hb dX12_plainWorth_105 (lv_at hl 1 rfl) ?_
      refine lv_iconst (v := (nI 5)) hx hb dX12_plainWorth_107 rfl ?_
      refine lv_icmp_ne (tgt := 122) hx hb dX12_plainWorth_108 (by decide) (fun c_108 => ?_) (fun c_108 => absurd c_108 (by decide))
      refine lv_iload hx hb dX12_plainWorth_122 (lv_at hl 1 rfl) ?_
      refine lv_iconst (v := (nI 3)) hx hb dX12_plainWorth_124 rfl ?_
      refine lv_icmp_eq (tgt := 135) hx hb dX12_plainWorth_125 (by decide) (fun c_125 => absurd c_125 (by decide)) (fun c_125 => ?_)
      refine lv_iload hx hb dX12_plainWorth_128 (lv_at hl 1 rfl) ?_
      refine lv_bipush (v := (nI 6)) hx hb dX12_plainWorth_130 rfl ?_
      refine lv_icmp_ne (tgt := 160) hx hb dX12_plainWorth_132 (by decide) (fun c_132 => ?_) (fun c_132 => absurd c_132 (by decide))
      refine lv_iload hx hb dX12_plainWorth_160 (lv_at hl 1 rfl) ?_
      refine lv_bipush (v := (nI 6)) hx hb dX12_plainWorth_162 rfl ?_
      refine lv_icmp_ne (tgt := 192) hx hb dX12_plainWorth_164 (by decide) (fun c_164 => ?_) (fun c_164 => absurd c_164 (by decide))
      refine lv_iload hx hb dX12_plainWorth_192 (lv_at hl 0 rfl) ?_
      have z1 : ∀ n, zpw1 x a b n = n + (nI 0) := fun n => (if_pos (Or.inl hk9)).trans (congrArg (n + ·) (if_pos c_53))
      have z2 : ∀ n, zpw2 x N a b n = n := fun n => if_neg (by rw [hk9]; decide)
      have z3 : ∀ n, zpw3 x a n = n := fun n => if_neg (by rw [hk9]; decide)
      have z4 : ∀ n, zpw4 x a b n = n := fun n => if_neg (by rw [hk9]; decide)
      have z5 : ∀ n, zpw5 x a b n = n := fun n => if_neg (by rw [hk9]; decide)
      exact z_iret hx hb hr hlocks hI (⟨hqq_13, by unfold zpwR; rw [z1, z2, z3, z4, z5]⟩) dX12_plainWorth_194
    · skip
      refine lv_aload_n hx hb dX12_plainWorth_56 rfl (lv_at hl 2 rfl) ?_
      refine z_get (C := RX12) (T := TX12) (N := 51) (ci := 12) (v := .ref (za G 79)) hx hb hts hin12 hown hK hI (zo77 hG) rfl 3 (by decide) wF20 (fun _ h9 => h9) rfl dX12_plainWorth_57 ?_
      refine lv_iload_n hx hb dX12_plainWorth_60 rfl (lv_at hl 3 rfl) ?_
      refine z_iald (v := (x.1 79 a)) hx hb hK hI (zo79 hG) a rfl (by omega) (by decide) (congrFun (hqq_13.1 79 (by decide)) a) dX12_plainWorth_61 ?_
      refine lv_goto (tgt := 66) hx hb dX12_plainWorth_62 (by decide) ?_
      refine lv_iadd hx hb dX12_plainWorth_66 ?_
      refine lv_istore (lv' := [(4, .int (((zsuR x F (nI 0) (zfr9 x a b r9) C) - (zsuR x F (nI 1) (zfr9 x a b r9) C)) + (x.1 79 a))), (5, .int (nI 1)), (0, .ref (za G 77)), (1, .int (nI a)), (2, .int (nI b)), (3, .int r9)]) hx hb dX12_plainWorth_67 hl (by decide) rfl (fun ls hl => ?_)
      refine lv_iload hx hb dX12_plainWorth_69 (lv_at hl 1 rfl) ?_
      refine lv_iconst (v := (nI 4)) hx hb dX12_plainWorth_71 rfl ?_
      refine lv_icmp_ne (tgt := 99) hx hb dX12_plainWorth_72 (by decide) (fun c_72 => ?_) (fun c_72 => absurd c_72 (by decide))
      refine lv_iload hx hb dX12_plainWorth_99 (lv_at hl 1 rfl) ?_
      refine lv_iconst (v := (nI 2)) hx hb dX12_plainWorth_101 rfl ?_
      refine lv_icmp_eq (tgt := 111) hx hb dX12_plainWorth_102 (by decide) (fun c_102 => absurd c_102 (by decide)) (fun c_102 => ?_)
      refine lv_iload hx hb dX12_plainWorth_105 (lv_at hl 1 rfl) ?_
      refine lv_iconst (v := (nI 5)) hx hb dX12_plainWorth_107 rfl ?_
      refine lv_icmp_ne (tgt := 122) hx hb dX12_plainWorth_108 (by decide) (fun c_108 => ?_) (fun c_108 => absurd c_108 (by decide))
      refine lv_iload hx hb dX12_plainWorth_122 (lv_at hl 1 rfl) ?_
      refine lv_iconst (v := (nI 3)) hx hb dX12_plainWorth_124 rfl ?_
      refine lv_icmp_eq (tgt := 135) hx hb dX12_plainWorth_125 (by decide) (fun c_125 => absurd c_125 (by decide)) (fun c_125 => ?_)
      refine lv_iload hx hb dX12_plainWorth_128 (lv_at hl 1 rfl) ?_
      refine lv_bipush (v := (nI 6)) hx hb dX12_plainWorth_130 rfl ?_
      refine lv_icmp_ne (tgt := 160) hx hb dX12_plainWorth_132 (by decide) (fun c_132 => ?_) (fun c_132 => absurd c_132 (by decide))
      refine lv_iload hx hb dX12_plainWorth_160 (lv_at hl 1 rfl) ?_
      refine lv_bipush (v := (nI 6)) hx hb dX12_plainWorth_162 rfl ?_
      refine lv_icmp_ne (tgt := 192) hx hb dX12_plainWorth_164 (by decide) (fun c_164 => ?_) (fun c_164 => absurd c_164 (by decide))
      refine lv_iload hx hb dX12_plainWorth_192 (lv_at hl 0 rfl) ?_
      have z1 : ∀ n, zpw1 x a b n = n + (x.1 79 a) := fun n => (if_pos (Or.inl hk9)).trans (congrArg (n + ·) (if_neg c_53))
      have z2 : ∀ n, zpw2 x N a b n = n := fun n => if_neg (by rw [hk9]; decide)
      have z3 : ∀ n, zpw3 x a n = n := fun n => if_neg (by rw [hk9]; decide)
      have z4 : ∀ n, zpw4 x a b n = n := fun n => if_neg (by rw [hk9]; decide)
      have z5 : ∀ n, zpw5 x a b n = n := fun n => if_neg (by rw [hk9]; decide)
      exact z_iret hx hb hr hlocks hI (⟨hqq_13, by unfold zpwR; rw [z1, z2, z3, z4, z5]⟩) dX12_plainWorth_194
  · skip
    refine z_iald (v := (nI 2)) hx hb hK hI (zo78 hG) a rfl (by omega) (by decide) ((congrFun (hqq_13.1 78 (by decide)) a).trans hk9) dX12_plainWorth_24 ?_
    refine lv_istore (lv' := [(5, .int (nI 2)), (4, .int ((zsuR x F (nI 0) (zfr9 x a b r9) C) - (zsuR x F (nI 1) (zfr9 x a b r9) C))), (0, .ref (za G 77)), (1, .int (nI a)), (2, .int (nI b)), (3, .int r9)]) hx hb dX12_plainWorth_25 hl (by decide) rfl (fun ls hl => ?_)
    refine lv_iload hx hb dX12_plainWorth_27 (lv_at hl 0 rfl) ?_
    refine lv_iconst (v := (nI 1)) hx hb dX12_plainWorth_29 rfl ?_
    refine lv_icmp_eq (tgt := 39) hx hb dX12_plainWorth_30 (by decide) (fun c_30 => absurd c_30 (by decide)) (fun c_30 => ?_)
    refine lv_iload hx hb dX12_plainWorth_33 (lv_at hl 0 rfl) ?_
    refine lv_iconst (v := (nI 4)) hx hb dX12_plainWorth_35 rfl ?_
    refine lv_icmp_ne (tgt := 69) hx hb dX12_plainWorth_36 (by decide) (fun c_36 => ?_) (fun c_36 => absurd c_36 (by decide))
    refine lv_iload hx hb dX12_plainWorth_69 (lv_at hl 0 rfl) ?_
    refine lv_iconst (v := (nI 4)) hx hb dX12_plainWorth_71 rfl ?_
    refine lv_icmp_ne (tgt := 99) hx hb dX12_plainWorth_72 (by decide) (fun c_72 => ?_) (fun c_72 => absurd c_72 (by decide))
    refine lv_iload hx hb dX12_plainWorth_99 (lv_at hl 0 rfl) ?_
    refine lv_iconst (v := (nI 2)) hx hb dX12_plainWorth_101 rfl ?_
    refine lv_icmp_eq (tgt := 111) hx hb dX12_plainWorth_102 (by decide) (fun c_102 => ?_) (fun c_102 => absurd c_102 (by decide))
    refine lv_iload hx hb dX12_plainWorth_111 (lv_at hl 1 rfl) ?_
    refine lv_aload_n hx hb dX12_plainWorth_113 rfl (lv_at hl 2 rfl) ?_
    refine z_get (C := RX12) (T := TX12) (N := 51) (ci := 12) (v := .ref (za G 80)) hx hb hts hin12 hown hK hI (zo77 hG) rfl 4 (by decide) wF23 (fun _ h9 => h9) rfl dX12_plainWorth_114 ?_
    refine lv_iload_n hx hb dX12_plainWorth_117 rfl (lv_at hl 3 rfl) ?_
    refine z_iald (v := (x.1 80 a)) hx hb hK hI (zo80 hG) a rfl (by omega) (by decide) (congrFun (hqq_13.1 80 (by decide)) a) dX12_plainWorth_118 ?_
    refine lv_isub hx hb dX12_plainWorth_119 ?_
    refine lv_istore (lv' := [(4, .int (((zsuR x F (nI 0) (zfr9 x a b r9) C) - (zsuR x F (nI 1) (zfr9 x a b r9) C)) - (x.1 80 a))), (5, .int (nI 2)), (0, .ref (za G 77)), (1, .int (nI a)), (2, .int (nI b)), (3, .int r9)]) hx hb dX12_plainWorth_120 hl (by decide) rfl (fun ls hl => ?_)
    refine lv_iload hx hb dX12_plainWorth_122 (lv_at hl 1 rfl) ?_
    refine lv_iconst (v := (nI 3)) hx hb dX12_plainWorth_124 rfl ?_
    refine lv_icmp_eq (tgt := 135) hx hb dX12_plainWorth_125 (by decide) (fun c_125 => absurd c_125 (by decide)) (fun c_125 => ?_)
    refine lv_iload hx hb dX12_plainWorth_128 (lv_at hl 1 rfl) ?_
    refine lv_bipush (v := (nI 6)) hx hb dX12_plainWorth_130 rfl ?_
    refine lv_icmp_ne (tgt := 160) hx hb dX12_plainWorth_132 (by decide) (fun c_132 => ?_) (fun c_132 => absurd c_132 (by decide))
    refine lv_iload hx hb dX12_plainWorth_160 (lv_at hl 1 rfl) ?_
    refine lv_bipush (v := (nI 6)) hx hb dX12_plainWorth_162 rfl ?_
    refine lv_icmp_ne (tgt := 192) hx hb dX12_plainWorth_164 (by decide) (fun c_164 => ?_) (fun c_164 => absurd c_164 (by decide))
    refine lv_iload hx hb dX12_plainWorth_192 (lv_at hl 0 rfl) ?_
    have z1 : ∀ n, zpw1 x a b n = n := fun n => if_neg (by rw [hk9]; decide)
    have z2 : ∀ n, zpw2 x N a b n = n := fun n => if_neg (by rw [hk9]; decide)
    have z3 : ∀ n, zpw3 x a n = n - x.1 80 a := fun n => if_pos (Or.inl hk9)
    have z4 : ∀ n, zpw4 x a b n = n := fun n => if_neg (by rw [hk9]; decide)
    have z5 : ∀ n, zpw5 x a b n = n := fun n => if_neg (by rw [hk9]; decide)
    exact z_iret hx hb hr hlocks hI (⟨hqq_13, by unfold zpwR; rw [z1, z2, z3, z4, z5]⟩) dX12_plainWorth_194
  · skip
    refine z_iald (v := (nI 3)) hx hb hK hI (zo78 hG) a rfl (by omega) (by decide) ((congrFun (hqq_13.1 78 (by decide)) a).trans hk9) dX12_plainWorth_24 ?_
    refine lv_istore (lv' := [(5, .int (nI 3)), (4, .int ((zsuR x F (nI 0) (zfr9 x a b r9) C) - (zsuR x F (nI 1) (zfr9 x a b r9) C))), (0, .ref (za G 77)), (1, .int (nI a)), (2, .int (nI b)), (3, .int r9)]) hx hb dX12_plainWorth_25 hl (by decide) rfl (fun ls hl => ?_)
    refine lv_iload hx hb dX12_plainWorth_27 (lv_at hl 0 rfl) ?_
    refine lv_iconst (v := (nI 1)) hx hb dX12_plainWorth_29 rfl ?_
    refine lv_icmp_eq (tgt := 39) hx hb dX12_plainWorth_30 (by decide) (fun c_30 => absurd c_30 (by decide)) (fun c_30 => ?_)
    refine lv_iload hx hb dX12_plainWorth_33 (lv_at hl 0 rfl) ?_
    refine lv_iconst (v := (nI 4)) hx hb dX12_plainWorth_35 rfl ?_
    refine lv_icmp_ne (tgt := 69) hx hb dX12_plainWorth_36 (by decide) (fun c_36 => ?_) (fun c_36 => absurd c_36 (by decide))
    refine lv_iload hx hb dX12_plainWorth_69 (lv_at hl 0 rfl) ?_
    refine lv_iconst (v := (nI 4)) hx hb dX12_plainWorth_71 rfl ?_
    refine lv_icmp_ne (tgt := 99) hx hb dX12_plainWorth_72 (by decide) (fun c_72 => ?_) (fun c_72 => absurd c_72 (by decide))
    refine lv_iload hx hb dX12_plainWorth_99 (lv_at hl 0 rfl) ?_
    refine lv_iconst (v := (nI 2)) hx hb dX12_plainWorth_101 rfl ?_
    refine lv_icmp_eq (tgt := 111) hx hb dX12_plainWorth_102 (by decide) (fun c_102 => absurd c_102 (by decide)) (fun c_102 => ?_)
    refine lv_iload hx hb dX12_plainWorth_105 (lv_at hl 0 rfl) ?_
    refine lv_iconst (v := (nI 5)) hx hb dX12_plainWorth_107 rfl ?_
    refine lv_icmp_ne (tgt := 122) hx hb dX12_plainWorth_108 (by decide) (fun c_108 => ?_) (fun c_108 => absurd c_108 (by decide))
    refine lv_iload hx hb dX12_plainWorth_122 (lv_at hl 0 rfl) ?_
    refine lv_iconst (v := (nI 3)) hx hb dX12_plainWorth_124 rfl ?_
    refine lv_icmp_eq (tgt := 135) hx hb dX12_plainWorth_125 (by decide) (fun c_125 => ?_) (fun c_125 => absurd c_125 (by decide))
    refine lv_iload hx hb dX12_plainWorth_135 (lv_at hl 1 rfl) ?_
    refine lv_aload_n hx hb dX12_plainWorth_137 rfl (lv_at hl 2 rfl) ?_
    refine z_get (C := RX12) (T := TX12) (N := 51) (ci := 12) (v := .ref (za G 83)) hx hb hts hin12 hown hK hI (zo77 hG) rfl 7 (by decide) wF32 (fun _ h9 => h9) rfl dX12_plainWorth_138 ?_
    refine lv_iload_n hx hb dX12_plainWorth_141 rfl (lv_at hl 4 rfl) ?_
    refine z_iald (v := (x.1 83 b)) hx hb hK hI (zo83 hG) b rfl (by omega) (by decide) (congrFun (hqq_13.1 83 (by decide)) b) dX12_plainWorth_142 ?_
    refine lv_iload_n hx hb dX12_plainWorth_143 rfl (lv_at hl 3 rfl) ?_
    refine lv_icmp_ne (tgt := 156) hx hb dX12_plainWorth_144 (by decide) (fun c_144 => ?_) (fun c_144 => ?_)
    · skip
      refine lv_iconst (v := (nI 0)) hx hb dX12_plainWorth_156 rfl ?_
      refine lv_iadd hx hb dX12_plainWorth_157 ?_
      refine lv_istore (lv' := [(4, .int (((zsuR x F (nI 0) (zfr9 x a b r9) C) - (zsuR x F (nI 1) (zfr9 x a b r9) C)) + (nI 0))), (5, .int (nI 3)), (0, .ref (za G 77)), (1, .int (nI a)), (2, .int (nI b)), (3, .int r9)]) hx hb dX12_plainWorth_158 hl (by decide) rfl (fun ls hl => ?_)
      refine lv_iload hx hb dX12_plainWorth_160 (lv_at hl 1 rfl) ?_
      refine lv_bipush (v := (nI 6)) hx hb dX12_plainWorth_162 rfl ?_
      refine lv_icmp_ne (tgt := 192) hx hb dX12_plainWorth_164 (by decide) (fun c_164 => ?_) (fun c_164 => absurd c_164 (by decide))
      refine lv_iload hx hb dX12_plainWorth_192 (lv_at hl 0 rfl) ?_
      have z1 : ∀ n, zpw1 x a b n = n := fun n => if_neg (by rw [hk9]; decide)
      have z2 : ∀ n, zpw2 x N a b n = n := fun n => if_neg (by rw [hk9]; decide)
      have z3 : ∀ n, zpw3 x a n = n := fun n => if_neg (by rw [hk9]; decide)
      have z4 : ∀ n, zpw4 x a b n = n + (nI 0) := fun n => (if_pos (Or.inl hk9)).trans (congrArg (n + ·) (if_neg c_144))
      have z5 : ∀ n, zpw5 x a b n = n := fun n => if_neg (by rw [hk9]; decide)
      exact z_iret hx hb hr hlocks hI (⟨hqq_13, by unfold zpwR; rw [z1, z2, z3, z4, z5]⟩) dX12_plainWorth_194
    · skip
      refine lv_aload_n hx hb dX12_plainWorth_147 rfl (lv_at hl 2 rfl) ?_
      refine z_get (C := RX12) (T := TX12) (N := 51) (ci := 12) (v := .ref (za G 79)) hx hb hts hin12 hown hK hI (zo77 hG) rfl 3 (by decide) wF20 (fun _ h9 => h9) rfl dX12_plainWorth_148 ?_
      refine lv_iload_n hx hb dX12_plainWorth_151 rfl (lv_at hl 3 rfl) ?_
      refine z_iald (v := (x.1 79 a)) hx hb hK hI (zo79 hG) a rfl (by omega) (by decide) (congrFun (hqq_13.1 79 (by decide)) a) dX12_plainWorth_152 ?_
      refine lv_goto (tgt := 157) hx hb dX12_plainWorth_153 (by decide) ?_
      refine lv_iadd hx hb dX12_plainWorth_157 ?_
      refine lv_istore (lv' := [(4, .int (((zsuR x F (nI 0) (zfr9 x a b r9) C) - (zsuR x F (nI 1) (zfr9 x a b r9) C)) + (x.1 79 a))), (5, .int (nI 3)), (0, .ref (za G 77)), (1, .int (nI a)), (2, .int (nI b)), (3, .int r9)]) hx hb dX12_plainWorth_158 hl (by decide) rfl (fun ls hl => ?_)
      refine lv_iload hx hb dX12_plainWorth_160 (lv_at hl 1 rfl) ?_
      refine lv_bipush (v := (nI 6)) hx hb dX12_plainWorth_162 rfl ?_
      refine lv_icmp_ne (tgt := 192) hx hb dX12_plainWorth_164 (by decide) (fun c_164 => ?_) (fun c_164 => absurd c_164 (by decide))
      refine lv_iload hx hb dX12_plainWorth_192 (lv_at hl 0 rfl) ?_
      have z1 : ∀ n, zpw1 x a b n = n := fun n => if_neg (by rw [hk9]; decide)
      have z2 : ∀ n, zpw2 x N a b n = n := fun n => if_neg (by rw [hk9]; decide)
      have z3 : ∀ n, zpw3 x a n = n := fun n => if_neg (by rw [hk9]; decide)
      have z4 : ∀ n, zpw4 x a b n = n + (x.1 79 a) := fun n => (if_pos (Or.inl hk9)).trans (congrArg (n + ·) (if_pos c_144))
      have z5 : ∀ n, zpw5 x a b n = n := fun n => if_neg (by rw [hk9]; decide)
      exact z_iret hx hb hr hlocks hI (⟨hqq_13, by unfold zpwR; rw [z1, z2, z3, z4, z5]⟩) dX12_plainWorth_194
  · skip
    refine z_iald (v := (nI 4)) hx hb hK hI (zo78 hG) a rfl (by omega) (by decide) ((congrFun (hqq_13.1 78 (by decide)) a).trans hk9) dX12_plainWorth_24 ?_
    refine lv_istore (lv' := [(5, .int (nI 4)), (4, .int ((zsuR x F (nI 0) (zfr9 x a b r9) C) - (zsuR x F (nI 1) (zfr9 x a b r9) C))), (0, .ref (za G 77)), (1, .int (nI a)), (2, .int (nI b)), (3, .int r9)]) hx hb dX12_plainWorth_25 hl (by decide) rfl (fun ls hl => ?_)
    refine lv_iload hx hb dX12_plainWorth_27 (lv_at hl 0 rfl) ?_
    refine lv_iconst (v := (nI 1)) hx hb dX12_plainWorth_29 rfl ?_
    refine lv_icmp_eq (tgt := 39) hx hb dX12_plainWorth_30 (by decide) (fun c_30 => absurd c_30 (by decide)) (fun c_30 => ?_)
    refine lv_iload hx hb dX12_plainWorth_33 (lv_at hl 0 rfl) ?_
    refine lv_iconst (v := (nI 4)) hx hb dX12_plainWorth_35 rfl ?_
    refine lv_icmp_ne (tgt := 69) hx hb dX12_plainWorth_36 (by decide) (fun c_36 => absurd c_36 (by decide)) (fun c_36 => ?_)
    refine lv_iload hx hb dX12_plainWorth_39 (lv_at hl 1 rfl) ?_
    refine lv_aload_n hx hb dX12_plainWorth_41 rfl (lv_at hl 2 rfl) ?_
    refine z_get (C := RX12) (T := TX12) (N := 51) (ci := 12) (v := .ref (za G 81)) hx hb hts hin12 hown hK hI (zo77 hG) rfl 5 (by decide) wF26 (fun _ h9 => h9) rfl dX12_plainWorth_42 ?_
    refine lv_iload_n hx hb dX12_plainWorth_45 rfl (lv_at hl 4 rfl) ?_
    refine z_iald (v := (x.1 81 b)) hx hb hK hI (zo81 hG) b rfl (by omega) (by decide) (congrFun (hqq_13.1 81 (by decide)) b) dX12_plainWorth_46 ?_
    refine lv_aload_n hx hb dX12_plainWorth_47 rfl (lv_at hl 2 rfl) ?_
    refine z_get (C := RX12) (T := TX12) (N := 51) (ci := 12) (v := .ref (za G 81)) hx hb hts hin12 hown hK hI (zo77 hG) rfl 5 (by decide) wF26 (fun _ h9 => h9) rfl dX12_plainWorth_48 ?_
    refine lv_iload_n hx hb dX12_plainWorth_51 rfl (lv_at hl 3 rfl) ?_
    refine z_iald (v := (x.1 81 a)) hx hb hK hI (zo81 hG) a rfl (by omega) (by decide) (congrFun (hqq_13.1 81 (by decide)) a) dX12_plainWorth_52 ?_
    refine lv_icmp_ge (tgt := 65) hx hb dX12_plainWorth_53 (by decide) (fun c_53 => ?_) (fun c_53 => ?_)
    · skip
      refine lv_iconst (v := (nI 0)) hx hb dX12_plainWorth_65 rfl ?_
      refine lv_iadd hx hb dX12_plainWorth_66 ?_
      refine lv_istore (lv' := [(4, .int (((zsuR x F (nI 0) (zfr9 x a b r9) C) - (zsuR x F (nI 1) (zfr9 x a b r9) C)) + (nI 0))), (5, .int (nI 4)), (0, .ref (za G 77)), (1, .int (nI a)), (2, .int (nI b)), (3, .int r9)]) hx hb dX12_plainWorth_67 hl (by decide) rfl (fun ls hl => ?_)
      refine lv_iload hx hb dX12_plainWorth_69 (lv_at hl 1 rfl) ?_
      refine lv_iconst (v := (nI 4)) hx hb dX12_plainWorth_71 rfl ?_
      refine lv_icmp_ne (tgt := 99) hx hb dX12_plainWorth_72 (by decide) (fun c_72 => absurd c_72 (by decide)) (fun c_72 => ?_)
      refine lv_iload hx hb dX12_plainWorth_75 (lv_at hl 0 rfl) ?_
      refine lv_aload_n hx hb dX12_plainWorth_77 rfl (lv_at hl 2 rfl) ?_
      refine lv_iload_n hx hb dX12_plainWorth_78 rfl (lv_at hl 3 rfl) ?_
      refine lv_iload_n hx hb dX12_plainWorth_79 rfl (lv_at hl 4 rfl) ?_
      refine z_calli (va_runV (As := [.int (nI a), .int (nI b)]) (rest := [.int (((zsuR x F (nI 0) (zfr9 x a b r9) C) - (zsuR x F (nI 1) (zfr9 x a b r9) C)) + (nI 0))]) ⟨hx, hb, hml, hown, hts⟩ ((c_X12_isNamedBut l hG u N (nI a) (nI b) (zRef_q hqq_13.q9 hr0)) A) (cwV 2 hts gX12_plainWorth_X12_isNamedBut rfl rfl rfl (by decide +kernel) ⟨Nat.le_of_ble_eq_true rfl, Nat.le_of_ble_eq_true rfl⟩) (z_pV hI hK hN (z_recv hK hI (zo77 hG) rfl)) rfl rfl hl.1 rfl (lv_room (Nat.le_of_ble_eq_true rfl)) dX12_plainWorth_80 ⟨Nat.zero_le _, Nat.zero_le _⟩) hI (fun r_80 u H locs hw hI => ?_)
      obtain ⟨rfl, rfl⟩ := hw
      rw [show u.1 83 = x.1 83 from hqq_13.1 83 (by decide)]
      refine lv_if_eq (tgt := 90) hx hb dX12_plainWorth_83 (by decide) (fun c_83 => ?_) (fun c_83 => ?_)
      · skip
        rw [zb_0] at c_83
        refine lv_aload_n hx hb dX12_plainWorth_90 rfl (lv_at hl 2 rfl) ?_
        refine z_get (C := RX12) (T := TX12) (N := 51) (ci := 12) (v := .ref (za G 79)) hx hb hts hin12 hown hK hI (zo77 hG) rfl 3 (by decide) wF20 (fun _ h9 => h9) rfl dX12_plainWorth_91 ?_
        refine lv_iload_n hx hb dX12_plainWorth_94 rfl (lv_at hl 3 rfl) ?_
        refine z_iald (v := (x.1 79 a)) hx hb hK hI (zo79 hG) a rfl (by omega) (by decide) (congrFun (hqq_13.1 79 (by decide)) a) dX12_plainWorth_95 ?_
        refine lv_iadd hx hb dX12_plainWorth_96 ?_
        refine lv_istore (lv' := [(4, .int ((((zsuR x F (nI 0) (zfr9 x a b r9) C) - (zsuR x F (nI 1) (zfr9 x a b r9) C)) + (nI 0)) + (x.1 79 a))), (5, .int (nI 4)), (0, .ref (za G 77)), (1, .int (nI a)), (2, .int (nI b)), (3, .int r9)]) hx hb dX12_plainWorth_97 hl (by decide) rfl (fun ls hl => ?_)
        refine lv_iload hx hb dX12_plainWorth_99 (lv_at hl 1 rfl) ?_
        refine lv_iconst (v := (nI 2)) hx hb dX12_plainWorth_101 rfl ?_
        refine lv_icmp_eq (tgt := 111) hx hb dX12_plainWorth_102 (by decide) (fun c_102 => absurd c_102 (by decide)) (fun c_102 => ?_)
        refine lv_iload hx hb dX12_plainWorth_105 (lv_at hl 1 rfl) ?_
        refine lv_iconst (v := (nI 5)) hx hb dX12_plainWorth_107 rfl ?_
        refine lv_icmp_ne (tgt := 122) hx hb dX12_plainWorth_108 (by decide) (fun c_108 => ?_) (fun c_108 => absurd c_108 (by decide))
        refine lv_iload hx hb dX12_plainWorth_122 (lv_at hl 1 rfl) ?_
        refine lv_iconst (v := (nI 3)) hx hb dX12_plainWorth_124 rfl ?_
        refine lv_icmp_eq (tgt := 135) hx hb dX12_plainWorth_125 (by decide) (fun c_125 => absurd c_125 (by decide)) (fun c_125 => ?_)
        refine lv_iload hx hb dX12_plainWorth_128 (lv_at hl 1 rfl) ?_
        refine lv_bipush (v := (nI 6)) hx hb dX12_plainWorth_130 rfl ?_
        refine lv_icmp_ne (tgt := 160) hx hb dX12_plainWorth_132 (by decide) (fun c_132 => ?_) (fun c_132 => absurd c_132 (by decide))
        refine lv_iload hx hb dX12_plainWorth_160 (lv_at hl 1 rfl) ?_
        refine lv_bipush (v := (nI 6)) hx hb dX12_plainWorth_162 rfl ?_
        refine lv_icmp_ne (tgt := 192) hx hb dX12_plainWorth_164 (by decide) (fun c_164 => ?_) (fun c_164 => absurd c_164 (by decide))
        refine lv_iload hx hb dX12_plainWorth_192 (lv_at hl 0 rfl) ?_
        have z1 : ∀ n, zpw1 x a b n = n + (nI 0) := fun n => (if_pos (Or.inr hk9)).trans (congrArg (n + ·) (if_pos c_53))
        have z2 : ∀ n, zpw2 x N a b n = n + (x.1 79 a) := fun n => (if_pos hk9).trans (congrArg (n + ·) (if_neg c_83))
        have z3 : ∀ n, zpw3 x a n = n := fun n => if_neg (by rw [hk9]; decide)
        have z4 : ∀ n, zpw4 x a b n = n := fun n => if_neg (by rw [hk9]; decide)
        have z5 : ∀ n, zpw5 x a b n = n := fun n => if_neg (by rw [hk9]; decide)
        exact z_iret hx hb hr hlocks hI (⟨hqq_13, by unfold zpwR; rw [z1, z2, z3, z4, z5]⟩) dX12_plainWorth_194
      · skip
        rw [zb_0, Classical.not_not] at c_83
        refine lv_iconst (v := (nI 0)) hx hb dX12_plainWorth_86 rfl ?_
        refine lv_goto (tgt := 96) hx hb dX12_plainWorth_87 (by decide) ?_
        refine lv_iadd hx hb dX12_plainWorth_96 ?_
        refine lv_istore (lv' := [(4, .int ((((zsuR x F (nI 0) (zfr9 x a b r9) C) - (zsuR x F (nI 1) (zfr9 x a b r9) C)) + (nI 0)) + (nI 0))), (5, .int (nI 4)), (0, .ref (za G 77)), (1, .int (nI a)), (2, .int (nI b)), (3, .int r9)]) hx hb dX12_plainWorth_97 hl (by decide) rfl (fun ls hl => ?_)
        refine lv_iload hx hb dX12_plainWorth_99 (lv_at hl 1 rfl) ?_
        refine lv_iconst (v := (nI 2)) hx hb dX12_plainWorth_101 rfl ?_
        refine lv_icmp_eq (tgt := 111) hx hb dX12_plainWorth_102 (by decide) (fun c_102 => absurd c_102 (by decide)) (fun c_102 => ?_)
        refine lv_iload hx hb dX12_plainWorth_105 (lv_at hl 1 rfl) ?_
        refine lv_iconst (v := (nI 5)) hx hb dX12_plainWorth_107 rfl ?_
        refine lv_icmp_ne (tgt := 122) hx hb dX12_plainWorth_108 (by decide) (fun c_108 => ?_) (fun c_108 => absurd c_108 (by decide))
        refine lv_iload hx hb dX12_plainWorth_122 (lv_at hl 1 rfl) ?_
        refine lv_iconst (v := (nI 3)) hx hb dX12_plainWorth_124 rfl ?_
        refine lv_icmp_eq (tgt := 135) hx hb dX12_plainWorth_125 (by decide) (fun c_125 => absurd c_125 (by decide)) (fun c_125 => ?_)
        refine lv_iload hx hb dX12_plainWorth_128 (lv_at hl 1 rfl) ?_
        refine lv_bipush (v := (nI 6)) hx hb dX12_plainWorth_130 rfl ?_
        refine lv_icmp_ne (tgt := 160) hx hb dX12_plainWorth_132 (by decide) (fun c_132 => ?_) (fun c_132 => absurd c_132 (by decide))
        refine lv_iload hx hb dX12_plainWorth_160 (lv_at hl 1 rfl) ?_
        refine lv_bipush (v := (nI 6)) hx hb dX12_plainWorth_162 rfl ?_
        refine lv_icmp_ne (tgt := 192) hx hb dX12_plainWorth_164 (by decide) (fun c_164 => ?_) (fun c_164 => absurd c_164 (by decide))
        refine lv_iload hx hb dX12_plainWorth_192 (lv_at hl 0 rfl) ?_
        have z1 : ∀ n, zpw1 x a b n = n + (nI 0) := fun n => (if_pos (Or.inr hk9)).trans (congrArg (n + ·) (if_pos c_53))
        have z2 : ∀ n, zpw2 x N a b n = n + (nI 0) := fun n => (if_pos hk9).trans (congrArg (n + ·) (if_pos c_83))
        have z3 : ∀ n, zpw3 x a n = n := fun n => if_neg (by rw [hk9]; decide)
        have z4 : ∀ n, zpw4 x a b n = n := fun n => if_neg (by rw [hk9]; decide)
        have z5 : ∀ n, zpw5 x a b n = n := fun n => if_neg (by rw [hk9]; decide)
        exact z_iret hx hb hr hlocks hI (⟨hqq_13, by unfold zpwR; rw [z1, z2, z3, z4, z5]⟩) dX12_plainWorth_194
    · skip
      refine lv_aload_n hx hb dX12_plainWorth_56 rfl (lv_at hl 2 rfl) ?_
      refine z_get (C := RX12) (T := TX12) (N := 51) (ci := 12) (v := .ref (za G 79)) hx hb hts hin12 hown hK hI (zo77 hG) rfl 3 (by decide) wF20 (fun _ h9 => h9) rfl dX12_plainWorth_57 ?_
      refine lv_iload_n hx hb dX12_plainWorth_60 rfl (lv_at hl 3 rfl) ?_
      refine z_iald (v := (x.1 79 a)) hx hb hK hI (zo79 hG) a rfl (by omega) (by decide) (congrFun (hqq_13.1 79 (by decide)) a) dX12_plainWorth_61 ?_
      refine lv_goto (tgt := 66) hx hb dX12_plainWorth_62 (by decide) ?_
      refine lv_iadd hx hb dX12_plainWorth_66 ?_
      refine lv_istore (lv' := [(4, .int (((zsuR x F (nI 0) (zfr9 x a b r9) C) - (zsuR x F (nI 1) (zfr9 x a b r9) C)) + (x.1 79 a))), (5, .int (nI 4)), (0, .ref (za G 77)), (1, .int (nI a)), (2, .int (nI b)), (3, .int r9)]) hx hb dX12_plainWorth_67 hl (by decide) rfl (fun ls hl => ?_)
      refine lv_iload hx hb dX12_plainWorth_69 (lv_at hl 1 rfl) ?_
      refine lv_iconst (v := (nI 4)) hx hb dX12_plainWorth_71 rfl ?_
      refine lv_icmp_ne (tgt := 99) hx hb dX12_plainWorth_72 (by decide) (fun c_72 => absurd c_72 (by decide)) (fun c_72 => ?_)
      refine lv_iload hx hb dX12_plainWorth_75 (lv_at hl 0 rfl) ?_
      refine lv_aload_n hx hb dX12_plainWorth_77 rfl (lv_at hl 2 rfl) ?_
      refine lv_iload_n hx hb dX12_plainWorth_78 rfl (lv_at hl 3 rfl) ?_
      refine lv_iload_n hx hb dX12_plainWorth_79 rfl (lv_at hl 4 rfl) ?_
      refine z_calli (va_runV (As := [.int (nI a), .int (nI b)]) (rest := [.int (((zsuR x F (nI 0) (zfr9 x a b r9) C) - (zsuR x F (nI 1) (zfr9 x a b r9) C)) + (x.1 79 a))]) ⟨hx, hb, hml, hown, hts⟩ ((c_X12_isNamedBut l hG u N (nI a) (nI b) (zRef_q hqq_13.q9 hr0)) A) (cwV 2 hts gX12_plainWorth_X12_isNamedBut rfl rfl rfl (by decide +kernel) ⟨Nat.le_of_ble_eq_true rfl, Nat.le_of_ble_eq_true rfl⟩) (z_pV hI hK hN (z_recv hK hI (zo77 hG) rfl)) rfl rfl hl.1 rfl (lv_room (Nat.le_of_ble_eq_true rfl)) dX12_plainWorth_80 ⟨Nat.zero_le _, Nat.zero_le _⟩) hI (fun r_80 u H locs hw hI => ?_)
      obtain ⟨rfl, rfl⟩ := hw
      rw [show u.1 83 = x.1 83 from hqq_13.1 83 (by decide)]
      refine lv_if_eq (tgt := 90) hx hb dX12_plainWorth_83 (by decide) (fun c_83 => ?_) (fun c_83 => ?_)
      · skip
        rw [zb_0] at c_83
        refine lv_aload_n hx hb dX12_plainWorth_90 rfl (lv_at hl 2 rfl) ?_
        refine z_get (C := RX12) (T := TX12) (N := 51) (ci := 12) (v := .ref (za G 79)) hx hb hts hin12 hown hK hI (zo77 hG) rfl 3 (by decide) wF20 (fun _ h9 => h9) rfl dX12_plainWorth_91 ?_
        refine lv_iload_n hx hb dX12_plainWorth_94 rfl (lv_at hl 3 rfl) ?_
        refine z_iald (v := (x.1 79 a)) hx hb hK hI (zo79 hG) a rfl (by omega) (by decide) (congrFun (hqq_13.1 79 (by decide)) a) dX12_plainWorth_95 ?_
        refine lv_iadd hx hb dX12_plainWorth_96 ?_
        refine lv_istore (lv' := [(4, .int ((((zsuR x F (nI 0) (zfr9 x a b r9) C) - (zsuR x F (nI 1) (zfr9 x a b r9) C)) + (x.1 79 a)) + (x.1 79 a))), (5, .int (nI 4)), (0, .ref (za G 77)), (1, .int (nI a)), (2, .int (nI b)), (3, .int r9)]) hx hb dX12_plainWorth_97 hl (by decide) rfl (fun ls hl => ?_)
        refine lv_iload hx hb dX12_plainWorth_99 (lv_at hl 1 rfl) ?_
        refine lv_iconst (v := (nI 2)) hx hb dX12_plainWorth_101 rfl ?_
        refine lv_icmp_eq (tgt := 111) hx hb dX12_plainWorth_102 (by decide) (fun c_102 => absurd c_102 (by decide)) (fun c_102 => ?_)
        refine lv_iload hx hb dX12_plainWorth_105 (lv_at hl 1 rfl) ?_
        refine lv_iconst (v := (nI 5)) hx hb dX12_plainWorth_107 rfl ?_
        refine lv_icmp_ne (tgt := 122) hx hb dX12_plainWorth_108 (by decide) (fun c_108 => ?_) (fun c_108 => absurd c_108 (by decide))
        refine lv_iload hx hb dX12_plainWorth_122 (lv_at hl 1 rfl) ?_
        refine lv_iconst (v := (nI 3)) hx hb dX12_plainWorth_124 rfl ?_
        refine lv_icmp_eq (tgt := 135) hx hb dX12_plainWorth_125 (by decide) (fun c_125 => absurd c_125 (by decide)) (fun c_125 => ?_)
        refine lv_iload hx hb dX12_plainWorth_128 (lv_at hl 1 rfl) ?_
        refine lv_bipush (v := (nI 6)) hx hb dX12_plainWorth_130 rfl ?_
        refine lv_icmp_ne (tgt := 160) hx hb dX12_plainWorth_132 (by decide) (fun c_132 => ?_) (fun c_132 => absurd c_132 (by decide))
        refine lv_iload hx hb dX12_plainWorth_160 (lv_at hl 1 rfl) ?_
        refine lv_bipush (v := (nI 6)) hx hb dX12_plainWorth_162 rfl ?_
        refine lv_icmp_ne (tgt := 192) hx hb dX12_plainWorth_164 (by decide) (fun c_164 => ?_) (fun c_164 => absurd c_164 (by decide))
        refine lv_iload hx hb dX12_plainWorth_192 (lv_at hl 0 rfl) ?_
        have z1 : ∀ n, zpw1 x a b n = n + (x.1 79 a) := fun n => (if_pos (Or.inr hk9)).trans (congrArg (n + ·) (if_neg c_53))
        have z2 : ∀ n, zpw2 x N a b n = n + (x.1 79 a) := fun n => (if_pos hk9).trans (congrArg (n + ·) (if_neg c_83))
        have z3 : ∀ n, zpw3 x a n = n := fun n => if_neg (by rw [hk9]; decide)
        have z4 : ∀ n, zpw4 x a b n = n := fun n => if_neg (by rw [hk9]; decide)
        have z5 : ∀ n, zpw5 x a b n = n := fun n => if_neg (by rw [hk9]; decide)
        exact z_iret hx hb hr hlocks hI (⟨hqq_13, by unfold zpwR; rw [z1, z2, z3, z4, z5]⟩) dX12_plainWorth_194
      · skip
        rw [zb_0, Classical.not_not] at c_83
        refine lv_iconst (v := (nI 0)) hx hb dX12_plainWorth_86 rfl ?_
        refine lv_goto (tgt := 96) hx hb dX12_plainWorth_87 (by decide) ?_
        refine lv_iadd hx hb dX12_plainWorth_96 ?_
        refine lv_istore (lv' := [(4, .int ((((zsuR x F (nI 0) (zfr9 x a b r9) C) - (zsuR x F (nI 1) (zfr9 x a b r9) C)) + (x.1 79 a)) + (nI 0))), (5, .int (nI 4)), (0, .ref (za G 77)), (1, .int (nI a)), (2, .int (nI b)), (3, .int r9)]) hx hb dX12_plainWorth_97 hl (by decide) rfl (fun ls hl => ?_)
        refine lv_iload hx hb dX12_plainWorth_99 (lv_at hl 1 rfl) ?_
        refine lv_iconst (v := (nI 2)) hx hb dX12_plainWorth_101 rfl ?_
        refine lv_icmp_eq (tgt := 111) hx hb dX12_plainWorth_102 (by decide) (fun c_102 => absurd c_102 (by decide)) (fun c_102 => ?_)
        refine lv_iload hx hb dX12_plainWorth_105 (lv_at hl 1 rfl) ?_
        refine lv_iconst (v := (nI 5)) hx hb dX12_plainWorth_107 rfl ?_
        refine lv_icmp_ne (tgt := 122) hx hb dX12_plainWorth_108 (by decide) (fun c_108 => ?_) (fun c_108 => absurd c_108 (by decide))
        refine lv_iload hx hb dX12_plainWorth_122 (lv_at hl 1 rfl) ?_
        refine lv_iconst (v := (nI 3)) hx hb dX12_plainWorth_124 rfl ?_
        refine lv_icmp_eq (tgt := 135) hx hb dX12_plainWorth_125 (by decide) (fun c_125 => absurd c_125 (by decide)) (fun c_125 => ?_)
        refine lv_iload hx hb dX12_plainWorth_128 (lv_at hl 1 rfl) ?_
        refine lv_bipush (v := (nI 6)) hx hb dX12_plainWorth_130 rfl ?_
        refine lv_icmp_ne (tgt := 160) hx hb dX12_plainWorth_132 (by decide) (fun c_132 => ?_) (fun c_132 => absurd c_132 (by decide))
        refine lv_iload hx hb dX12_plainWorth_160 (lv_at hl 1 rfl) ?_
        refine lv_bipush (v := (nI 6)) hx hb dX12_plainWorth_162 rfl ?_
        refine lv_icmp_ne (tgt := 192) hx hb dX12_plainWorth_164 (by decide) (fun c_164 => ?_) (fun c_164 => absurd c_164 (by decide))
        refine lv_iload hx hb dX12_plainWorth_192 (lv_at hl 0 rfl) ?_
        have z1 : ∀ n, zpw1 x a b n = n + (x.1 79 a) := fun n => (if_pos (Or.inr hk9)).trans (congrArg (n + ·) (if_neg c_53))
        have z2 : ∀ n, zpw2 x N a b n = n + (nI 0) := fun n => (if_pos hk9).trans (congrArg (n + ·) (if_pos c_83))
        have z3 : ∀ n, zpw3 x a n = n := fun n => if_neg (by rw [hk9]; decide)
        have z4 : ∀ n, zpw4 x a b n = n := fun n => if_neg (by rw [hk9]; decide)
        have z5 : ∀ n, zpw5 x a b n = n := fun n => if_neg (by rw [hk9]; decide)
        exact z_iret hx hb hr hlocks hI (⟨hqq_13, by unfold zpwR; rw [z1, z2, z3, z4, z5]⟩) dX12_plainWorth_194
  · skip
    refine z_iald (v := (nI 5)) hx hb hK hI (zo78 hG) a rfl (by omega) (by decide) ((congrFun (hqq_13.1 78 (by decide)) a).trans hk9) dX12_plainWorth_24 ?_
    refine lv_istore (lv' := [(5, .int (nI 5)), (4, .int ((zsuR x F (nI 0) (zfr9 x a b r9) C) - (zsuR x F (nI 1) (zfr9 x a b r9) C))), (0, .ref (za G 77)), (1, .int (nI a)), (2, .int (nI b)), (3, .int r9)]) hx hb dX12_plainWorth_25 hl (by decide) rfl (fun ls hl => ?_)
    refine lv_iload hx hb dX12_plainWorth_27 (lv_at hl 0 rfl) ?_
    refine lv_iconst (v := (nI 1)) hx hb dX12_plainWorth_29 rfl ?_
    refine lv_icmp_eq (tgt := 39) hx hb dX12_plainWorth_30 (by decide) (fun c_30 => absurd c_30 (by decide)) (fun c_30 => ?_)
    refine lv_iload hx hb dX12_plainWorth_33 (lv_at hl 0 rfl) ?_
    refine lv_iconst (v := (nI 4)) hx hb dX12_plainWorth_35 rfl ?_
    refine lv_icmp_ne (tgt := 69) hx hb dX12_plainWorth_36 (by decide) (fun c_36 => ?_) (fun c_36 => absurd c_36 (by decide))
    refine lv_iload hx hb dX12_plainWorth_69 (lv_at hl 0 rfl) ?_
    refine lv_iconst (v := (nI 4)) hx hb dX12_plainWorth_71 rfl ?_
    refine lv_icmp_ne (tgt := 99) hx hb dX12_plainWorth_72 (by decide) (fun c_72 => ?_) (fun c_72 => absurd c_72 (by decide))
    refine lv_iload hx hb dX12_plainWorth_99 (lv_at hl 0 rfl) ?_
    refine lv_iconst (v := (nI 2)) hx hb dX12_plainWorth_101 rfl ?_
    refine lv_icmp_eq (tgt := 111) hx hb dX12_plainWorth_102 (by decide) (fun c_102 => absurd c_102 (by decide)) (fun c_102 => ?_)
    refine lv_iload hx hb dX12_plainWorth_105 (lv_at hl 0 rfl) ?_
    refine lv_iconst (v := (nI 5)) hx hb dX12_plainWorth_107 rfl ?_
    refine lv_icmp_ne (tgt := 122) hx hb dX12_plainWorth_108 (by decide) (fun c_108 => absurd c_108 (by decide)) (fun c_108 => ?_)
    refine lv_iload hx hb dX12_plainWorth_111 (lv_at hl 1 rfl) ?_
    refine lv_aload_n hx hb dX12_plainWorth_113 rfl (lv_at hl 2 rfl) ?_
    refine z_get (C := RX12) (T := TX12) (N := 51) (ci := 12) (v := .ref (za G 80)) hx hb hts hin12 hown hK hI (zo77 hG) rfl 4 (by decide) wF23 (fun _ h9 => h9) rfl dX12_plainWorth_114 ?_
    refine lv_iload_n hx hb dX12_plainWorth_117 rfl (lv_at hl 3 rfl) ?_
    refine z_iald (v := (x.1 80 a)) hx hb hK hI (zo80 hG) a rfl (by omega) (by decide) (congrFun (hqq_13.1 80 (by decide)) a) dX12_plainWorth_118 ?_
    refine lv_isub hx hb dX12_plainWorth_119 ?_
    refine lv_istore (lv' := [(4, .int (((zsuR x F (nI 0) (zfr9 x a b r9) C) - (zsuR x F (nI 1) (zfr9 x a b r9) C)) - (x.1 80 a))), (5, .int (nI 5)), (0, .ref (za G 77)), (1, .int (nI a)), (2, .int (nI b)), (3, .int r9)]) hx hb dX12_plainWorth_120 hl (by decide) rfl (fun ls hl => ?_)
    refine lv_iload hx hb dX12_plainWorth_122 (lv_at hl 1 rfl) ?_
    refine lv_iconst (v := (nI 3)) hx hb dX12_plainWorth_124 rfl ?_
    refine lv_icmp_eq (tgt := 135) hx hb dX12_plainWorth_125 (by decide) (fun c_125 => absurd c_125 (by decide)) (fun c_125 => ?_)
    refine lv_iload hx hb dX12_plainWorth_128 (lv_at hl 1 rfl) ?_
    refine lv_bipush (v := (nI 6)) hx hb dX12_plainWorth_130 rfl ?_
    refine lv_icmp_ne (tgt := 160) hx hb dX12_plainWorth_132 (by decide) (fun c_132 => ?_) (fun c_132 => absurd c_132 (by decide))
    refine lv_iload hx hb dX12_plainWorth_160 (lv_at hl 1 rfl) ?_
    refine lv_bipush (v := (nI 6)) hx hb dX12_plainWorth_162 rfl ?_
    refine lv_icmp_ne (tgt := 192) hx hb dX12_plainWorth_164 (by decide) (fun c_164 => ?_) (fun c_164 => absurd c_164 (by decide))
    refine lv_iload hx hb dX12_plainWorth_192 (lv_at hl 0 rfl) ?_
    have z1 : ∀ n, zpw1 x a b n = n := fun n => if_neg (by rw [hk9]; decide)
    have z2 : ∀ n, zpw2 x N a b n = n := fun n => if_neg (by rw [hk9]; decide)
    have z3 : ∀ n, zpw3 x a n = n - x.1 80 a := fun n => if_pos (Or.inr hk9)
    have z4 : ∀ n, zpw4 x a b n = n := fun n => if_neg (by rw [hk9]; decide)
    have z5 : ∀ n, zpw5 x a b n = n := fun n => if_neg (by rw [hk9]; decide)
    exact z_iret hx hb hr hlocks hI (⟨hqq_13, by unfold zpwR; rw [z1, z2, z3, z4, z5]⟩) dX12_plainWorth_194
  · skip
    refine z_iald (v := (nI 6)) hx hb hK hI (zo78 hG) a rfl (by omega) (by decide) ((congrFun (hqq_13.1 78 (by decide)) a).trans hk9) dX12_plainWorth_24 ?_
    refine lv_istore (lv' := [(5, .int (nI 6)), (4, .int ((zsuR x F (nI 0) (zfr9 x a b r9) C) - (zsuR x F (nI 1) (zfr9 x a b r9) C))), (0, .ref (za G 77)), (1, .int (nI a)), (2, .int (nI b)), (3, .int r9)]) hx hb dX12_plainWorth_25 hl (by decide) rfl (fun ls hl => ?_)
    refine lv_iload hx hb dX12_plainWorth_27 (lv_at hl 0 rfl) ?_
    refine lv_iconst (v := (nI 1)) hx hb dX12_plainWorth_29 rfl ?_
    refine lv_icmp_eq (tgt := 39) hx hb dX12_plainWorth_30 (by decide) (fun c_30 => absurd c_30 (by decide)) (fun c_30 => ?_)
    refine lv_iload hx hb dX12_plainWorth_33 (lv_at hl 0 rfl) ?_
    refine lv_iconst (v := (nI 4)) hx hb dX12_plainWorth_35 rfl ?_
    refine lv_icmp_ne (tgt := 69) hx hb dX12_plainWorth_36 (by decide) (fun c_36 => ?_) (fun c_36 => absurd c_36 (by decide))
    refine lv_iload hx hb dX12_plainWorth_69 (lv_at hl 0 rfl) ?_
    refine lv_iconst (v := (nI 4)) hx hb dX12_plainWorth_71 rfl ?_
    refine lv_icmp_ne (tgt := 99) hx hb dX12_plainWorth_72 (by decide) (fun c_72 => ?_) (fun c_72 => absurd c_72 (by decide))
    refine lv_iload hx hb dX12_plainWorth_99 (lv_at hl 0 rfl) ?_
    refine lv_iconst (v := (nI 2)) hx hb dX12_plainWorth_101 rfl ?_
    refine lv_icmp_eq (tgt := 111) hx hb dX12_plainWorth_102 (by decide) (fun c_102 => absurd c_102 (by decide)) (fun c_102 => ?_)
    refine lv_iload hx hb dX12_plainWorth_105 (lv_at hl 0 rfl) ?_
    refine lv_iconst (v := (nI 5)) hx hb dX12_plainWorth_107 rfl ?_
    refine lv_icmp_ne (tgt := 122) hx hb dX12_plainWorth_108 (by decide) (fun c_108 => ?_) (fun c_108 => absurd c_108 (by decide))
    refine lv_iload hx hb dX12_plainWorth_122 (lv_at hl 0 rfl) ?_
    refine lv_iconst (v := (nI 3)) hx hb dX12_plainWorth_124 rfl ?_
    refine lv_icmp_eq (tgt := 135) hx hb dX12_plainWorth_125 (by decide) (fun c_125 => absurd c_125 (by decide)) (fun c_125 => ?_)
    refine lv_iload hx hb dX12_plainWorth_128 (lv_at hl 0 rfl) ?_
    refine lv_bipush (v := (nI 6)) hx hb dX12_plainWorth_130 rfl ?_
    refine lv_icmp_ne (tgt := 160) hx hb dX12_plainWorth_132 (by decide) (fun c_132 => absurd c_132 (by decide)) (fun c_132 => ?_)
    refine lv_iload hx hb dX12_plainWorth_135 (lv_at hl 1 rfl) ?_
    refine lv_aload_n hx hb dX12_plainWorth_137 rfl (lv_at hl 2 rfl) ?_
    refine z_get (C := RX12) (T := TX12) (N := 51) (ci := 12) (v := .ref (za G 83)) hx hb hts hin12 hown hK hI (zo77 hG) rfl 7 (by decide) wF32 (fun _ h9 => h9) rfl dX12_plainWorth_138 ?_
    refine lv_iload_n hx hb dX12_plainWorth_141 rfl (lv_at hl 4 rfl) ?_
    refine z_iald (v := (x.1 83 b)) hx hb hK hI (zo83 hG) b rfl (by omega) (by decide) (congrFun (hqq_13.1 83 (by decide)) b) dX12_plainWorth_142 ?_
    refine lv_iload_n hx hb dX12_plainWorth_143 rfl (lv_at hl 3 rfl) ?_
    refine lv_icmp_ne (tgt := 156) hx hb dX12_plainWorth_144 (by decide) (fun c_144 => ?_) (fun c_144 => ?_)
    · skip
      refine lv_iconst (v := (nI 0)) hx hb dX12_plainWorth_156 rfl ?_
      refine lv_iadd hx hb dX12_plainWorth_157 ?_
      refine lv_istore (lv' := [(4, .int (((zsuR x F (nI 0) (zfr9 x a b r9) C) - (zsuR x F (nI 1) (zfr9 x a b r9) C)) + (nI 0))), (5, .int (nI 6)), (0, .ref (za G 77)), (1, .int (nI a)), (2, .int (nI b)), (3, .int r9)]) hx hb dX12_plainWorth_158 hl (by decide) rfl (fun ls hl => ?_)
      refine lv_iload hx hb dX12_plainWorth_160 (lv_at hl 1 rfl) ?_
      refine lv_bipush (v := (nI 6)) hx hb dX12_plainWorth_162 rfl ?_
      refine lv_icmp_ne (tgt := 192) hx hb dX12_plainWorth_164 (by decide) (fun c_164 => absurd c_164 (by decide)) (fun c_164 => ?_)
      refine lv_iload hx hb dX12_plainWorth_167 (lv_at hl 0 rfl) ?_
      refine lv_aload_n hx hb dX12_plainWorth_169 rfl (lv_at hl 2 rfl) ?_
      refine z_get (C := RX12) (T := TX12) (N := 51) (ci := 12) (v := .ref (za G 83)) hx hb hts hin12 hown hK hI (zo77 hG) rfl 7 (by decide) wF32 (fun _ h9 => h9) rfl dX12_plainWorth_170 ?_
      refine lv_iload_n hx hb dX12_plainWorth_173 rfl (lv_at hl 3 rfl) ?_
      refine z_iald (v := (x.1 83 a)) hx hb hK hI (zo83 hG) a rfl (by omega) (by decide) (congrFun (hqq_13.1 83 (by decide)) a) dX12_plainWorth_174 ?_
      refine lv_iload_n hx hb dX12_plainWorth_175 rfl (lv_at hl 4 rfl) ?_
      refine lv_icmp_ne (tgt := 188) hx hb dX12_plainWorth_176 (by decide) (fun c_176 => ?_) (fun c_176 => ?_)
      · skip
        refine lv_iconst (v := (nI 0)) hx hb dX12_plainWorth_188 rfl ?_
        refine lv_iadd hx hb dX12_plainWorth_189 ?_
        refine lv_istore (lv' := [(4, .int ((((zsuR x F (nI 0) (zfr9 x a b r9) C) - (zsuR x F (nI 1) (zfr9 x a b r9) C)) + (nI 0)) + (nI 0))), (5, .int (nI 6)), (0, .ref (za G 77)), (1, .int (nI a)), (2, .int (nI b)), (3, .int r9)]) hx hb dX12_plainWorth_190 hl (by decide) rfl (fun ls hl => ?_)
        refine lv_iload hx hb dX12_plainWorth_192 (lv_at hl 0 rfl) ?_
        have z1 : ∀ n, zpw1 x a b n = n := fun n => if_neg (by rw [hk9]; decide)
        have z2 : ∀ n, zpw2 x N a b n = n := fun n => if_neg (by rw [hk9]; decide)
        have z3 : ∀ n, zpw3 x a n = n := fun n => if_neg (by rw [hk9]; decide)
        have z4 : ∀ n, zpw4 x a b n = n + (nI 0) := fun n => (if_pos (Or.inr hk9)).trans (congrArg (n + ·) (if_neg c_144))
        have z5 : ∀ n, zpw5 x a b n = n + (nI 0) := fun n => (if_pos hk9).trans (congrArg (n + ·) (if_neg c_176))
        exact z_iret hx hb hr hlocks hI (⟨hqq_13, by unfold zpwR; rw [z1, z2, z3, z4, z5]⟩) dX12_plainWorth_194
      · skip
        refine lv_aload_n hx hb dX12_plainWorth_179 rfl (lv_at hl 2 rfl) ?_
        refine z_get (C := RX12) (T := TX12) (N := 51) (ci := 12) (v := .ref (za G 79)) hx hb hts hin12 hown hK hI (zo77 hG) rfl 3 (by decide) wF20 (fun _ h9 => h9) rfl dX12_plainWorth_180 ?_
        refine lv_iload_n hx hb dX12_plainWorth_183 rfl (lv_at hl 3 rfl) ?_
        refine z_iald (v := (x.1 79 a)) hx hb hK hI (zo79 hG) a rfl (by omega) (by decide) (congrFun (hqq_13.1 79 (by decide)) a) dX12_plainWorth_184 ?_
        refine lv_goto (tgt := 189) hx hb dX12_plainWorth_185 (by decide) ?_
        refine lv_iadd hx hb dX12_plainWorth_189 ?_
        refine lv_istore (lv' := [(4, .int ((((zsuR x F (nI 0) (zfr9 x a b r9) C) - (zsuR x F (nI 1) (zfr9 x a b r9) C)) + (nI 0)) + (x.1 79 a))), (5, .int (nI 6)), (0, .ref (za G 77)), (1, .int (nI a)), (2, .int (nI b)), (3, .int r9)]) hx hb dX12_plainWorth_190 hl (by decide) rfl (fun ls hl => ?_)
        refine lv_iload hx hb dX12_plainWorth_192 (lv_at hl 0 rfl) ?_
        have z1 : ∀ n, zpw1 x a b n = n := fun n => if_neg (by rw [hk9]; decide)
        have z2 : ∀ n, zpw2 x N a b n = n := fun n => if_neg (by rw [hk9]; decide)
        have z3 : ∀ n, zpw3 x a n = n := fun n => if_neg (by rw [hk9]; decide)
        have z4 : ∀ n, zpw4 x a b n = n + (nI 0) := fun n => (if_pos (Or.inr hk9)).trans (congrArg (n + ·) (if_neg c_144))
        have z5 : ∀ n, zpw5 x a b n = n + (x.1 79 a) := fun n => (if_pos hk9).trans (congrArg (n + ·) (if_pos c_176))
        exact z_iret hx hb hr hlocks hI (⟨hqq_13, by unfold zpwR; rw [z1, z2, z3, z4, z5]⟩) dX12_plainWorth_194
    · skip
      refine lv_aload_n hx hb dX12_plainWorth_147 rfl (lv_at hl 2 rfl) ?_
      refine z_get (C := RX12) (T := TX12) (N := 51) (ci := 12) (v := .ref (za G 79)) hx hb hts hin12 hown hK hI (zo77 hG) rfl 3 (by decide) wF20 (fun _ h9 => h9) rfl dX12_plainWorth_148 ?_
      refine lv_iload_n hx hb dX12_plainWorth_151 rfl (lv_at hl 3 rfl) ?_
      refine z_iald (v := (x.1 79 a)) hx hb hK hI (zo79 hG) a rfl (by omega) (by decide) (congrFun (hqq_13.1 79 (by decide)) a) dX12_plainWorth_152 ?_
      refine lv_goto (tgt := 157) hx hb dX12_plainWorth_153 (by decide) ?_
      refine lv_iadd hx hb dX12_plainWorth_157 ?_
      refine lv_istore (lv' := [(4, .int (((zsuR x F (nI 0) (zfr9 x a b r9) C) - (zsuR x F (nI 1) (zfr9 x a b r9) C)) + (x.1 79 a))), (5, .int (nI 6)), (0, .ref (za G 77)), (1, .int (nI a)), (2, .int (nI b)), (3, .int r9)]) hx hb dX12_plainWorth_158 hl (by decide) rfl (fun ls hl => ?_)
      refine lv_iload hx hb dX12_plainWorth_160 (lv_at hl 1 rfl) ?_
      refine lv_bipush (v := (nI 6)) hx hb dX12_plainWorth_162 rfl ?_
      refine lv_icmp_ne (tgt := 192) hx hb dX12_plainWorth_164 (by decide) (fun c_164 => absurd c_164 (by decide)) (fun c_164 => ?_)
      refine lv_iload hx hb dX12_plainWorth_167 (lv_at hl 0 rfl) ?_
      refine lv_aload_n hx hb dX12_plainWorth_169 rfl (lv_at hl 2 rfl) ?_
      refine z_get (C := RX12) (T := TX12) (N := 51) (ci := 12) (v := .ref (za G 83)) hx hb hts hin12 hown hK hI (zo77 hG) rfl 7 (by decide) wF32 (fun _ h9 => h9) rfl dX12_plainWorth_170 ?_
      refine lv_iload_n hx hb dX12_plainWorth_173 rfl (lv_at hl 3 rfl) ?_
      refine z_iald (v := (x.1 83 a)) hx hb hK hI (zo83 hG) a rfl (by omega) (by decide) (congrFun (hqq_13.1 83 (by decide)) a) dX12_plainWorth_174 ?_
      refine lv_iload_n hx hb dX12_plainWorth_175 rfl (lv_at hl 4 rfl) ?_
      refine lv_icmp_ne (tgt := 188) hx hb dX12_plainWorth_176 (by decide) (fun c_176 => ?_) (fun c_176 => ?_)
      · skip
        refine lv_iconst (v := (nI 0)) hx hb dX12_plainWorth_188 rfl ?_
        refine lv_iadd hx hb dX12_plainWorth_189 ?_
        refine lv_istore (lv' := [(4, .int ((((zsuR x F (nI 0) (zfr9 x a b r9) C) - (zsuR x F (nI 1) (zfr9 x a b r9) C)) + (x.1 79 a)) + (nI 0))), (5, .int (nI 6)), (0, .ref (za G 77)), (1, .int (nI a)), (2, .int (nI b)), (3, .int r9)]) hx hb dX12_plainWorth_190 hl (by decide) rfl (fun ls hl => ?_)
        refine lv_iload hx hb dX12_plainWorth_192 (lv_at hl 0 rfl) ?_
        have z1 : ∀ n, zpw1 x a b n = n := fun n => if_neg (by rw [hk9]; decide)
        have z2 : ∀ n, zpw2 x N a b n = n := fun n => if_neg (by rw [hk9]; decide)
        have z3 : ∀ n, zpw3 x a n = n := fun n => if_neg (by rw [hk9]; decide)
        have z4 : ∀ n, zpw4 x a b n = n + (x.1 79 a) := fun n => (if_pos (Or.inr hk9)).trans (congrArg (n + ·) (if_pos c_144))
        have z5 : ∀ n, zpw5 x a b n = n + (nI 0) := fun n => (if_pos hk9).trans (congrArg (n + ·) (if_neg c_176))
        exact z_iret hx hb hr hlocks hI (⟨hqq_13, by unfold zpwR; rw [z1, z2, z3, z4, z5]⟩) dX12_plainWorth_194
      · skip
        refine lv_aload_n hx hb dX12_plainWorth_179 rfl (lv_at hl 2 rfl) ?_
        refine z_get (C := RX12) (T := TX12) (N := 51) (ci := 12) (v := .ref (za G 79)) hx hb hts hin12 hown hK hI (zo77 hG) rfl 3 (by decide) wF20 (fun _ h9 => h9) rfl dX12_plainWorth_180 ?_
        refine lv_iload_n hx hb dX12_plainWorth_183 rfl (lv_at hl 3 rfl) ?_
        refine z_iald (v := (x.1 79 a)) hx hb hK hI (zo79 hG) a rfl (by omega) (by decide) (congrFun (hqq_13.1 79 (by decide)) a) dX12_plainWorth_184 ?_
        refine lv_goto (tgt := 189) hx hb dX12_plainWorth_185 (by decide) ?_
        refine lv_iadd hx hb dX12_plainWorth_189 ?_
        refine lv_istore (lv' := [(4, .int ((((zsuR x F (nI 0) (zfr9 x a b r9) C) - (zsuR x F (nI 1) (zfr9 x a b r9) C)) + (x.1 79 a)) + (x.1 79 a))), (5, .int (nI 6)), (0, .ref (za G 77)), (1, .int (nI a)), (2, .int (nI b)), (3, .int r9)]) hx hb dX12_plainWorth_190 hl (by decide) rfl (fun ls hl => ?_)
        refine lv_iload hx hb dX12_plainWorth_192 (lv_at hl 0 rfl) ?_
        have z1 : ∀ n, zpw1 x a b n = n := fun n => if_neg (by rw [hk9]; decide)
        have z2 : ∀ n, zpw2 x N a b n = n := fun n => if_neg (by rw [hk9]; decide)
        have z3 : ∀ n, zpw3 x a n = n := fun n => if_neg (by rw [hk9]; decide)
        have z4 : ∀ n, zpw4 x a b n = n + (x.1 79 a) := fun n => (if_pos (Or.inr hk9)).trans (congrArg (n + ·) (if_pos c_144))
        have z5 : ∀ n, zpw5 x a b n = n + (x.1 79 a) := fun n => (if_pos hk9).trans (congrArg (n + ·) (if_pos c_176))
        exact z_iret hx hb hr hlocks hI (⟨hqq_13, by unfold zpwR; rw [z1, z2, z3, z4, z5]⟩) dX12_plainWorth_194
set_option maxHeartbeats 1000000 in
set_option maxRecDepth 100000 in
theorem c_X12_layPairs (l : Launch) {G : zG} (hG : zOK G) (x : zX) (N F C : Nat) (hr0 : zRef x N) (hcs : zCls x F C) (hkd : zKd x N) : zMv l yX12_layPairs wsX12_layPairs { frames := 4, cells := 0, slots := 0, locals := 104 } G [.ref (za G 77)] x (fun (u : zX) => zQ9 x u ∧ zTR x N F C u) := by
  intro A
  refine zBody (cc := cX12_layPairs) (maxL := 4) (ret := none) (by decide) rfl (Nat.le_of_ble_eq_true rfl) ?_
  intro p e s m below meth c hx hb hml hown hts hr hlocks hK hN hI ls hl
  have hown : s.vm.findClass RX12 = some m.cls := hown
  have hl : lv_has ls 4 [(0, .ref (za G 77))] := hl
  have hin12 : ∀ w ∈ wsX120, w ∈ wsX12_layPairs := (fun _ h => List.mem_cons_of_mem _ (List.mem_append_right _ (h)))
  have wF7 := hts (.fieldLink RX12 7 "WhoSitsByModel" "pupils" "I") (z_mem 1 rfl)
  have wF102 := hts (.fieldLink RX12 102 "WhoSitsByModel" "worthOf" "[I") (z_mem 2 rfl)
  have wF105 := hts (.fieldLink RX12 105 "WhoSitsByModel" "barredOf" "[Z") (z_mem 3 rfl)
  have h8 := hr0.1
  refine lv_iconst (v := (nI 0)) hx hb dX12_layPairs_0 rfl ?_
  refine lv_istore_n (lv' := [(1, .int (nI 0)), (0, .ref (za G 77))]) hx hb dX12_layPairs_1 rfl hl (by decide) rfl (fun ls hl => ?_)
  have L2 : ∀ (f : Nat) (a : Nat) (y : zX), (a ≤ N) → (zQ9 x y) → (zFR x N F C y a 0 0) → N + 1 ≤ a + f → ∀ (H : Heap) (locs : List Loc), zI G y A s.heap H locs → ∀ ls : Array Slot, lv_has ls 4 [(0, .ref (za G 77)), (1, .int (nI a))] → W p l e { frames := 4, cells := 0, slots := 0, locals := 104 } s m ([.ref (za G 77)] : List Value).toArray below meth c H locs 0 0 (MQ below (va_Qv (fun (u : zX) => zQ9 x u ∧ zTR x N F C u) (fun u t => zJ G u A t.heap) A) ([.ref (za G 77)] : List Value).toArray s 0 0 A) (F0 m 2 ls []) := by
    intro f
    induction f with
    | zero =>
      intro a y h1 hQ hF hf
      exact absurd hf (by omega)
    | succ f ih =>
      intro a y h1 hQ hF hf H locs hI ls hl
      have hn0 : y.1 77 0 = nI N := (zRef_q hQ hr0).2.1
      have ih2 := ih
      refine lv_iload_n hx hb dX12_layPairs_2 rfl (lv_at hl 1 rfl) ?_
      refine lv_aload_n hx hb dX12_layPairs_3 rfl (lv_at hl 0 rfl) ?_
      refine z_get (C := RX12) (T := TX12) (N := 51) (ci := 12) (v := .int (nI N)) hx hb hts hin12 hown hK hI (zo77 hG) rfl 0 (by decide) wF7 (fun _ h9 => h9) (congrArg (fun q => some (Value.int q)) hn0) dX12_layPairs_4 ?_
      refine lv_icmp_ge (tgt := 94) hx hb dX12_layPairs_7 (by decide) (fun c_7 => ?_) (fun c_7 => ?_)
      · skip
        rw [zqG (by omega) (by omega)] at c_7
        exact z_vret hx hb hr hlocks hI (⟨hQ, fun a q r i1 i2 i3 i4 => hF a q r i1 i2 i3 i4 (by omega)⟩) dX12_layPairs_94
      · skip
        rw [zqG (by omega) (by omega)] at c_7
        refine lv_iconst (v := (nI 0)) hx hb dX12_layPairs_10 rfl ?_
        refine lv_istore_n (lv' := [(2, .int (nI 0)), (0, .ref (za G 77)), (1, .int (nI a))]) hx hb dX12_layPairs_11 rfl hl (by decide) rfl (fun ls hl => ?_)
        have L12 : ∀ (f : Nat) (q : Nat) (y2 : zX), (q ≤ N) → (zQ9 x y2) → (zFR x N F C y2 a q 0) → N + 1 ≤ q + f → ∀ (H : Heap) (locs : List Loc), zI G y2 A s.heap H locs → ∀ ls : Array Slot, lv_has ls 4 [(0, .ref (za G 77)), (1, .int (nI a)), (2, .int (nI q))] → W p l e { frames := 4, cells := 0, slots := 0, locals := 104 } s m ([.ref (za G 77)] : List Value).toArray below meth c H locs 0 0 (MQ below (va_Qv (fun (u : zX) => zQ9 x u ∧ zTR x N F C u) (fun u t => zJ G u A t.heap) A) ([.ref (za G 77)] : List Value).toArray s 0 0 A) (F0 m 12 ls []) := by
          intro f
          induction f with
          | zero =>
            intro q y2 g1 gQ gF hf
            exact absurd hf (by omega)
          | succ f ih =>
            intro q y2 g1 gQ gF hf H locs hI ls hl
            have hn1 : y2.1 77 0 = nI N := (zRef_q gQ hr0).2.1
            have ih12 := ih
            refine lv_iload_n hx hb dX12_layPairs_12 rfl (lv_at hl 2 rfl) ?_
            refine lv_aload_n hx hb dX12_layPairs_13 rfl (lv_at hl 0 rfl) ?_
            refine z_get (C := RX12) (T := TX12) (N := 51) (ci := 12) (v := .int (nI N)) hx hb hts hin12 hown hK hI (zo77 hG) rfl 0 (by decide) wF7 (fun _ h9 => h9) (congrArg (fun q => some (Value.int q)) hn1) dX12_layPairs_14 ?_
            refine lv_icmp_ge (tgt := 88) hx hb dX12_layPairs_17 (by decide) (fun c_17 => ?_) (fun c_17 => ?_)
            · skip
              rw [zqG (by omega) (by omega)] at c_17
              refine lv_iinc (v := (nI (a + 1))) (lv' := [(1, .int (nI (a + 1))), (0, .ref (za G 77)), (2, .int (nI q))]) hx hb dX12_layPairs_88 hl (k := 1) rfl (zinc a) (by decide) rfl (fun ls hl => ?_)
              refine lv_goto (tgt := 2) hx hb dX12_layPairs_91 (by decide) ?_
              exact ih2 (a + 1) y2 (by omega) gQ (gF.a (by omega)) (by omega) _ _ hI ls (lv_sub hl [1, 0] rfl)
            · skip
              rw [zqG (by omega) (by omega)] at c_17
              refine lv_iconst (v := (nI 0)) hx hb dX12_layPairs_20 rfl ?_
              refine lv_istore_n (lv' := [(3, .int (nI 0)), (0, .ref (za G 77)), (1, .int (nI a)), (2, .int (nI q))]) hx hb dX12_layPairs_21 rfl hl (by decide) rfl (fun ls hl => ?_)
              have L22 : ∀ (f : Nat) (r : Nat) (y3 : zX), (r ≤ 2) → (zQ9 x y3) → (zFR x N F C y3 a q r) → 3 ≤ r + f → ∀ (H : Heap) (locs : List Loc), zI G y3 A s.heap H locs → ∀ ls : Array Slot, lv_has ls 4 [(0, .ref (za G 77)), (1, .int (nI a)), (2, .int (nI q)), (3, .int (nI r))] → W p l e { frames := 4, cells := 0, slots := 0, locals := 104 } s m ([.ref (za G 77)] : List Value).toArray below meth c H locs 0 0 (MQ below (va_Qv (fun (u : zX) => zQ9 x u ∧ zTR x N F C u) (fun u t => zJ G u A t.heap) A) ([.ref (za G 77)] : List Value).toArray s 0 0 A) (F0 m 22 ls []) := by
                intro f
                induction f with
                | zero =>
                  intro r y3 k1 kQ kF hf
                  exact absurd hf (by omega)
                | succ f ih =>
                  intro r y3 k1 kQ kF hf H locs hI ls hl
                  have ih22 := ih
                  refine lv_iload_n hx hb dX12_layPairs_22 rfl (lv_at hl 3 rfl) ?_
                  refine lv_iconst (v := (nI 2)) hx hb dX12_layPairs_23 rfl ?_
                  refine lv_icmp_ge (tgt := 82) hx hb dX12_layPairs_24 (by decide) (fun c_24 => ?_) (fun c_24 => ?_)
                  · skip
                    rw [zqG (by omega) (by omega)] at c_24
                    refine lv_iinc (v := (nI (q + 1))) (lv' := [(2, .int (nI (q + 1))), (0, .ref (za G 77)), (1, .int (nI a)), (3, .int (nI r))]) hx hb dX12_layPairs_82 hl (k := 2) rfl (zinc q) (by decide) rfl (fun ls hl => ?_)
                    refine lv_goto (tgt := 12) hx hb dX12_layPairs_85 (by decide) ?_
                    exact ih12 (q + 1) y3 (by omega) kQ (kF.q (by omega)) (by omega) _ _ hI ls (lv_sub hl [1, 2, 0] rfl)
                  · skip
                    rw [zqG (by omega) (by omega)] at c_24
                    refine lv_iload_n hx hb dX12_layPairs_27 rfl (lv_at hl 1 rfl) ?_
                    refine lv_iload_n hx hb dX12_layPairs_28 rfl (lv_at hl 2 rfl) ?_
                    refine lv_icmp_eq (tgt := 82) hx hb dX12_layPairs_29 (by decide) (fun c_29 => ?_) (fun c_29 => ?_)
                    · skip
                      rw [zqE (by omega) (by omega)] at c_29
                      refine lv_iinc (v := (nI (q + 1))) (lv' := [(2, .int (nI (q + 1))), (0, .ref (za G 77)), (1, .int (nI a)), (3, .int (nI r))]) hx hb dX12_layPairs_82 hl (k := 2) rfl (zinc q) (by decide) rfl (fun ls hl => ?_)
                      refine lv_goto (tgt := 12) hx hb dX12_layPairs_85 (by decide) ?_
                      exact ih12 (q + 1) y3 (by omega) kQ (by rw [← c_29] at kF ⊢; exact kF.e) (by omega) _ _ hI ls (lv_sub hl [1, 2, 0] rfl)
                    · skip
                      rw [zqE (by omega) (by omega)] at c_29
                      refine lv_aload_n hx hb dX12_layPairs_32 rfl (lv_at hl 0 rfl) ?_
                      refine z_get (C := RX12) (T := TX12) (N := 51) (ci := 12) (v := .ref (za G 98)) hx hb hts hin12 hown hK hI (zo77 hG) rfl 30 (by decide) wF102 (fun _ h9 => h9) rfl dX12_layPairs_33 ?_
                      refine lv_bipush (v := (nI 16)) hx hb dX12_layPairs_36 rfl ?_
                      refine lv_iload_n hx hb dX12_layPairs_38 rfl (lv_at hl 1 rfl) ?_
                      refine z_imul (v := (nI (16 * a))) hx hb (pk_mul _ _) dX12_layPairs_39 ?_
                      refine lv_iconst (v := (nI 2)) hx hb dX12_layPairs_40 rfl ?_
                      refine lv_iload_n hx hb dX12_layPairs_41 rfl (lv_at hl 2 rfl) ?_
                      refine z_imul (v := (nI (2 * q))) hx hb (pk_mul _ _) dX12_layPairs_42 ?_
                      refine z_iadd (v := (nI ((16 * a) + (2 * q)))) hx hb (nI_add _ _) dX12_layPairs_43 ?_
                      refine lv_iload_n hx hb dX12_layPairs_44 rfl (lv_at hl 3 rfl) ?_
                      refine z_iadd (v := (nI (16 * a + 2 * q + r))) hx hb (nI_add _ _) dX12_layPairs_45 ?_
                      refine lv_aload_n hx hb dX12_layPairs_46 rfl (lv_at hl 0 rfl) ?_
                      refine lv_iload_n hx hb dX12_layPairs_47 rfl (lv_at hl 1 rfl) ?_
                      refine lv_iload_n hx hb dX12_layPairs_48 rfl (lv_at hl 2 rfl) ?_
                      refine lv_iload_n hx hb dX12_layPairs_49 rfl (lv_at hl 3 rfl) ?_
                      refine z_calli (va_runV (As := [.int (nI a), .int (nI q), .int (nI r)]) (rest := [.int (nI (16 * a + 2 * q + r)), .ref (za G 98)]) ⟨hx, hb, hml, hown, hts⟩ ((c_X12_plainWorth l hG y3 N F C a q (nI r) (zRef_q kQ hr0) (zCls_q kQ hcs) (by omega) (by omega) (by rw [kQ.1 78 (by decide) (by decide)]; exact hkd a (by omega))) A) (cwV 3 hts gX12_layPairs_X12_plainWorth rfl rfl rfl (by decide +kernel) ⟨Nat.le_of_ble_eq_true rfl, Nat.le_of_ble_eq_true rfl⟩) (z_pV hI hK hN (z_recv hK hI (zo77 hG) rfl)) rfl rfl hl.1 rfl (lv_room (Nat.le_of_ble_eq_true rfl)) dX12_layPairs_50 ⟨Nat.zero_le _, Nat.zero_le _⟩) hI (fun r_50 u H locs hw hI => ?_)
                      obtain ⟨hq1, rfl⟩ := hw
                      rw [zpwR_q kQ]
                      have hQ1 : zQ9 x u := kQ.t hq1.q9
                      refine z_iast (y := (zpwR x N F C a q (nI r))) hx hb hK hI (zo98 hG) (16 * a + 2 * q + r) rfl (by omega) (by decide) dX12_layPairs_53 (fun H locs hI => ?_)
                      refine lv_aload_n hx hb dX12_layPairs_54 rfl (lv_at hl 0 rfl) ?_
                      refine z_get (C := RX12) (T := TX12) (N := 51) (ci := 12) (v := .ref (za G 99)) hx hb hts hin12 hown hK hI (zo77 hG) rfl 31 (by decide) wF105 (fun _ h9 => h9) rfl dX12_layPairs_55 ?_
                      refine lv_bipush (v := (nI 16)) hx hb dX12_layPairs_58 rfl ?_
                      refine lv_iload_n hx hb dX12_layPairs_60 rfl (lv_at hl 1 rfl) ?_
                      refine z_imul (v := (nI (16 * a))) hx hb (pk_mul _ _) dX12_layPairs_61 ?_
                      refine lv_iconst (v := (nI 2)) hx hb dX12_layPairs_62 rfl ?_
                      refine lv_iload_n hx hb dX12_layPairs_63 rfl (lv_at hl 2 rfl) ?_
                      refine z_imul (v := (nI (2 * q))) hx hb (pk_mul _ _) dX12_layPairs_64 ?_
                      refine z_iadd (v := (nI ((16 * a) + (2 * q)))) hx hb (nI_add _ _) dX12_layPairs_65 ?_
                      refine lv_iload_n hx hb dX12_layPairs_66 rfl (lv_at hl 3 rfl) ?_
                      refine z_iadd (v := (nI (16 * a + 2 * q + r))) hx hb (nI_add _ _) dX12_layPairs_67 ?_
                      refine lv_aload_n hx hb dX12_layPairs_68 rfl (lv_at hl 0 rfl) ?_
                      refine lv_iload_n hx hb dX12_layPairs_69 rfl (lv_at hl 1 rfl) ?_
                      refine lv_iload_n hx hb dX12_layPairs_70 rfl (lv_at hl 2 rfl) ?_
                      refine lv_iload_n hx hb dX12_layPairs_71 rfl (lv_at hl 3 rfl) ?_
                      have hQ2 : zQ9 x (zsI u 98 (16 * a + 2 * q + r) (zpwR x N F C a q (nI r))) := hQ1.t (zQ9.s (by decide))
                      have e98 : u.1 98 = y3.1 98 := hq1.1 98 (by decide)
                      have e99 : u.1 99 = y3.1 99 := hq1.1 99 (by decide)
                      generalize hu2 : (zsI u 98 (16 * a + 2 * q + r) (zpwR x N F C a q (nI r))) = u2 at hI hQ2
                      have e982 : u2.1 98 = upd (y3.1 98) (16 * a + 2 * q + r) (zpwR x N F C a q (nI r)) := by rw [← hu2, zsI_u, e98]
                      have e992 : u2.1 99 = y3.1 99 := by rw [← hu2, zsI_n (by decide), e99]
                      refine z_calli (va_runV (As := [.int (nI a), .int (nI q), .int (nI r)]) (rest := [.int (nI (16 * a + 2 * q + r)), .ref (za G 99)]) ⟨hx, hb, hml, hown, hts⟩ ((c_X12_isBarred l hG u2 F C a q (nI r) (zCls_q hQ2 hcs) (by omega) (by omega)) A) (cwV 3 hts gX12_layPairs_X12_isBarred rfl rfl rfl (by decide +kernel) ⟨Nat.le_of_ble_eq_true rfl, Nat.le_of_ble_eq_true rfl⟩) (z_pV hI hK hN (z_recv hK hI (zo77 hG) rfl)) rfl rfl hl.1 rfl (lv_room (Nat.le_of_ble_eq_true rfl)) dX12_layPairs_72 ⟨Nat.zero_le _, Nat.zero_le _⟩) hI (fun r_72 u H locs hw hI => ?_)
                      obtain ⟨hq2, rfl⟩ := hw
                      have hbr : (if zbaR u2 F C a q (nI r) then nI 1 else nI 0) = (if zbaR x F C a q (nI r) then nI 1 else nI 0) := by by_cases h9 : zbaR x F C a q (nI r); rw [if_pos h9, if_pos ((zbaR_q hQ2).mpr h9)]; rw [if_neg h9, if_neg (fun g9 => h9 ((zbaR_q hQ2).mp g9))]
                      rw [hbr]
                      refine z_zast (y := (if zbaR x F C a q (nI r) then nI 1 else nI 0)) hx hb hK hI (zo99 hG) (16 * a + 2 * q + r) rfl (by omega) (by decide) (zb01 _) dX12_layPairs_75 (fun H locs hI => ?_)
                      refine lv_iinc (v := (nI (r + 1))) (lv' := [(3, .int (nI (r + 1))), (0, .ref (za G 77)), (1, .int (nI a)), (2, .int (nI q))]) hx hb dX12_layPairs_76 hl (k := 3) rfl (zinc r) (by decide) rfl (fun ls hl => ?_)
                      refine lv_goto (tgt := 22) hx hb dX12_layPairs_79 (by decide) ?_
                      exact ih22 (r + 1) (zsI u 99 (16 * a + 2 * q + r) (if zbaR x F C a q (nI r) then nI 1 else nI 0)) (by omega) ((hQ2.t hq2.q9).t (zQ9.s (by decide))) (zFR.s h8 (by omega) (by omega) (by omega) kF (by rw [zsI_n (by decide), hq2.1 98 (by decide), e982]) (by rw [zsI_u, hq2.1 99 (by decide), e992])) (by omega) _ _ hI ls (lv_sub hl [1, 2, 3, 0] rfl)
              exact L22 (3) 0 y2 (by omega) gQ gF (by omega) _ _ hI ls (lv_sub hl [1, 2, 3, 0] rfl)
        exact L12 (N + 1) 0 y (by omega) hQ hF (by omega) _ _ hI ls (lv_sub hl [1, 2, 0] rfl)
  exact L2 (N + 1) 0 x (by omega) zQ9.r zFR.z (by omega) _ _ hI ls (lv_sub hl [1, 0] rfl)
