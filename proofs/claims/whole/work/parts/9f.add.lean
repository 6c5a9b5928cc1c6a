/-! A PUPIL MADE AND ADDED -/
def zkc (a : Int32) : Nat := if a = nI 1 then 1 else if a = nI 2 then 8 else if a = nI 3 then 10 else if a = nI 4 then 3 else if a = nI 5 then 0 else if a = nI 6 then 2 else 4
theorem zkc_ok (a : Int32) : zkc a = 0 ∨ zkc a = 1 ∨ zkc a = 2 ∨ zkc a = 3 ∨ zkc a = 4 ∨ zkc a = 8 ∨ zkc a = 10 := by
  unfold zkc
  repeat' split
  all_goals simp
theorem zMade_n {x : zX} {i j : Nat} {a1 a2 a3 a4 a5 : Int32} (h : j ≠ i) : (zMade x i a1 a2 a3 a4 a5).1 j = x.1 j := by
  unfold zMade zpN
  rw [zsI_n h, zsI_n h, zsI_n h, zsI_n h, zsI_n h]
  exact zup_n h
def zadd (x : zX) (N t1 o : Nat) : zX := zsI (zsI (zsI (zsP x 3 N (some o)) 5 N (-1)) 4 t1 (nI N)) 1 3 (nI (N + 1))
def zppC (x : zX) (i N t1 : Nat) (v tk kn tg : Int32) : zX := zsI (zadd (zMade x i (nI N) v tk kn tg) N t1 i) 0 9 (nI 0)
set_option maxHeartbeats 4000000 in
set_option maxRecDepth 100000 in
theorem c_X11_made (l : Launch) {G : zG} (hG : zOK G) (x : zX) (hp : zPw G x) (a0 a1 a2 a3 a4 a5 : Int32) : zMm l yX11_made wsX11_made { frames := 4, cells := 1, slots := 5, locals := 87 } G [.int a0, .int a1, .int a2, .int a3, .int a4, .int a5] x (fun u : zG × zX => ∃ q, u = (zGx G q (zkc a0), zMade x (zn G) a1 a2 a3 a4 a5)) := by
  intro A
  refine zBodyN (cc := cX11_made) (maxL := 6) (ret := some (.object "WhoSitsBy$Pupil")) (by decide) rfl (Nat.le_of_ble_eq_true rfl) ?_
  intro p e s m below meth c hx hb hml hown hts hr hlocks hK hN hA hI ls hl
  have hown : s.vm.findClass RX11 = some m.cls := hown
  have hl : lv_has ls 6 [(0, .int a0), (1, .int a1), (2, .int a2), (3, .int a3), (4, .int a4), (5, .int a5)] := hl
  have hin1 : ∀ w ∈ wsX10, w ∈ wsX11_made := fun _ h => List.mem_cons_of_mem _ (List.mem_append_left _ (List.mem_append_left _ (List.mem_append_left _ (List.mem_append_left _ (List.mem_append_left _ (List.mem_append_left _ (List.mem_append_right _ h)))))))
  have hin8 : ∀ w ∈ wsX80, w ∈ wsX11_made := fun _ h => List.mem_cons_of_mem _ (List.mem_append_left _ (List.mem_append_left _ (List.mem_append_left _ (List.mem_append_left _ (List.mem_append_left _ (List.mem_append_right _ h))))))
  have hin10 : ∀ w ∈ wsX100, w ∈ wsX11_made := fun _ h => List.mem_cons_of_mem _ (List.mem_append_left _ (List.mem_append_left _ (List.mem_append_left _ (List.mem_append_left _ (List.mem_append_right _ h)))))
  have hin3 : ∀ w ∈ wsX30, w ∈ wsX11_made := fun _ h => List.mem_cons_of_mem _ (List.mem_append_left _ (List.mem_append_left _ (List.mem_append_left _ (List.mem_append_right _ h))))
  have hin0 : ∀ w ∈ wsX00, w ∈ wsX11_made := fun _ h => List.mem_cons_of_mem _ (List.mem_append_left _ (List.mem_append_left _ (List.mem_append_right _ h)))
  have hin2 : ∀ w ∈ wsX20, w ∈ wsX11_made := fun _ h => List.mem_cons_of_mem _ (List.mem_append_left _ (List.mem_append_right _ h))
  have hin4 : ∀ w ∈ wsX40, w ∈ wsX11_made := fun _ h => List.mem_cons_of_mem _ (List.mem_append_right _ h)
  refine lv_iload_n hx hb dX11_made_0 rfl (lv_at hl 0 rfl) ?_
  by_cases q1_1 : a0 = (nI 1)
  · skip
    refine lv_tableIn (off := 39) (tgt := 40) hx hb dX11_made_1 (by rw [q1_1]; decide) (by rw [q1_1]; decide) (by rw [q1_1]; rfl) (by decide) ?_
    have hk : zkc a0 = 1 := by
      unfold zkc
      rw [if_pos q1_1]
    refine z_new (C := RX1) (T := TX1) (ci := 1) hx hb hts hin1 zTe1 hown (hts (.classLink RX11 317 RX1) (z_mem 1 rfl)) (hts (.instantiable RX1 5) (z_mem 2 rfl)) (hts (.initialized RX1) (z_mem 3 rfl)) hK hG hp hI hA rfl (Nat.le_of_ble_eq_true rfl) (Nat.le_of_ble_eq_true rfl) dX11_made_40 (fun q H hI => ?_)
    refine lv_dup hx hb dX11_made_43 rfl ?_
    refine lv_iload_n hx hb dX11_made_44 rfl (lv_at hl 1 rfl) ?_
    refine lv_iload_n hx hb dX11_made_45 rfl (lv_at hl 2 rfl) ?_
    refine lv_iload_n hx hb dX11_made_46 rfl (lv_at hl 3 rfl) ?_
    refine lv_iload hx hb dX11_made_47 (lv_at hl 4 rfl) ?_
    refine lv_iload hx hb dX11_made_49 (lv_at hl 5 rfl) ?_
    refine z_callv (va_runI (As := [.int a1, .int a2, .int a3, .int a4, .int a5]) (rest := [.ref (za (zGx G q 1) (zn G))]) ⟨hx, hb, hml, hown, hts⟩ ((c_X1_init l (zGx_ok (q := q) hG (show 1 = 0 ∨ 1 = 1 ∨ 1 = 2 ∨ 1 = 3 ∨ 1 = 4 ∨ 1 = 8 ∨ 1 = 10 by decide)) (zp0 x (zn G)) (zn G) hG.1 (Nat.lt_succ_self _) a1 a2 a3 a4 a5) A) (cwI 5 hts gX11_made_X1_init rfl rfl rfl (hts (.initialized RX1) (z_mem 3 rfl)) (hts (.methodLink RX11 319 yX1_init) (z_mem 22 rfl)) (hts (.instanceMethod yX1_init) (z_mem 23 rfl)) rfl (by decide +kernel) ⟨Nat.le_of_ble_eq_true rfl, Nat.le_of_ble_eq_true rfl⟩) (z_pS hI hK hN) rfl rfl hl.1 rfl (lv_room (Nat.le_of_ble_eq_true rfl)) dX11_made_51 ⟨Nat.le_of_ble_eq_true rfl, Nat.le_of_ble_eq_true rfl⟩) hI (fun u H locs hw hI => ?_)
    exact z_mret hx hb hr (Or.inl ⟨_, rfl⟩) hlocks hI ⟨q, by rw [hk]; exact congrArg (fun z => (zGx G q 1, z)) hw.symm⟩ rfl dX11_made_54
  by_cases q1_2 : a0 = (nI 2)
  · skip
    refine lv_tableIn (off := 54) (tgt := 55) hx hb dX11_made_1 (by rw [q1_2]; decide) (by rw [q1_2]; decide) (by rw [q1_2]; rfl) (by decide) ?_
    have hk : zkc a0 = 8 := by
      unfold zkc
      rw [if_neg (by rw [q1_2]; decide), if_pos q1_2]
    refine z_new (C := RX8) (T := TX8) (ci := 8) hx hb hts hin8 zTe8 hown (hts (.classLink RX11 322 RX8) (z_mem 4 rfl)) (hts (.instantiable RX8 5) (z_mem 5 rfl)) (hts (.initialized RX8) (z_mem 6 rfl)) hK hG hp hI hA rfl (Nat.le_of_ble_eq_true rfl) (Nat.le_of_ble_eq_true rfl) dX11_made_55 (fun q H hI => ?_)
    refine lv_dup hx hb dX11_made_58 rfl ?_
    refine lv_iload_n hx hb dX11_made_59 rfl (lv_at hl 1 rfl) ?_
    refine lv_iload_n hx hb dX11_made_60 rfl (lv_at hl 2 rfl) ?_
    refine lv_iload_n hx hb dX11_made_61 rfl (lv_at hl 3 rfl) ?_
    refine lv_iload hx hb dX11_made_62 (lv_at hl 4 rfl) ?_
    refine lv_iload hx hb dX11_made_64 (lv_at hl 5 rfl) ?_
    refine z_callv (va_runI (As := [.int a1, .int a2, .int a3, .int a4, .int a5]) (rest := [.ref (za (zGx G q 8) (zn G))]) ⟨hx, hb, hml, hown, hts⟩ ((c_X8_init l (zGx_ok (q := q) hG (show 8 = 0 ∨ 8 = 1 ∨ 8 = 2 ∨ 8 = 3 ∨ 8 = 4 ∨ 8 = 8 ∨ 8 = 10 by decide)) (zp0 x (zn G)) (zn G) hG.1 (Nat.lt_succ_self _) a1 a2 a3 a4 a5) A) (cwI 5 hts gX11_made_X8_init rfl rfl rfl (hts (.initialized RX8) (z_mem 6 rfl)) (hts (.methodLink RX11 324 yX8_init) (z_mem 36 rfl)) (hts (.instanceMethod yX8_init) (z_mem 37 rfl)) rfl (by decide +kernel) ⟨Nat.le_of_ble_eq_true rfl, Nat.le_of_ble_eq_true rfl⟩) (z_pS hI hK hN) rfl rfl hl.1 rfl (lv_room (Nat.le_of_ble_eq_true rfl)) dX11_made_66 ⟨Nat.le_of_ble_eq_true rfl, Nat.le_of_ble_eq_true rfl⟩) hI (fun u H locs hw hI => ?_)
    exact z_mret hx hb hr (Or.inl ⟨_, rfl⟩) hlocks hI ⟨q, by rw [hk]; exact congrArg (fun z => (zGx G q 8, z)) hw.symm⟩ rfl dX11_made_69
  by_cases q1_3 : a0 = (nI 3)
  · skip
    refine lv_tableIn (off := 69) (tgt := 70) hx hb dX11_made_1 (by rw [q1_3]; decide) (by rw [q1_3]; decide) (by rw [q1_3]; rfl) (by decide) ?_
    have hk : zkc a0 = 10 := by
      unfold zkc
      rw [if_neg (by rw [q1_3]; decide), if_neg (by rw [q1_3]; decide), if_pos q1_3]
    refine z_new (C := RX10) (T := TX10) (ci := 10) hx hb hts hin10 zTe10 hown (hts (.classLink RX11 325 RX10) (z_mem 7 rfl)) (hts (.instantiable RX10 5) (z_mem 8 rfl)) (hts (.initialized RX10) (z_mem 9 rfl)) hK hG hp hI hA rfl (Nat.le_of_ble_eq_true rfl) (Nat.le_of_ble_eq_true rfl) dX11_made_70 (fun q H hI => ?_)
    refine lv_dup hx hb dX11_made_73 rfl ?_
    refine lv_iload_n hx hb dX11_made_74 rfl (lv_at hl 1 rfl) ?_
    refine lv_iload_n hx hb dX11_made_75 rfl (lv_at hl 2 rfl) ?_
    refine lv_iload_n hx hb dX11_made_76 rfl (lv_at hl 3 rfl) ?_
    refine lv_iload hx hb dX11_made_77 (lv_at hl 4 rfl) ?_
    refine lv_iload hx hb dX11_made_79 (lv_at hl 5 rfl) ?_
    refine z_callv (va_runI (As := [.int a1, .int a2, .int a3, .int a4, .int a5]) (rest := [.ref (za (zGx G q 10) (zn G))]) ⟨hx, hb, hml, hown, hts⟩ ((c_X10_init l (zGx_ok (q := q) hG (show 10 = 0 ∨ 10 = 1 ∨ 10 = 2 ∨ 10 = 3 ∨ 10 = 4 ∨ 10 = 8 ∨ 10 = 10 by decide)) (zp0 x (zn G)) (zn G) hG.1 (Nat.lt_succ_self _) a1 a2 a3 a4 a5) A) (cwI 5 hts gX11_made_X10_init rfl rfl rfl (hts (.initialized RX10) (z_mem 9 rfl)) (hts (.methodLink RX11 327 yX10_init) (z_mem 40 rfl)) (hts (.instanceMethod yX10_init) (z_mem 41 rfl)) rfl (by decide +kernel) ⟨Nat.le_of_ble_eq_true rfl, Nat.le_of_ble_eq_true rfl⟩) (z_pS hI hK hN) rfl rfl hl.1 rfl (lv_room (Nat.le_of_ble_eq_true rfl)) dX11_made_81 ⟨Nat.le_of_ble_eq_true rfl, Nat.le_of_ble_eq_true rfl⟩) hI (fun u H locs hw hI => ?_)
    exact z_mret hx hb hr (Or.inl ⟨_, rfl⟩) hlocks hI ⟨q, by rw [hk]; exact congrArg (fun z => (zGx G q 10, z)) hw.symm⟩ rfl dX11_made_84
  by_cases q1_4 : a0 = (nI 4)
  · skip
    refine lv_tableIn (off := 84) (tgt := 85) hx hb dX11_made_1 (by rw [q1_4]; decide) (by rw [q1_4]; decide) (by rw [q1_4]; rfl) (by decide) ?_
    have hk : zkc a0 = 3 := by
      unfold zkc
      rw [if_neg (by rw [q1_4]; decide), if_neg (by rw [q1_4]; decide), if_neg (by rw [q1_4]; decide), if_pos q1_4]
    refine z_new (C := RX3) (T := TX3) (ci := 3) hx hb hts hin3 zTe3 hown (hts (.classLink RX11 328 RX3) (z_mem 10 rfl)) (hts (.instantiable RX3 5) (z_mem 11 rfl)) (hts (.initialized RX3) (z_mem 12 rfl)) hK hG hp hI hA rfl (Nat.le_of_ble_eq_true rfl) (Nat.le_of_ble_eq_true rfl) dX11_made_85 (fun q H hI => ?_)
    refine lv_dup hx hb dX11_made_88 rfl ?_
    refine lv_iload_n hx hb dX11_made_89 rfl (lv_at hl 1 rfl) ?_
    refine lv_iload_n hx hb dX11_made_90 rfl (lv_at hl 2 rfl) ?_
    refine lv_iload_n hx hb dX11_made_91 rfl (lv_at hl 3 rfl) ?_
    refine lv_iload hx hb dX11_made_92 (lv_at hl 4 rfl) ?_
    refine lv_iload hx hb dX11_made_94 (lv_at hl 5 rfl) ?_
    refine z_callv (va_runI (As := [.int a1, .int a2, .int a3, .int a4, .int a5]) (rest := [.ref (za (zGx G q 3) (zn G))]) ⟨hx, hb, hml, hown, hts⟩ ((c_X3_init l (zGx_ok (q := q) hG (show 3 = 0 ∨ 3 = 1 ∨ 3 = 2 ∨ 3 = 3 ∨ 3 = 4 ∨ 3 = 8 ∨ 3 = 10 by decide)) (zp0 x (zn G)) (zn G) hG.1 (Nat.lt_succ_self _) a1 a2 a3 a4 a5) A) (cwI 5 hts gX11_made_X3_init rfl rfl rfl (hts (.initialized RX3) (z_mem 12 rfl)) (hts (.methodLink RX11 330 yX3_init) (z_mem 44 rfl)) (hts (.instanceMethod yX3_init) (z_mem 45 rfl)) rfl (by decide +kernel) ⟨Nat.le_of_ble_eq_true rfl, Nat.le_of_ble_eq_true rfl⟩) (z_pS hI hK hN) rfl rfl hl.1 rfl (lv_room (Nat.le_of_ble_eq_true rfl)) dX11_made_96 ⟨Nat.le_of_ble_eq_true rfl, Nat.le_of_ble_eq_true rfl⟩) hI (fun u H locs hw hI => ?_)
    exact z_mret hx hb hr (Or.inl ⟨_, rfl⟩) hlocks hI ⟨q, by rw [hk]; exact congrArg (fun z => (zGx G q 3, z)) hw.symm⟩ rfl dX11_made_99
  by_cases q1_5 : a0 = (nI 5)
  · skip
    refine lv_tableIn (off := 99) (tgt := 100) hx hb dX11_made_1 (by rw [q1_5]; decide) (by rw [q1_5]; decide) (by rw [q1_5]; rfl) (by decide) ?_
    have hk : zkc a0 = 0 := by
      unfold zkc
      rw [if_neg (by rw [q1_5]; decide), if_neg (by rw [q1_5]; decide), if_neg (by rw [q1_5]; decide), if_neg (by rw [q1_5]; decide), if_pos q1_5]
    refine z_new (C := RX0) (T := TX0) (ci := 0) hx hb hts hin0 zTe0 hown (hts (.classLink RX11 331 RX0) (z_mem 13 rfl)) (hts (.instantiable RX0 5) (z_mem 14 rfl)) (hts (.initialized RX0) (z_mem 15 rfl)) hK hG hp hI hA rfl (Nat.le_of_ble_eq_true rfl) (Nat.le_of_ble_eq_true rfl) dX11_made_100 (fun q H hI => ?_)
    refine lv_dup hx hb dX11_made_103 rfl ?_
    refine lv_iload_n hx hb dX11_made_104 rfl (lv_at hl 1 rfl) ?_
    refine lv_iload_n hx hb dX11_made_105 rfl (lv_at hl 2 rfl) ?_
    refine lv_iload_n hx hb dX11_made_106 rfl (lv_at hl 3 rfl) ?_
    refine lv_iload hx hb dX11_made_107 (lv_at hl 4 rfl) ?_
    refine lv_iload hx hb dX11_made_109 (lv_at hl 5 rfl) ?_
    refine z_callv (va_runI (As := [.int a1, .int a2, .int a3, .int a4, .int a5]) (rest := [.ref (za (zGx G q 0) (zn G))]) ⟨hx, hb, hml, hown, hts⟩ ((c_X0_init l (zGx_ok (q := q) hG (show 0 = 0 ∨ 0 = 1 ∨ 0 = 2 ∨ 0 = 3 ∨ 0 = 4 ∨ 0 = 8 ∨ 0 = 10 by decide)) (zp0 x (zn G)) (zn G) hG.1 (Nat.lt_succ_self _) a1 a2 a3 a4 a5) A) (cwI 5 hts gX11_made_X0_init rfl rfl rfl (hts (.initialized RX0) (z_mem 15 rfl)) (hts (.methodLink RX11 333 yX0_init) (z_mem 48 rfl)) (hts (.instanceMethod yX0_init) (z_mem 49 rfl)) rfl (by decide +kernel) ⟨Nat.le_of_ble_eq_true rfl, Nat.le_of_ble_eq_true rfl⟩) (z_pS hI hK hN) rfl rfl hl.1 rfl (lv_room (Nat.le_of_ble_eq_true rfl)) dX11_made_111 ⟨Nat.le_of_ble_eq_true rfl, Nat.le_of_ble_eq_true rfl⟩) hI (fun u H locs hw hI => ?_)
    exact z_mret hx hb hr (Or.inl ⟨_, rfl⟩) hlocks hI ⟨q, by rw [hk]; exact congrArg (fun z => (zGx G q 0, z)) hw.symm⟩ rfl dX11_made_114
  by_cases q1_6 : a0 = (nI 6)
  · skip
    refine lv_tableIn (off := 114) (tgt := 115) hx hb dX11_made_1 (by rw [q1_6]; decide) (by rw [q1_6]; decide) (by rw [q1_6]; rfl) (by decide) ?_
    have hk : zkc a0 = 2 := by
      unfold zkc
      rw [if_neg (by rw [q1_6]; decide), if_neg (by rw [q1_6]; decide), if_neg (by rw [q1_6]; decide), if_neg (by rw [q1_6]; decide), if_neg (by rw [q1_6]; decide), if_pos q1_6]
    refine z_new (C := RX2) (T := TX2) (ci := 2) hx hb hts hin2 zTe2 hown (hts (.classLink RX11 334 RX2) (z_mem 16 rfl)) (hts (.instantiable RX2 5) (z_mem 17 rfl)) (hts (.initialized RX2) (z_mem 18 rfl)) hK hG hp hI hA rfl (Nat.le_of_ble_eq_true rfl) (Nat.le_of_ble_eq_true rfl) dX11_made_115 (fun q H hI => ?_)
    refine lv_dup hx hb dX11_made_118 rfl ?_
    refine lv_iload_n hx hb dX11_made_119 rfl (lv_at hl 1 rfl) ?_
    refine lv_iload_n hx hb dX11_made_120 rfl (lv_at hl 2 rfl) ?_
    refine lv_iload_n hx hb dX11_made_121 rfl (lv_at hl 3 rfl) ?_
    refine lv_iload hx hb dX11_made_122 (lv_at hl 4 rfl) ?_
    refine lv_iload hx hb dX11_made_124 (lv_at hl 5 rfl) ?_
    refine z_callv (va_runI (As := [.int a1, .int a2, .int a3, .int a4, .int a5]) (rest := [.ref (za (zGx G q 2) (zn G))]) ⟨hx, hb, hml, hown, hts⟩ ((c_X2_init l (zGx_ok (q := q) hG (show 2 = 0 ∨ 2 = 1 ∨ 2 = 2 ∨ 2 = 3 ∨ 2 = 4 ∨ 2 = 8 ∨ 2 = 10 by decide)) (zp0 x (zn G)) (zn G) hG.1 (Nat.lt_succ_self _) a1 a2 a3 a4 a5) A) (cwI 5 hts gX11_made_X2_init rfl rfl rfl (hts (.initialized RX2) (z_mem 18 rfl)) (hts (.methodLink RX11 336 yX2_init) (z_mem 52 rfl)) (hts (.instanceMethod yX2_init) (z_mem 53 rfl)) rfl (by decide +kernel) ⟨Nat.le_of_ble_eq_true rfl, Nat.le_of_ble_eq_true rfl⟩) (z_pS hI hK hN) rfl rfl hl.1 rfl (lv_room (Nat.le_of_ble_eq_true rfl)) dX11_made_126 ⟨Nat.le_of_ble_eq_true rfl, Nat.le_of_ble_eq_true rfl⟩) hI (fun u H locs hw hI => ?_)
    exact z_mret hx hb hr (Or.inl ⟨_, rfl⟩) hlocks hI ⟨q, by rw [hk]; exact congrArg (fun z => (zGx G q 2, z)) hw.symm⟩ rfl dX11_made_129
  refine lv_tableOut (tgt := 130) hx hb dX11_made_1 (by have := lv_neT (a := 1) q1_1 rfl; have := lv_neT (a := 2) q1_2 rfl; have := lv_neT (a := 3) q1_3 rfl; have := lv_neT (a := 4) q1_4 rfl; have := lv_neT (a := 5) q1_5 rfl; have := lv_neT (a := 6) q1_6 rfl; omega) (by decide) ?_
  have hk : zkc a0 = 4 := by
    unfold zkc
    rw [if_neg q1_1, if_neg q1_2, if_neg q1_3, if_neg q1_4, if_neg q1_5, if_neg q1_6]
  refine z_new (C := RX4) (T := TX4) (ci := 4) hx hb hts hin4 (fun _ => rfl) hown (hts (.classLink RX11 87 RX4) (z_mem 19 rfl)) (hts (.instantiable RX4 5) (z_mem 20 rfl)) (hts (.initialized RX4) (z_mem 21 rfl)) hK hG hp hI hA rfl (Nat.le_of_ble_eq_true rfl) (Nat.le_of_ble_eq_true rfl) dX11_made_130 (fun q H hI => ?_)
  refine lv_dup hx hb dX11_made_133 rfl ?_
  refine lv_iload_n hx hb dX11_made_134 rfl (lv_at hl 1 rfl) ?_
  refine lv_iload_n hx hb dX11_made_135 rfl (lv_at hl 2 rfl) ?_
  refine lv_iload_n hx hb dX11_made_136 rfl (lv_at hl 3 rfl) ?_
  refine lv_iload hx hb dX11_made_137 (lv_at hl 4 rfl) ?_
  refine lv_iload hx hb dX11_made_139 (lv_at hl 5 rfl) ?_
  refine z_callv (va_runI (As := [.int a1, .int a2, .int a3, .int a4, .int a5]) (rest := [.ref (za (zGx G q 4) (zn G))]) ⟨hx, hb, hml, hown, hts⟩ ((c_X4_init l (zGx_ok (q := q) hG (show 4 = 0 ∨ 4 = 1 ∨ 4 = 2 ∨ 4 = 3 ∨ 4 = 4 ∨ 4 = 8 ∨ 4 = 10 by decide)) (zp0 x (zn G)) (zn G) hG.1 (Nat.lt_succ_self _) a1 a2 a3 a4 a5) A) (cwI 5 hts gX11_made_X4_init rfl rfl rfl (hts (.initialized RX4) (z_mem 21 rfl)) (hts (.methodLink RX11 337 yX4_init) (z_mem 56 rfl)) (hts (.instanceMethod yX4_init) (z_mem 26 rfl)) rfl (by decide +kernel) ⟨Nat.le_of_ble_eq_true rfl, Nat.le_of_ble_eq_true rfl⟩) (z_pS hI hK hN) rfl rfl hl.1 rfl (lv_room (Nat.le_of_ble_eq_true rfl)) dX11_made_141 ⟨Nat.le_of_ble_eq_true rfl, Nat.le_of_ble_eq_true rfl⟩) hI (fun u H locs hw hI => ?_)
  exact z_mret hx hb hr (Or.inl ⟨_, rfl⟩) hlocks hI ⟨q, by rw [hk]; exact congrArg (fun z => (zGx G q 4, z)) hw.symm⟩ rfl dX11_made_144
set_option maxHeartbeats 1000000 in
set_option maxRecDepth 100000 in
theorem c_X7_add (l : Launch) {G : zG} (hG : zOK G) (x : zX) (N t1 o : Nat) (h8 : N < 8) (hsz : x.1 1 3 = nI N) (ht1 : t1 < 8) (hfd : zfind (x.1 4) (-1) 0 8 = nI t1) (ho1 : 112 ≤ o) (ho2 : o < zn G) : zMv l yX7_add wsX7_add { frames := 1, cells := 0, slots := 0, locals := 22 } G [.ref (za G 1), .ref (za G o)] x (fun (u : zX) => zadd x N t1 o = u) := by
  intro A
  refine zBody (cc := cX7_add) (maxL := 3) (ret := none) (by decide) rfl (Nat.le_of_ble_eq_true rfl) ?_
  intro p e s m below meth c hx hb hml hown hts hr hlocks hK hN hI ls hl
  have hown : s.vm.findClass RX7 = some m.cls := hown
  have hl : lv_has ls 3 [(0, .ref (za G 1)), (1, .ref (za G o))] := hl
  have hin7 : ∀ w ∈ wsX70, w ∈ wsX7_add := (fun _ h => List.mem_cons_of_mem _ (List.mem_append_right _ (h)))
  have wF17 := hts (.fieldLink RX7 17 "WhoSitsBy$Standing" "sitters" "[I") (z_mem 1 rfl)
  have wF28 := hts (.fieldLink RX7 28 "WhoSitsBy$Standing" "size" "I") (z_mem 2 rfl)
  have wF11 := hts (.fieldLink RX7 11 "WhoSitsBy$Standing" "pupils" "[LWhoSitsBy$Pupil;") (z_mem 3 rfl)
  have wF21 := hts (.fieldLink RX7 21 "WhoSitsBy$Standing" "slipOf" "[I") (z_mem 4 rfl)
  refine lv_aload_n hx hb dX7_add_0 rfl (lv_at hl 0 rfl) ?_
  refine z_get (C := RX7) (T := TX7) (N := 7) (ci := 7) (v := .ref (za G 4)) hx hb hts hin7 hown hK hI (zo1 hG) rfl 1 (by decide) wF17 (fun _ h9 => h9) rfl dX7_add_1 ?_
  refine lv_iconst (v := (-1)) hx hb dX7_add_4 rfl ?_
  refine z_calli (va_runSN (As := [.ref (za G 4), .int (-1)]) (rest := []) ⟨hx, hb, hml, hown, hts⟩ ((c_X11_seatIn l hG x 4 (-1) (zo4 hG)) A) ⟨va_cnB 2 hts gX7_add_X11_seatIn_n38 rfl rfl rfl (hN.1 _ (z_mem 0 rfl)) (hts (.initialized RX11) (z_mem 6 rfl)) (by decide +kernel) ⟨Nat.le_of_ble_eq_true rfl, Nat.le_of_ble_eq_true rfl⟩, hts (.static yX11_seatIn) (z_mem 5 rfl), trivial⟩ (z_pS hI hK hN) rfl rfl hl.1 rfl (lv_room (Nat.le_of_ble_eq_true rfl)) dX7_add_5 ⟨Nat.zero_le _, Nat.zero_le _⟩) hI (fun r_5 u H locs hw hI => ?_)
  obtain ⟨rfl, rfl⟩ := hw
  rw [hfd]
  refine lv_istore_n (lv' := [(2, .int (nI t1)), (0, .ref (za G 1)), (1, .ref (za G o))]) hx hb dX7_add_8 rfl hl (by decide) rfl (fun ls hl => ?_)
  refine lv_aload_n hx hb dX7_add_9 rfl (lv_at hl 1 rfl) ?_
  refine z_get (C := RX7) (T := TX7) (N := 7) (ci := 7) (v := .int (nI N)) hx hb hts hin7 hown hK hI (zo1 hG) rfl 3 (by decide) wF28 (fun _ h9 => h9) (congrArg (fun q => some (Value.int q)) hsz) dX7_add_10 ?_
  refine lv_bipush (v := (nI 8)) hx hb dX7_add_13 rfl ?_
  refine lv_icmp_ge (tgt := 28) hx hb dX7_add_15 (by decide) (fun c_15 => ?_) (fun c_15 => ?_)
  · skip
    rw [zqG (by omega) (by omega)] at c_15
    exact absurd c_15 (by omega)
  · skip
    rw [zqG (by omega) (by omega)] at c_15
    refine lv_iload_n hx hb dX7_add_18 rfl (lv_at hl 0 rfl) ?_
    refine lv_if_lt (tgt := 28) hx hb dX7_add_19 (by decide) (fun c_19 => ?_) (fun c_19 => ?_)
    · skip
      rw [show (0 : Int32) = nI 0 from rfl] at c_19; rw [zqL (by omega) (by omega)] at c_19
      exact absurd c_19 (by omega)
    · skip
      rw [show (0 : Int32) = nI 0 from rfl] at c_19; rw [zqL (by omega) (by omega)] at c_19
      refine lv_iload_n hx hb dX7_add_22 rfl (lv_at hl 0 rfl) ?_
      refine lv_bipush (v := (nI 8)) hx hb dX7_add_23 rfl ?_
      refine lv_icmp_lt (tgt := 29) hx hb dX7_add_25 (by decide) (fun c_25 => ?_) (fun c_25 => ?_)
      · skip
        rw [zqL (by omega) (by omega)] at c_25
        refine lv_aload_n hx hb dX7_add_29 rfl (lv_at hl 1 rfl) ?_
        refine z_get (C := RX7) (T := TX7) (N := 7) (ci := 7) (v := .ref (za G 3)) hx hb hts hin7 hown hK hI (zo1 hG) rfl 0 (by decide) wF11 (fun _ h9 => h9) rfl dX7_add_30 ?_
        refine lv_aload_n hx hb dX7_add_33 rfl (lv_at hl 1 rfl) ?_
        refine z_get (C := RX7) (T := TX7) (N := 7) (ci := 7) (v := .int (nI N)) hx hb hts hin7 hown hK hI (zo1 hG) rfl 3 (by decide) wF28 (fun _ h9 => h9) (congrArg (fun q => some (Value.int q)) hsz) dX7_add_34 ?_
        refine lv_aload_n hx hb dX7_add_37 rfl (lv_at hl 2 rfl) ?_
        refine z_pastP hx hb hN hK hG hI (zo3 hG) ho1 ho2 N rfl (by omega) (by decide) dX7_add_38 (fun H locs hI => ?_)
        refine lv_aload_n hx hb dX7_add_39 rfl (lv_at hl 1 rfl) ?_
        refine z_get (C := RX7) (T := TX7) (N := 7) (ci := 7) (v := .ref (za G 5)) hx hb hts hin7 hown hK hI (zo1 hG) rfl 2 (by decide) wF21 (fun _ h9 => h9) rfl dX7_add_40 ?_
        refine lv_aload_n hx hb dX7_add_43 rfl (lv_at hl 1 rfl) ?_
        refine z_get (C := RX7) (T := TX7) (N := 7) (ci := 7) (v := .int (nI N)) hx hb hts hin7 hown hK hI (zo1 hG) rfl 3 (by decide) wF28 (fun _ h9 => h9) (congrArg (fun q => some (Value.int q)) hsz) dX7_add_44 ?_
        refine lv_iconst (v := (-1)) hx hb dX7_add_47 rfl ?_
        refine z_iast (y := (-1)) hx hb hK hI (zo5 hG) N rfl (by omega) (by decide) dX7_add_48 (fun H locs hI => ?_)
        refine lv_aload_n hx hb dX7_add_49 rfl (lv_at hl 1 rfl) ?_
        refine z_get (C := RX7) (T := TX7) (N := 7) (ci := 7) (v := .ref (za G 4)) hx hb hts hin7 hown hK hI (zo1 hG) rfl 1 (by decide) wF17 (fun _ h9 => h9) rfl dX7_add_50 ?_
        refine lv_iload_n hx hb dX7_add_53 rfl (lv_at hl 0 rfl) ?_
        refine lv_aload_n hx hb dX7_add_54 rfl (lv_at hl 1 rfl) ?_
        refine z_get (C := RX7) (T := TX7) (N := 7) (ci := 7) (v := .int (nI N)) hx hb hts hin7 hown hK hI (zo1 hG) rfl 3 (by decide) wF28 (fun _ h9 => h9) (congrArg (fun q => some (Value.int q)) hsz) dX7_add_55 ?_
        refine z_iast (y := (nI N)) hx hb hK hI (zo4 hG) t1 rfl (by omega) (by decide) dX7_add_58 (fun H locs hI => ?_)
        refine lv_aload_n hx hb dX7_add_59 rfl (lv_at hl 1 rfl) ?_
        refine lv_dup hx hb dX7_add_60 rfl ?_
        refine z_get (C := RX7) (T := TX7) (N := 7) (ci := 7) (v := .int (nI N)) hx hb hts hin7 hown hK hI (zo1 hG) rfl 3 (by decide) wF28 (fun _ h9 => h9) (congrArg (fun q => some (Value.int q)) hsz) dX7_add_61 ?_
        refine lv_iconst (v := (nI 1)) hx hb dX7_add_64 rfl ?_
        refine z_iadd (v := (nI (N + 1))) hx hb (nI_add _ _) dX7_add_65 ?_
        refine z_putI (C := RX7) (T := TX7) (N := 7) (ci := 7) (ty := .int) hx hb hts hin7 tyX7 tyX7_ok nmX7 hown hK hI (zo1 hG) rfl 3 (by decide) wF28 (fun _ h9 => h9) rfl (fun _ _ => rfl) (by decide +kernel) rfl rfl (fun _ _ => Nat.le_of_ble_eq_true rfl) dX7_add_66 (fun H locs hI => ?_)
        exact z_vret hx hb hr hlocks hI (rfl) dX7_add_69
      · skip
        rw [zqL (by omega) (by omega)] at c_25
        exact absurd c_25 (by omega)
set_option maxHeartbeats 1000000 in
set_option maxRecDepth 100000 in
theorem c_X11_pupil (l : Launch) {G : zG} (hG : zOK G) (x : zX) (N t1 : Nat) (a v tk kn tg : Int32) (hp : zPw G x) (h8 : N ≤ 8) (hsz : x.1 1 3 = nI N) (hfr : N < 8 → t1 < 8 ∧ zfind (x.1 4) (-1) 0 8 = nI t1) : zMg l yX11_pupil wsX11_pupil { frames := 5, cells := 1, slots := 5, locals := 112 } G [.ref (za G 0), .int a, .int v, .int tk, .int kn, .int tg] x (fun (r : Int32) (u : zG × zX) => (¬ zpg1 a ∧ (G, x) = u ∧ -1 = r) ∨ (zpg1 a ∧ ¬ zpg2 v tk kn tg ∧ (G, x) = u ∧ -2 = r) ∨ (zpg1 a ∧ zpg2 v tk kn tg ∧ N = 8 ∧ (G, x) = u ∧ -4 = r) ∨ (zpg1 a ∧ zpg2 v tk kn tg ∧ N < 8 ∧ (∃ q, (zGx G q (zkc a), zppC x (zn G) N t1 v tk kn tg) = u) ∧ nI N = r)) := by
  intro A
  refine zBodyN (cc := cX11_pupil) (maxL := 7) (ret := (some .int)) (by decide) rfl (Nat.le_of_ble_eq_true rfl) ?_
  intro p e s m below meth c hx hb hml hown hts hr hlocks hK hN hA hI ls hl
  have hown : s.vm.findClass RX11 = some m.cls := hown
  have hl : lv_has ls 7 [(0, .ref (za G 0)), (1, .int a), (2, .int v), (3, .int tk), (4, .int kn), (5, .int tg)] := hl
  have hin7 : ∀ w ∈ wsX70, w ∈ wsX11_pupil := (fun _ h => List.mem_cons_of_mem _ (List.mem_append_left _ (List.mem_append_left _ (List.mem_append_left _ (List.mem_append_left _ (List.mem_append_left _ (List.mem_append_left _ (List.mem_append_left _ (List.mem_append_right _ (h))))))))))
  have hin11 : ∀ w ∈ wsX110, w ∈ wsX11_pupil := (fun _ h => List.mem_cons_of_mem _ (List.mem_append_left _ (List.mem_append_left _ (List.mem_append_left _ (List.mem_append_left _ (List.mem_append_left _ (List.mem_append_left _ (List.mem_append_left _ (List.mem_append_left _ (List.mem_append_right _ (h)))))))))))
  have wF12 := hts (.fieldLink RX11 12 "WhoSitsBy" "now" "LWhoSitsBy$Standing;") (z_mem 1 rfl)
  have wF66 := hts (.fieldLink RX11 66 "WhoSitsBy$Standing" "size" "I") (z_mem 2 rfl)
  have wF78 := hts (.fieldLink RX11 78 "WhoSitsBy" "counted" "Z") (z_mem 3 rfl)
  refine lv_iload_n hx hb dX11_pupil_0 rfl (lv_at hl 1 rfl) ?_
  refine lv_if_lt (tgt := 10) hx hb dX11_pupil_1 (by decide) (fun c_1 => ?_) (fun c_1 => ?_)
  · skip
    refine lv_iconst (v := (-1)) hx hb dX11_pupil_10 rfl ?_
    exact zmore (c2 := 1) (s2 := 5) (Nat.zero_le _) (Nat.zero_le _) <| z_gret hx hb hr hlocks hI (Or.inl ⟨fun h => h.1 c_1, rfl, rfl⟩) dX11_pupil_11
  · skip
    refine lv_iload_n hx hb dX11_pupil_4 rfl (lv_at hl 1 rfl) ?_
    refine lv_bipush (v := (nI 6)) hx hb dX11_pupil_5 rfl ?_
    refine lv_icmp_le (tgt := 12) hx hb dX11_pupil_7 (by decide) (fun c_7 => ?_) (fun c_7 => ?_)
    · skip
      refine lv_iload_n hx hb dX11_pupil_12 rfl (lv_at hl 2 rfl) ?_
      refine z_calli (va_runS (As := [.int v]) (rest := []) ⟨hx, hb, hml, hown, hts⟩ ((c_X11_isDigit l hG x v) A) (va_cwS 1 hts gX11_pupil_X11_isDigit rfl rfl rfl (by decide +kernel) ⟨Nat.le_of_ble_eq_true rfl, Nat.le_of_ble_eq_true rfl⟩) (z_pS hI hK hN) rfl rfl hl.1 rfl (lv_room (Nat.le_of_ble_eq_true rfl)) dX11_pupil_13 ⟨Nat.zero_le _, Nat.zero_le _⟩) hI (fun r_13 u H locs hw hI => ?_)
      obtain ⟨rfl, rfl⟩ := hw
      refine lv_if_eq (tgt := 45) hx hb dX11_pupil_16 (by decide) (fun c_16 => ?_) (fun c_16 => ?_)
      · skip
        rw [zb_0] at c_16
        refine lv_bipush (v := (-2)) hx hb dX11_pupil_45 rfl ?_
        exact zmore (c2 := 1) (s2 := 5) (Nat.zero_le _) (Nat.zero_le _) <| z_gret hx hb hr hlocks hI (Or.inr (Or.inl ⟨⟨c_1, z_nle c_7⟩, fun h => c_16 h.1, rfl, rfl⟩)) dX11_pupil_47
      · skip
        rw [zb_0, Classical.not_not] at c_16
        refine lv_iload_n hx hb dX11_pupil_19 rfl (lv_at hl 3 rfl) ?_
        refine z_calli (va_runS (As := [.int tk]) (rest := []) ⟨hx, hb, hml, hown, hts⟩ ((c_X11_isDigit l hG x tk) A) (va_cwS 1 hts gX11_pupil_X11_isDigit rfl rfl rfl (by decide +kernel) ⟨Nat.le_of_ble_eq_true rfl, Nat.le_of_ble_eq_true rfl⟩) (z_pS hI hK hN) rfl rfl hl.1 rfl (lv_room (Nat.le_of_ble_eq_true rfl)) dX11_pupil_20 ⟨Nat.zero_le _, Nat.zero_le _⟩) hI (fun r_20 u H locs hw hI => ?_)
        obtain ⟨rfl, rfl⟩ := hw
        refine lv_if_eq (tgt := 45) hx hb dX11_pupil_23 (by decide) (fun c_23 => ?_) (fun c_23 => ?_)
        · skip
          rw [zb_0] at c_23
          refine lv_bipush (v := (-2)) hx hb dX11_pupil_45 rfl ?_
          exact zmore (c2 := 1) (s2 := 5) (Nat.zero_le _) (Nat.zero_le _) <| z_gret hx hb hr hlocks hI (Or.inr (Or.inl ⟨⟨c_1, z_nle c_7⟩, fun h => c_23 h.2.1, rfl, rfl⟩)) dX11_pupil_47
        · skip
          rw [zb_0, Classical.not_not] at c_23
          refine lv_iload hx hb dX11_pupil_26 (lv_at hl 4 rfl) ?_
          refine z_calli (va_runS (As := [.int kn]) (rest := []) ⟨hx, hb, hml, hown, hts⟩ ((c_X11_isDigit l hG x kn) A) (va_cwS 1 hts gX11_pupil_X11_isDigit rfl rfl rfl (by decide +kernel) ⟨Nat.le_of_ble_eq_true rfl, Nat.le_of_ble_eq_true rfl⟩) (z_pS hI hK hN) rfl rfl hl.1 rfl (lv_room (Nat.le_of_ble_eq_true rfl)) dX11_pupil_28 ⟨Nat.zero_le _, Nat.zero_le _⟩) hI (fun r_28 u H locs hw hI => ?_)
          obtain ⟨rfl, rfl⟩ := hw
          refine lv_if_eq (tgt := 45) hx hb dX11_pupil_31 (by decide) (fun c_31 => ?_) (fun c_31 => ?_)
          · skip
            rw [zb_0] at c_31
            refine lv_bipush (v := (-2)) hx hb dX11_pupil_45 rfl ?_
            exact zmore (c2 := 1) (s2 := 5) (Nat.zero_le _) (Nat.zero_le _) <| z_gret hx hb hr hlocks hI (Or.inr (Or.inl ⟨⟨c_1, z_nle c_7⟩, fun h => c_31 h.2.2.1, rfl, rfl⟩)) dX11_pupil_47
          · skip
            rw [zb_0, Classical.not_not] at c_31
            refine lv_iload hx hb dX11_pupil_34 (lv_at hl 5 rfl) ?_
            refine lv_if_lt (tgt := 45) hx hb dX11_pupil_36 (by decide) (fun c_36 => ?_) (fun c_36 => ?_)
            · skip
              refine lv_bipush (v := (-2)) hx hb dX11_pupil_45 rfl ?_
              exact zmore (c2 := 1) (s2 := 5) (Nat.zero_le _) (Nat.zero_le _) <| z_gret hx hb hr hlocks hI (Or.inr (Or.inl ⟨⟨c_1, z_nle c_7⟩, fun h => h.2.2.2.1 c_36, rfl, rfl⟩)) dX11_pupil_47
            · skip
              refine lv_iload hx hb dX11_pupil_39 (lv_at hl 5 rfl) ?_
              refine lv_iconst (v := (nI 2)) hx hb dX11_pupil_41 rfl ?_
              refine lv_icmp_le (tgt := 48) hx hb dX11_pupil_42 (by decide) (fun c_42 => ?_) (fun c_42 => ?_)
              · skip
                refine lv_aload_n hx hb dX11_pupil_48 rfl (lv_at hl 0 rfl) ?_
                refine z_get (C := RX11) (T := TX11) (N := 14) (ci := 11) (v := .ref (za G 1)) hx hb hts hin11 hown hK hI (zo0 hG) rfl 0 (by decide) wF12 (fun _ h9 => h9) rfl dX11_pupil_49 ?_
                refine z_get (C := RX7) (T := TX7) (N := 7) (ci := 7) (v := .int (nI N)) hx hb hts hin7 hown hK hI (zo1 hG) rfl 3 (by decide) wF66 (fun _ h9 => h9) (congrArg (fun q => some (Value.int q)) hsz) dX11_pupil_52 ?_
                refine lv_bipush (v := (nI 8)) hx hb dX11_pupil_55 rfl ?_
                refine lv_icmp_lt (tgt := 63) hx hb dX11_pupil_57 (by decide) (fun c_57 => ?_) (fun c_57 => ?_)
                · skip
                  rw [zqL (by omega) (by omega)] at c_57
                  obtain ⟨ht1, hfd⟩ := hfr (by omega)
                  refine lv_aload_n hx hb dX11_pupil_63 rfl (lv_at hl 0 rfl) ?_
                  refine z_get (C := RX11) (T := TX11) (N := 14) (ci := 11) (v := .ref (za G 1)) hx hb hts hin11 hown hK hI (zo0 hG) rfl 0 (by decide) wF12 (fun _ h9 => h9) rfl dX11_pupil_64 ?_
                  refine z_get (C := RX7) (T := TX7) (N := 7) (ci := 7) (v := .int (nI N)) hx hb hts hin7 hown hK hI (zo1 hG) rfl 3 (by decide) wF66 (fun _ h9 => h9) (congrArg (fun q => some (Value.int q)) hsz) dX11_pupil_67 ?_
                  refine lv_istore (lv' := [(6, .int (nI N)), (0, .ref (za G 0)), (1, .int a), (2, .int v), (3, .int tk), (4, .int kn), (5, .int tg)]) hx hb dX11_pupil_70 hl (by decide) rfl (fun ls hl => ?_)
                  refine lv_aload_n hx hb dX11_pupil_72 rfl (lv_at hl 1 rfl) ?_
                  refine z_get (C := RX11) (T := TX11) (N := 14) (ci := 11) (v := .ref (za G 1)) hx hb hts hin11 hown hK hI (zo0 hG) rfl 0 (by decide) wF12 (fun _ h9 => h9) rfl dX11_pupil_73 ?_
                  refine lv_iload_n hx hb dX11_pupil_76 rfl (lv_at hl 2 rfl) ?_
                  refine lv_iload hx hb dX11_pupil_77 (lv_at hl 0 rfl) ?_
                  refine lv_iload_n hx hb dX11_pupil_79 rfl (lv_at hl 3 rfl) ?_
                  refine lv_iload_n hx hb dX11_pupil_80 rfl (lv_at hl 4 rfl) ?_
                  refine lv_iload hx hb dX11_pupil_81 (lv_at hl 5 rfl) ?_
                  refine lv_iload hx hb dX11_pupil_83 (lv_at hl 6 rfl) ?_
                  refine z_callm (va_runS (As := [.int a, .int (nI N), .int v, .int tk, .int kn, .int tg]) (rest := [.ref (za G 1)]) ⟨hx, hb, hml, hown, hts⟩ ((c_X11_made l hG x hp a (nI N) v tk kn tg) A) (va_cwS 6 hts gX11_pupil_X11_made rfl rfl rfl (by decide +kernel) ⟨Nat.le_of_ble_eq_true rfl, Nat.le_of_ble_eq_true rfl⟩) (z_pSN hI hK hN hA) rfl rfl hl.1 rfl (lv_room (Nat.le_of_ble_eq_true rfl)) dX11_pupil_85 ⟨Nat.le_of_ble_eq_true rfl, Nat.le_of_ble_eq_true rfl⟩) hI (fun u H locs hw hI => ?_)
                  obtain ⟨q, rfl⟩ := hw
                  have hI : zI (zGx G q (zkc a)) (zMade x (zn G) (nI N) v tk kn tg) A s.heap H locs := hI
                  have h112 := hG.1
                  have hG2 : zOK (zGx G q (zkc a)) := zGx_ok hG (zkc_ok a)
                  have e1 : za (zGx G q (zkc a)) 1 = za G 1 := zGx_a (by omega)
                  have e0 : za (zGx G q (zkc a)) 0 = za G 0 := zGx_a (by omega)
                  show W _ _ _ _ _ _ _ _ _ _ _ _ _ _ _ (F0 m 88 ls [.ref (za (zGx G q (zkc a)) (zn G)), .ref (za G 1)])
                  rw [← e1]
                  refine z_callv (va_runV (As := [.ref (za (zGx G q (zkc a)) (zn G))]) (rest := []) ⟨hx, hb, hml, hown, hts⟩ ((c_X7_add l hG2 (zMade x (zn G) (nI N) v tk kn tg) N t1 (zn G) (by omega) (by rw [zMade_n (by omega)]; exact hsz) ht1 (by rw [zMade_n (by omega)]; exact hfd) h112 (Nat.lt_succ_self _)) A) (cwV 1 hts gX11_pupil_X7_add rfl rfl rfl (by decide +kernel) ⟨Nat.le_of_ble_eq_true rfl, Nat.le_of_ble_eq_true rfl⟩) (z_pV hI hK hN (z_recv (G := zGx G q (zkc a)) hK hI (zo1 hG2) rfl)) rfl rfl hl.1 rfl (lv_room (Nat.le_of_ble_eq_true rfl)) dX11_pupil_88 ⟨Nat.le_of_ble_eq_true rfl, Nat.le_of_ble_eq_true rfl⟩) hI (fun u H locs hw hI => ?_)
                  obtain rfl := hw
                  refine lv_aload_n hx hb dX11_pupil_91 rfl (lv_at hl 1 rfl) ?_
                  refine lv_iconst (v := (nI 0)) hx hb dX11_pupil_92 rfl ?_
                  refine W.eq (g2 := F0 m 93 ls [.int (nI 0), .ref (za (zGx G q (zkc a)) 0)]) (by rw [e0]) ?_
                  refine z_putI (G := zGx G q (zkc a)) (C := RX11) (T := TX11) (N := 14) (ci := 11) (ty := .boolean) (y := nI 0) hx hb hts hin11 tyX11 tyX11_ok nmX11 hown hK hI (zo0 hG2) rfl 9 (by decide) wF78 (fun _ h9 => h9) rfl (fun _ _ => rfl) (by decide +kernel) rfl rfl (fun _ _ => Nat.le_of_ble_eq_true rfl) dX11_pupil_93 (fun H locs hI => ?_)
                  refine lv_iload hx hb dX11_pupil_96 (lv_at hl 0 rfl) ?_
                  exact z_gret hx hb hr hlocks hI (Or.inr (Or.inr (Or.inr ⟨⟨c_1, z_nle c_7⟩, ⟨c_16, c_23, c_31, ⟨c_36, z_nle c_42⟩⟩, by omega, ⟨q, rfl⟩, rfl⟩))) dX11_pupil_98
                · skip
                  rw [zqL (by omega) (by omega)] at c_57
                  refine lv_bipush (v := (-4)) hx hb dX11_pupil_60 rfl ?_
                  exact zmore (c2 := 1) (s2 := 5) (Nat.zero_le _) (Nat.zero_le _) <| z_gret hx hb hr hlocks hI (Or.inr (Or.inr (Or.inl ⟨⟨c_1, z_nle c_7⟩, ⟨c_16, c_23, c_31, ⟨c_36, z_nle c_42⟩⟩, by omega, rfl, rfl⟩))) dX11_pupil_62
              · skip
                refine lv_bipush (v := (-2)) hx hb dX11_pupil_45 rfl ?_
                exact zmore (c2 := 1) (s2 := 5) (Nat.zero_le _) (Nat.zero_le _) <| z_gret hx hb hr hlocks hI (Or.inr (Or.inl ⟨⟨c_1, z_nle c_7⟩, fun h => h.2.2.2.2 (z_le c_42), rfl, rfl⟩)) dX11_pupil_47
    · skip
      refine lv_iconst (v := (-1)) hx hb dX11_pupil_10 rfl ?_
      exact zmore (c2 := 1) (s2 := 5) (Nat.zero_le _) (Nat.zero_le _) <| z_gret hx hb hr hlocks hI (Or.inl ⟨fun h => h.2 (z_le c_7), rfl, rfl⟩) dX11_pupil_11
