set_option maxHeartbeats 1000000 in
set_option maxRecDepth 100000 in
theorem c_J0_coder_7d493 (l : Launch) {G : zG} (hG : zOK G) (aK aV : Nat → Nat) (x : zX) (i : Nat) (hi : i < 6) : zMiS l yJ0_coder_7d493 wsJ0_coder_7d493 { frames := 0, cells := 0, slots := 0, locals := 0 } G aK aV [.ref (aK i)] x (fun (r : Int32) (u : zX) => x = u ∧ 0 = r) := by
  intro A
  refine zBodyS (cc := cJ0_coder_7d493) (maxL := 1) (ret := (some .byte)) (by decide) rfl (Nat.le_of_ble_eq_true rfl) ?_
  intro p e s m below meth c hx hb hml hown hts hr hlocks hK hN hSS hI ls hl
  have hown : s.vm.findClass RJ0 = some m.cls := hown
  have hl : lv_has ls 1 [(0, .ref (aK i))] := hl
  have wG38 := hts (.fieldLink RJ0 38 "java/lang/String" "COMPACT_STRINGS" "Z") (z_mem 1 rfl)
  have wF15 := hts (.fieldLink RJ0 15 "java/lang/String" "coder" "B") (z_mem 2 rfl)
  refine va_gets hx hb hSS.2.2.1 hI.2 hown wG38 (fun _ h9 => h9) dJ0_coder_7d493_0 ?_
  refine lv_if_eq (tgt := 13) hx hb dJ0_coder_7d493_3 (by decide) (fun c_3 => absurd c_3 (by decide)) (fun c_3 => ?_)
  refine lv_aload_n hx hb dJ0_coder_7d493_6 rfl (lv_at hl 0 rfl) ?_
  refine vk_getf hx hb (hSS.2.1.1 i hi).2.1 hI.2 hown wF15 (fun _ h9 => h9) dJ0_coder_7d493_7 ?_
  refine lv_goto (tgt := 14) hx hb dJ0_coder_7d493_10 (by decide) ?_
  exact z_nret hx hb hr hlocks hI rfl (⟨rfl, rfl⟩) dJ0_coder_7d493_14
set_option maxHeartbeats 1000000 in
set_option maxRecDepth 100000 in
theorem c_J0_isLatin1_aae02 (l : Launch) {G : zG} (hG : zOK G) (aK aV : Nat → Nat) (x : zX) (i : Nat) (hi : i < 6) : zMiS l yJ0_isLatin1_aae02 wsJ0_isLatin1_aae02 { frames := 0, cells := 0, slots := 0, locals := 0 } G aK aV [.ref (aK i)] x (fun (r : Int32) (u : zX) => x = u ∧ 1 = r) := by
  intro A
  refine zBodyS (cc := cJ0_isLatin1_aae02) (maxL := 1) (ret := (some .boolean)) (by decide) rfl (Nat.le_of_ble_eq_true rfl) ?_
  intro p e s m below meth c hx hb hml hown hts hr hlocks hK hN hSS hI ls hl
  have hown : s.vm.findClass RJ0 = some m.cls := hown
  have hl : lv_has ls 1 [(0, .ref (aK i))] := hl
  have wG38 := hts (.fieldLink RJ0 38 "java/lang/String" "COMPACT_STRINGS" "Z") (z_mem 1 rfl)
  have wF15 := hts (.fieldLink RJ0 15 "java/lang/String" "coder" "B") (z_mem 2 rfl)
  refine va_gets hx hb hSS.2.2.1 hI.2 hown wG38 (fun _ h9 => h9) dJ0_isLatin1_aae02_0 ?_
  refine lv_if_eq (tgt := 17) hx hb dJ0_isLatin1_aae02_3 (by decide) (fun c_3 => absurd c_3 (by decide)) (fun c_3 => ?_)
  refine lv_aload_n hx hb dJ0_isLatin1_aae02_6 rfl (lv_at hl 0 rfl) ?_
  refine vk_getf hx hb (hSS.2.1.1 i hi).2.1 hI.2 hown wF15 (fun _ h9 => h9) dJ0_isLatin1_aae02_7 ?_
  refine lv_if_ne (tgt := 17) hx hb dJ0_isLatin1_aae02_10 (by decide) (fun c_10 => absurd c_10 (by decide)) (fun c_10 => ?_)
  refine lv_iconst (v := (nI 1)) hx hb dJ0_isLatin1_aae02_13 rfl ?_
  refine lv_goto (tgt := 18) hx hb dJ0_isLatin1_aae02_14 (by decide) ?_
  exact z_zret hx hb hr hlocks hI (Or.inr rfl) (⟨rfl, rfl⟩) dJ0_isLatin1_aae02_18
set_option maxHeartbeats 1000000 in
set_option maxRecDepth 100000 in
theorem c_J0_length_8abf5 (l : Launch) {G : zG} (hG : zOK G) (aK aV : Nat → Nat) (x : zX) (i : Nat) (hi : i < 6) : zMiS l yJ0_length_8abf5 wsJ0_length_8abf5 { frames := 1, cells := 0, slots := 0, locals := 20 } G aK aV [.ref (aK i)] x (fun (r : Int32) (u : zX) => x = u ∧ nI (zSlen.getD i 0) = r) := by
  intro A
  refine zBodyS (cc := cJ0_length_8abf5) (maxL := 1) (ret := (some .int)) (by decide) rfl (Nat.le_of_ble_eq_true rfl) ?_
  intro p e s m below meth c hx hb hml hown hts hr hlocks hK hN hSS hI ls hl
  have hown : s.vm.findClass RJ0 = some m.cls := hown
  have hl : lv_has ls 1 [(0, .ref (aK i))] := hl
  have wF9 := hts (.fieldLink RJ0 9 "java/lang/String" "value" "[B") (z_mem 1 rfl)
  have hlt := zsl_lt hi
  refine lv_aload_n hx hb dJ0_length_8abf5_0 rfl (lv_at hl 0 rfl) ?_
  refine vk_getf hx hb (hSS.2.1.1 i hi).2.2.1 hI.2 hown wF9 (fun _ h9 => h9) dJ0_length_8abf5_1 ?_
  refine va_tlen (v := nI (zSlen.getD i 0)) hx hb (hSS.2.1.1 i hi).2.2.2 hI.2 rfl dJ0_length_8abf5_4 ?_
  refine lv_aload_n hx hb dJ0_length_8abf5_5 rfl (lv_at hl 0 rfl) ?_
  refine z_calli (va_runV (As := []) (rest := [.int (nI (zSlen.getD i 0))]) ⟨hx, hb, hml, hown, hts⟩ ((c_J0_coder_7d493 l hG aK aV x i hi) A) (cwV 0 hts gJ0_length_8abf5_J0_coder_7d493 rfl rfl rfl (by decide +kernel) ⟨Nat.le_of_ble_eq_true rfl, Nat.le_of_ble_eq_true rfl⟩) (z_pVS hI hK hN hSS (vk_recv hSS.2.1 hi hI.2)) rfl rfl hl.1 rfl (lv_room (Nat.le_of_ble_eq_true rfl)) dJ0_length_8abf5_6 ⟨Nat.zero_le _, Nat.zero_le _⟩) hI (fun r_6 u H locs hw hI => ?_)
  obtain ⟨rfl, rfl⟩ := hw
  refine z_ishr (v := (nI (zSlen.getD i 0))) hx hb (zshr0 hlt) dJ0_length_8abf5_9 ?_
  exact z_iret hx hb hr hlocks hI (⟨rfl, rfl⟩) dJ0_length_8abf5_10
set_option maxHeartbeats 1000000 in
set_option maxRecDepth 100000 in
theorem c_J3_checkIndexN (l : Launch) {G : zG} (hG : zOK G) (x : zX) (k n : Nat) (hk : k < n) (hn31 : n < 2 ^ 31) : zMi l yJ3_checkIndex_8e157 wsJ3_checkIndex_8e157 { frames := 0, cells := 0, slots := 0, locals := 0 } G [.int (nI k), .int (nI n), .null] x (fun (r : Int32) (u : zX) => x = u ∧ nI k = r) := by
  intro A
  refine zBody (cc := cJ3_checkIndex_8e157) (maxL := 3) (ret := (some .int)) (by decide) rfl (Nat.le_of_ble_eq_true rfl) ?_
  intro p e s m below meth c hx hb hml hown hts hr hlocks hK hN hI ls hl
  have hown : s.vm.findClass RJ3 = some m.cls := hown
  have hl : lv_has ls 3 [(0, .int (nI k)), (1, .int (nI n)), (2, .null)] := hl
  refine lv_iload_n hx hb dJ3_checkIndex_8e157_0 rfl (lv_at hl 0 rfl) ?_
  refine lv_if_lt (tgt := 9) hx hb dJ3_checkIndex_8e157_1 (by decide) (fun c_1 => ?_) (fun c_1 => ?_)
  · skip
    rw [show (0 : Int32) = nI 0 from rfl] at c_1; rw [zqL (by omega) (by omega)] at c_1
    exact absurd c_1 (by omega)
  · skip
    rw [show (0 : Int32) = nI 0 from rfl] at c_1; rw [zqL (by omega) (by omega)] at c_1
    refine lv_iload_n hx hb dJ3_checkIndex_8e157_4 rfl (lv_at hl 0 rfl) ?_
    refine lv_iload_n hx hb dJ3_checkIndex_8e157_5 rfl (lv_at hl 1 rfl) ?_
    refine lv_icmp_lt (tgt := 16) hx hb dJ3_checkIndex_8e157_6 (by decide) (fun c_6 => ?_) (fun c_6 => ?_)
    · skip
      rw [zqL (by omega) (by omega)] at c_6
      refine lv_iload_n hx hb dJ3_checkIndex_8e157_16 rfl (lv_at hl 0 rfl) ?_
      exact z_iret hx hb hr hlocks hI (⟨rfl, rfl⟩) dJ3_checkIndex_8e157_17
    · skip
      rw [zqL (by omega) (by omega)] at c_6
      exact absurd c_6 (by omega)
set_option maxHeartbeats 1000000 in
set_option maxRecDepth 100000 in
theorem c_J3_checkIndexR (l : Launch) {G : zG} (hG : zOK G) (x : zX) (k n : Nat) (tZ : Nat) (hk : k < n) (hn31 : n < 2 ^ 31) : zMi l yJ3_checkIndex_8e157 wsJ3_checkIndex_8e157 { frames := 0, cells := 0, slots := 0, locals := 0 } G [.int (nI k), .int (nI n), .ref tZ] x (fun (r : Int32) (u : zX) => x = u ∧ nI k = r) := by
  intro A
  refine zBody (cc := cJ3_checkIndex_8e157) (maxL := 3) (ret := (some .int)) (by decide) rfl (Nat.le_of_ble_eq_true rfl) ?_
  intro p e s m below meth c hx hb hml hown hts hr hlocks hK hN hI ls hl
  have hown : s.vm.findClass RJ3 = some m.cls := hown
  have hl : lv_has ls 3 [(0, .int (nI k)), (1, .int (nI n)), (2, .ref tZ)] := hl
  refine lv_iload_n hx hb dJ3_checkIndex_8e157_0 rfl (lv_at hl 0 rfl) ?_
  refine lv_if_lt (tgt := 9) hx hb dJ3_checkIndex_8e157_1 (by decide) (fun c_1 => ?_) (fun c_1 => ?_)
  · skip
    rw [show (0 : Int32) = nI 0 from rfl] at c_1; rw [zqL (by omega) (by omega)] at c_1
    exact absurd c_1 (by omega)
  · skip
    rw [show (0 : Int32) = nI 0 from rfl] at c_1; rw [zqL (by omega) (by omega)] at c_1
    refine lv_iload_n hx hb dJ3_checkIndex_8e157_4 rfl (lv_at hl 0 rfl) ?_
    refine lv_iload_n hx hb dJ3_checkIndex_8e157_5 rfl (lv_at hl 1 rfl) ?_
    refine lv_icmp_lt (tgt := 16) hx hb dJ3_checkIndex_8e157_6 (by decide) (fun c_6 => ?_) (fun c_6 => ?_)
    · skip
      rw [zqL (by omega) (by omega)] at c_6
      refine lv_iload_n hx hb dJ3_checkIndex_8e157_16 rfl (lv_at hl 0 rfl) ?_
      exact z_iret hx hb hr hlocks hI (⟨rfl, rfl⟩) dJ3_checkIndex_8e157_17
    · skip
      rw [zqL (by omega) (by omega)] at c_6
      exact absurd c_6 (by omega)
set_option maxHeartbeats 1000000 in
set_option maxRecDepth 100000 in
theorem c_J0_checkIndex_df160 (l : Launch) {G : zG} (hG : zOK G) (aK aV : Nat → Nat) (x : zX) (k n : Nat) (hk : k < n) (hn31 : n < 2 ^ 31) : zMvS l yJ0_checkIndex_df160 wsJ0_checkIndex_df160 { frames := 1, cells := 0, slots := 0, locals := 22 } G aK aV [.int (nI k), .int (nI n)] x (fun (u : zX) => x = u) := by
  intro A
  refine zBodyS (cc := cJ0_checkIndex_df160) (maxL := 2) (ret := none) (by decide) rfl (Nat.le_of_ble_eq_true rfl) ?_
  intro p e s m below meth c hx hb hml hown hts hr hlocks hK hN hSS hI ls hl
  have hown : s.vm.findClass RJ0 = some m.cls := hown
  have hl : lv_has ls 2 [(0, .int (nI k)), (1, .int (nI n))] := hl
  have wG1053 := hts (.fieldLink RJ0 1053 "jdk/internal/util/Preconditions" "SIOOBE_FORMATTER" "Ljava/util/function/BiFunction;") (z_mem 1 rfl)
  refine lv_iload_n hx hb dJ0_checkIndex_df160_0 rfl (lv_at hl 0 rfl) ?_
  refine lv_iload_n hx hb dJ0_checkIndex_df160_1 rfl (lv_at hl 1 rfl) ?_
  rcases hSS.2.2.2 with hZ | ⟨tZ, hZ⟩
  · skip
    refine va_gets hx hb hZ hI.2 hown wG1053 (fun _ h9 => h9) dJ0_checkIndex_df160_2 ?_
    refine z_calli (va_runS (As := [.int (nI k), .int (nI n), .null]) (rest := []) ⟨hx, hb, hml, hown, hts⟩ ((c_J3_checkIndexN l hG x k n (by omega) (by omega)) A) (va_cwS 3 hts gJ0_checkIndex_df160_J3_checkIndex_8e157 rfl rfl rfl (by decide +kernel) ⟨Nat.le_of_ble_eq_true rfl, Nat.le_of_ble_eq_true rfl⟩) (z_pS hI hK hN) rfl rfl hl.1 rfl (lv_room (Nat.le_of_ble_eq_true rfl)) dJ0_checkIndex_df160_5 ⟨Nat.zero_le _, Nat.zero_le _⟩) hI (fun r_5 u H locs hw hI => ?_)
    obtain ⟨rfl, rfl⟩ := hw
    refine lv_pop hx hb dJ0_checkIndex_df160_8 rfl ?_
    exact z_vret hx hb hr hlocks hI (rfl) dJ0_checkIndex_df160_9
  · skip
    refine va_gets hx hb hZ hI.2 hown wG1053 (fun _ h9 => h9) dJ0_checkIndex_df160_2 ?_
    refine z_calli (va_runS (As := [.int (nI k), .int (nI n), .ref tZ]) (rest := []) ⟨hx, hb, hml, hown, hts⟩ ((c_J3_checkIndexR l hG x k n tZ (by omega) (by omega)) A) (va_cwS 3 hts gJ0_checkIndex_df160_J3_checkIndex_8e157 rfl rfl rfl (by decide +kernel) ⟨Nat.le_of_ble_eq_true rfl, Nat.le_of_ble_eq_true rfl⟩) (z_pS hI hK hN) rfl rfl hl.1 rfl (lv_room (Nat.le_of_ble_eq_true rfl)) dJ0_checkIndex_df160_5 ⟨Nat.zero_le _, Nat.zero_le _⟩) hI (fun r_5 u H locs hw hI => ?_)
    obtain ⟨rfl, rfl⟩ := hw
    refine lv_pop hx hb dJ0_checkIndex_df160_8 rfl ?_
    exact z_vret hx hb hr hlocks hI (rfl) dJ0_checkIndex_df160_9
set_option maxHeartbeats 1000000 in
set_option maxRecDepth 100000 in
theorem c_J1_charAt_3b067 (l : Launch) {G : zG} (hG : zOK G) (aK aV : Nat → Nat) (x : zX) (i k : Nat) (hi : i < 6) (hk : k < zSlen.getD i 0) : zMiS l yJ1_charAt_3b067 wsJ1_charAt_3b067 { frames := 2, cells := 0, slots := 0, locals := 43 } G aK aV [.ref (aV i), .int (nI k)] x (fun (r : Int32) (u : zX) => x = u ∧ ((zSbyt.getD i []).getD k 0) = r) := by
  intro A
  refine zBodyS (cc := cJ1_charAt_3b067) (maxL := 2) (ret := (some .char)) (by decide) rfl (Nat.le_of_ble_eq_true rfl) ?_
  intro p e s m below meth c hx hb hml hown hts hr hlocks hK hN hSS hI ls hl
  have hown : s.vm.findClass RJ1 = some m.cls := hown
  have hl : lv_has ls 2 [(0, .ref (aV i)), (1, .int (nI k))] := hl
  have hlt := zsl_lt hi
  refine lv_iload_n hx hb dJ1_charAt_3b067_0 rfl (lv_at hl 1 rfl) ?_
  refine lv_aload_n hx hb dJ1_charAt_3b067_1 rfl (lv_at hl 0 rfl) ?_
  refine va_tlen (v := nI (zSlen.getD i 0)) hx hb (hSS.2.1.1 i hi).2.2.2 hI.2 rfl dJ1_charAt_3b067_2 ?_
  refine z_callv (va_runS (As := [.int (nI k), .int (nI (zSlen.getD i 0))]) (rest := []) ⟨hx, hb, hml, hown, hts⟩ ((c_J0_checkIndex_df160 l hG aK aV x k (zSlen.getD i 0) (by omega) (by omega)) A) (va_cwS 2 hts gJ1_charAt_3b067_J0_checkIndex_df160 rfl rfl rfl (by decide +kernel) ⟨Nat.le_of_ble_eq_true rfl, Nat.le_of_ble_eq_true rfl⟩) (z_pSS hI hK hN hSS) rfl rfl hl.1 rfl (lv_room (Nat.le_of_ble_eq_true rfl)) dJ1_charAt_3b067_3 ⟨Nat.zero_le _, Nat.zero_le _⟩) hI (fun u H locs hw hI => ?_)
  obtain rfl := hw
  refine lv_aload_n hx hb dJ1_charAt_3b067_6 rfl (lv_at hl 0 rfl) ?_
  refine lv_iload_n hx hb dJ1_charAt_3b067_7 rfl (lv_at hl 1 rfl) ?_
  refine va_tb (v := .int ((zSbyt.getD i []).getD k 0)) hx hb (hSS.2.1.1 i hi).2.2.2 hI.2 (vp_in_nI (show k < zSlen.getD i 0 by omega) (by omega)) (by rw [nI_clamp (by omega)]) dJ1_charAt_3b067_8 ?_
  refine lv_sipush (v := (nI 255)) hx hb dJ1_charAt_3b067_9 rfl ?_
  refine z_iand (v := ((zSbyt.getD i []).getD k 0)) hx hb (zsb_and hi hk) dJ1_charAt_3b067_12 ?_
  refine lv_i2c hx hb dJ1_charAt_3b067_13 rfl ?_
  exact z_nret hx hb hr hlocks hI (zsb_nar hi hk) (⟨rfl, (zsb_c hi hk).symm⟩) dJ1_charAt_3b067_14
set_option maxHeartbeats 1000000 in
set_option maxRecDepth 100000 in
theorem c_J0_charAt_5068e (l : Launch) {G : zG} (hG : zOK G) (aK aV : Nat → Nat) (x : zX) (i k : Nat) (hi : i < 6) (hk : k < zSlen.getD i 0) : zMiS l yJ0_charAt_5068e wsJ0_charAt_5068e { frames := 3, cells := 0, slots := 0, locals := 64 } G aK aV [.ref (aK i), .int (nI k)] x (fun (r : Int32) (u : zX) => x = u ∧ ((zSbyt.getD i []).getD k 0) = r) := by
  intro A
  refine zBodyS (cc := cJ0_charAt_5068e) (maxL := 2) (ret := (some .char)) (by decide) rfl (Nat.le_of_ble_eq_true rfl) ?_
  intro p e s m below meth c hx hb hml hown hts hr hlocks hK hN hSS hI ls hl
  have hown : s.vm.findClass RJ0 = some m.cls := hown
  have hl : lv_has ls 2 [(0, .ref (aK i)), (1, .int (nI k))] := hl
  have wF9 := hts (.fieldLink RJ0 9 "java/lang/String" "value" "[B") (z_mem 1 rfl)
  have hlt := zsl_lt hi
  refine lv_aload_n hx hb dJ0_charAt_5068e_0 rfl (lv_at hl 0 rfl) ?_
  refine z_calli (va_runV (As := []) (rest := []) ⟨hx, hb, hml, hown, hts⟩ ((c_J0_isLatin1_aae02 l hG aK aV x i hi) A) (cwV 0 hts gJ0_charAt_5068e_J0_isLatin1_aae02 rfl rfl rfl (by decide +kernel) ⟨Nat.le_of_ble_eq_true rfl, Nat.le_of_ble_eq_true rfl⟩) (z_pVS hI hK hN hSS (vk_recv hSS.2.1 hi hI.2)) rfl rfl hl.1 rfl (lv_room (Nat.le_of_ble_eq_true rfl)) dJ0_charAt_5068e_1 ⟨Nat.zero_le _, Nat.zero_le _⟩) hI (fun r_1 u H locs hw hI => ?_)
  obtain ⟨rfl, rfl⟩ := hw
  refine lv_if_eq (tgt := 16) hx hb dJ0_charAt_5068e_4 (by decide) (fun c_4 => absurd c_4 (by decide)) (fun c_4 => ?_)
  refine lv_aload_n hx hb dJ0_charAt_5068e_7 rfl (lv_at hl 0 rfl) ?_
  refine vk_getf hx hb (hSS.2.1.1 i hi).2.2.1 hI.2 hown wF9 (fun _ h9 => h9) dJ0_charAt_5068e_8 ?_
  refine lv_iload_n hx hb dJ0_charAt_5068e_11 rfl (lv_at hl 1 rfl) ?_
  refine z_calli (va_runS (As := [.ref (aV i), .int (nI k)]) (rest := []) ⟨hx, hb, hml, hown, hts⟩ ((c_J1_charAt_3b067 l hG aK aV x i k hi (by omega)) A) (va_cwS 2 hts gJ0_charAt_5068e_J1_charAt_3b067 rfl rfl rfl (by decide +kernel) ⟨Nat.le_of_ble_eq_true rfl, Nat.le_of_ble_eq_true rfl⟩) (z_pSS hI hK hN hSS) rfl rfl hl.1 rfl (lv_room (Nat.le_of_ble_eq_true rfl)) dJ0_charAt_5068e_12 ⟨Nat.zero_le _, Nat.zero_le _⟩) hI (fun r_12 u H locs hw hI => ?_)
  obtain ⟨rfl, rfl⟩ := hw
  exact z_nret hx hb hr hlocks hI (zsb_nar2 hi hk) (⟨rfl, rfl⟩) dJ0_charAt_5068e_15
set_option maxHeartbeats 1000000 in
set_option maxRecDepth 100000 in
theorem c_J1_canEncode_9a6ad (l : Launch) {G : zG} (hG : zOK G) (x : zX) (q : Nat) (hq : q < 128) : zMi l yJ1_canEncode_9a6ad wsJ1_canEncode_9a6ad { frames := 0, cells := 0, slots := 0, locals := 0 } G [.int (nI q)] x (fun (r : Int32) (u : zX) => x = u ∧ nI 1 = r) := by
  intro A
  refine zBody (cc := cJ1_canEncode_9a6ad) (maxL := 1) (ret := (some .boolean)) (by decide) rfl (Nat.le_of_ble_eq_true rfl) ?_
  intro p e s m below meth c hx hb hml hown hts hr hlocks hK hN hI ls hl
  have hown : s.vm.findClass RJ1 = some m.cls := hown
  have hl : lv_has ls 1 [(0, .int (nI q))] := hl
  refine lv_iload_n hx hb dJ1_canEncode_9a6ad_0 rfl (lv_at hl 0 rfl) ?_
  refine lv_if_lt (tgt := 15) hx hb dJ1_canEncode_9a6ad_1 (by decide) (fun c_1 => ?_) (fun c_1 => ?_)
  · skip
    rw [show (0 : Int32) = nI 0 from rfl] at c_1; rw [zqL (by omega) (by omega)] at c_1
    exact absurd c_1 (by omega)
  · skip
    rw [show (0 : Int32) = nI 0 from rfl] at c_1; rw [zqL (by omega) (by omega)] at c_1
    refine lv_iload_n hx hb dJ1_canEncode_9a6ad_4 rfl (lv_at hl 0 rfl) ?_
    refine lv_sipush (v := (nI 255)) hx hb dJ1_canEncode_9a6ad_5 rfl ?_
    refine lv_icmp_gt (tgt := 15) hx hb dJ1_canEncode_9a6ad_8 (by decide) (fun c_8 => ?_) (fun c_8 => ?_)
    · skip
      rw [zqL (by omega) (by omega)] at c_8
      exact absurd c_8 (by omega)
    · skip
      rw [zqL (by omega) (by omega)] at c_8
      refine lv_iconst (v := (nI 1)) hx hb dJ1_canEncode_9a6ad_11 rfl ?_
      refine lv_goto (tgt := 16) hx hb dJ1_canEncode_9a6ad_12 (by decide) ?_
      exact z_zret hx hb hr hlocks hI (Or.inr rfl) (⟨rfl, rfl⟩) dJ1_canEncode_9a6ad_16
set_option maxHeartbeats 1000000 in
set_option maxRecDepth 100000 in
theorem c_J1_indexOfChar_4cfef (l : Launch) {G : zG} (hG : zOK G) (aK aV : Nat → Nat) (x : zX) (i q n : Nat) (hi : i < 6) (hq : q < 128) (hn0 : n = zSlen.getD i 0) : zMiS l yJ1_indexOfChar_4cfef wsJ1_indexOfChar_4cfef { frames := 0, cells := 0, slots := 0, locals := 0 } G aK aV [.ref (aV i), .int (nI q), .int (nI 0), .int (nI n)] x (fun (r : Int32) (u : zX) => x = u ∧ zfind (fun k => (zSbyt.getD i []).getD k 0) (nI q) 0 (zSlen.getD i 0) = r) := by
  intro A
  refine zBodyS (cc := cJ1_indexOfChar_4cfef) (maxL := 6) (ret := (some .int)) (by decide) rfl (Nat.le_of_ble_eq_true rfl) ?_
  intro p e s m below meth c hx hb hml hown hts hr hlocks hK hN hSS hI ls hl
  have hown : s.vm.findClass RJ1 = some m.cls := hown
  have hl : lv_has ls 6 [(0, .ref (aV i)), (1, .int (nI q)), (2, .int (nI 0)), (3, .int (nI n))] := hl
  have hlt := zsl_lt hi
  have hqb : (nI q).toInt8.toInt32 = nI q := zqb hq
  refine lv_iload_n hx hb dJ1_indexOfChar_4cfef_0 rfl (lv_at hl 1 rfl) ?_
  refine lv_i2b hx hb dJ1_indexOfChar_4cfef_1 rfl ?_
  refine lv_istore (lv' := [(4, .int ((nI q).toInt8.toInt32)), (0, .ref (aV i)), (1, .int (nI q)), (2, .int (nI 0)), (3, .int (nI n))]) hx hb dJ1_indexOfChar_4cfef_2 hl (by decide) rfl (fun ls hl => ?_)
  refine lv_iload_n hx hb dJ1_indexOfChar_4cfef_4 rfl (lv_at hl 3 rfl) ?_
  refine lv_istore (lv' := [(5, .int (nI 0)), (4, .int ((nI q).toInt8.toInt32)), (0, .ref (aV i)), (1, .int (nI q)), (2, .int (nI 0)), (3, .int (nI n))]) hx hb dJ1_indexOfChar_4cfef_5 hl (by decide) rfl (fun ls hl => ?_)
  have L7 : ∀ (f : Nat) (j : Nat), (j ≤ n) → (zfind (fun k => (zSbyt.getD i []).getD k 0) (nI q) 0 (zSlen.getD i 0) = zfind (fun k => (zSbyt.getD i []).getD k 0) (nI q) j (n - j)) → n + 1 ≤ j + f → ∀ (H : Heap) (locs : List Loc), zI G x A s.heap H locs → ∀ ls : Array Slot, lv_has ls 6 [(0, .ref (aV i)), (3, .int (nI n)), (4, .int ((nI q).toInt8.toInt32)), (5, .int (nI j))] → W p l e { frames := 0, cells := 0, slots := 0, locals := 0 } s m ([.ref (aV i), .int (nI q), .int (nI 0), .int (nI n)] : List Value).toArray below meth c H locs 0 0 (MQ below (va_Qi (fun (r : Int32) (u : zX) => x = u ∧ zfind (fun k => (zSbyt.getD i []).getD k 0) (nI q) 0 (zSlen.getD i 0) = r) (fun u t => zJ G u A t.heap) A) ([.ref (aV i), .int (nI q), .int (nI 0), .int (nI n)] : List Value).toArray s 0 0 A) (F0 m 7 ls []) := by
    intro f
    induction f with
    | zero =>
      intro j h1 h2 hf
      exact absurd hf (by omega)
    | succ f ih =>
      intro j h1 h2 hf H locs hI ls hl
      have ih7 := ih
      refine lv_iload hx hb dJ1_indexOfChar_4cfef_7 (lv_at hl 3 rfl) ?_
      refine lv_iload_n hx hb dJ1_indexOfChar_4cfef_9 rfl (lv_at hl 1 rfl) ?_
      refine lv_icmp_ge (tgt := 31) hx hb dJ1_indexOfChar_4cfef_10 (by decide) (fun c_10 => ?_) (fun c_10 => ?_)
      · skip
        rw [zqG (by omega) (by omega)] at c_10
        refine lv_iconst (v := (-1)) hx hb dJ1_indexOfChar_4cfef_31 rfl ?_
        exact z_iret hx hb hr hlocks hI (⟨rfl, by rw [h2, show n - j = 0 by omega]; rfl⟩) dJ1_indexOfChar_4cfef_32
      · skip
        rw [zqG (by omega) (by omega)] at c_10
        refine lv_aload_n hx hb dJ1_indexOfChar_4cfef_13 rfl (lv_at hl 0 rfl) ?_
        refine lv_iload hx hb dJ1_indexOfChar_4cfef_14 (lv_at hl 3 rfl) ?_
        refine va_tb (v := .int ((zSbyt.getD i []).getD j 0)) hx hb (hSS.2.1.1 i hi).2.2.2 hI.2 (vp_in_nI (show j < zSlen.getD i 0 by omega) (by omega)) (by rw [nI_clamp (by omega)]) dJ1_indexOfChar_4cfef_16 ?_
        refine lv_iload hx hb dJ1_indexOfChar_4cfef_17 (lv_at hl 2 rfl) ?_
        refine lv_icmp_ne (tgt := 25) hx hb dJ1_indexOfChar_4cfef_19 (by decide) (fun c_19 => ?_) (fun c_19 => ?_)
        · skip
          rw [hqb] at c_19
          refine lv_iinc (v := (nI (j + 1))) (lv' := [(5, .int (nI (j + 1))), (0, .ref (aV i)), (3, .int (nI n)), (4, .int ((nI q).toInt8.toInt32))]) hx hb dJ1_indexOfChar_4cfef_25 hl (k := 3) rfl (zinc j) (by decide) rfl (fun ls hl => ?_)
          refine lv_goto (tgt := 7) hx hb dJ1_indexOfChar_4cfef_28 (by decide) ?_
          exact ih7 (j + 1) (by omega) (by rw [h2, zfind_n (y := nI q) (fun h => c_19 h) (by omega)]; rfl) (by omega) _ _ hI ls (lv_sub hl [1, 2, 3, 0] rfl)
        · skip
          rw [hqb] at c_19
          refine lv_iload hx hb dJ1_indexOfChar_4cfef_22 (lv_at hl 3 rfl) ?_
          exact z_iret hx hb hr hlocks hI (⟨rfl, by rw [h2, zfind_y c_19 (by omega)]⟩) dJ1_indexOfChar_4cfef_24
  exact L7 (n + 1) 0 (by omega) (by rw [hn0]; rfl) (by omega) _ _ hI ls (lv_sub hl [2, 5, 1, 0] rfl)
set_option maxHeartbeats 1000000 in
set_option maxRecDepth 100000 in
theorem c_J1_indexOf_4cfef (l : Launch) {G : zG} (hG : zOK G) (aK aV : Nat → Nat) (x : zX) (i q : Nat) (hi : i < 6) (hq : q < 128) : zMiS l yJ1_indexOf_4cfef wsJ1_indexOf_4cfef { frames := 1, cells := 0, slots := 0, locals := 40 } G aK aV [.ref (aV i), .int (nI q), .int (nI 0), .int (nI (zSlen.getD i 0))] x (fun (r : Int32) (u : zX) => x = u ∧ zfind (fun k => (zSbyt.getD i []).getD k 0) (nI q) 0 (zSlen.getD i 0) = r) := by
  intro A
  refine zBodyS (cc := cJ1_indexOf_4cfef) (maxL := 4) (ret := (some .int)) (by decide) rfl (Nat.le_of_ble_eq_true rfl) ?_
  intro p e s m below meth c hx hb hml hown hts hr hlocks hK hN hSS hI ls hl
  have hown : s.vm.findClass RJ1 = some m.cls := hown
  have hl : lv_has ls 4 [(0, .ref (aV i)), (1, .int (nI q)), (2, .int (nI 0)), (3, .int (nI (zSlen.getD i 0)))] := hl
  have wM92 := hts (.methodLink RJ1 92 Lib.Math.max.name) (z_mem 1 rfl)
  have wMs92 := hts (.static Lib.Math.max.name) (z_mem 2 rfl)
  have wMi := hts (.initialized "java/lang/Math") (z_mem 3 rfl)
  have wMc92 := hts (.code Lib.Math.max.name Lib.Math.max.code 2 (some .int)) (z_mem 4 rfl)
  have wM38 := hts (.methodLink RJ1 38 Lib.Math.min.name) (z_mem 5 rfl)
  have wMs38 := hts (.static Lib.Math.min.name) (z_mem 6 rfl)
  have wMc38 := hts (.code Lib.Math.min.name Lib.Math.min.code 2 (some .int)) (z_mem 7 rfl)
  have hlt := zsl_lt hi
  refine lv_iload_n hx hb dJ1_indexOf_4cfef_0 rfl (lv_at hl 1 rfl) ?_
  refine z_calli (va_runS (As := [.int (nI q)]) (rest := []) ⟨hx, hb, hml, hown, hts⟩ ((c_J1_canEncode_9a6ad l hG x q (by omega)) A) (va_cwS 1 hts gJ1_indexOf_4cfef_J1_canEncode_9a6ad rfl rfl rfl (by decide +kernel) ⟨Nat.le_of_ble_eq_true rfl, Nat.le_of_ble_eq_true rfl⟩) (z_pS hI hK hN) rfl rfl hl.1 rfl (lv_room (Nat.le_of_ble_eq_true rfl)) dJ1_indexOf_4cfef_1 ⟨Nat.zero_le _, Nat.zero_le _⟩) hI (fun r_1 u H locs hw hI => ?_)
  obtain ⟨rfl, rfl⟩ := hw
  refine lv_if_ne (tgt := 9) hx hb dJ1_indexOf_4cfef_4 (by decide) (fun c_4 => ?_) (fun c_4 => absurd c_4 (by decide))
  refine lv_iload_n hx hb dJ1_indexOf_4cfef_9 rfl (lv_at hl 2 rfl) ?_
  refine lv_iconst (v := (nI 0)) hx hb dJ1_indexOf_4cfef_10 rfl ?_
  refine va_mmax hx hb (hml.trans hl.1.symm) hown wM92 wMs92 wMi wMc92 (Nat.le_of_ble_eq_true rfl) (Nat.le_of_ble_eq_true rfl) (Nat.zero_le _) (Nat.zero_le _) dJ1_indexOf_4cfef_11 ?_
  rw [show (if nI 0 < nI 0 then nI 0 else nI 0) = nI 0 from rfl]
  refine lv_istore_n (lv' := [(2, .int (nI 0)), (0, .ref (aV i)), (1, .int (nI q)), (3, .int (nI (zSlen.getD i 0)))]) hx hb dJ1_indexOf_4cfef_14 rfl hl (by decide) rfl (fun ls hl => ?_)
  refine lv_iload_n hx hb dJ1_indexOf_4cfef_15 rfl (lv_at hl 3 rfl) ?_
  refine lv_aload_n hx hb dJ1_indexOf_4cfef_16 rfl (lv_at hl 1 rfl) ?_
  refine va_tlen (v := nI (zSlen.getD i 0)) hx hb (hSS.2.1.1 i hi).2.2.2 hI.2 rfl dJ1_indexOf_4cfef_17 ?_
  refine va_mmin hx hb (hml.trans hl.1.symm) hown wM38 wMs38 wMi wMc38 (Nat.le_of_ble_eq_true rfl) (Nat.le_of_ble_eq_true rfl) (Nat.zero_le _) (Nat.zero_le _) dJ1_indexOf_4cfef_18 ?_
  rw [show (if nI (zSlen.getD i 0) < nI (zSlen.getD i 0) then nI (zSlen.getD i 0) else nI (zSlen.getD i 0)) = nI (zSlen.getD i 0) from ite_self _]
  refine lv_istore_n (lv' := [(3, .int (nI (zSlen.getD i 0))), (2, .int (nI 0)), (0, .ref (aV i)), (1, .int (nI q))]) hx hb dJ1_indexOf_4cfef_21 rfl hl (by decide) rfl (fun ls hl => ?_)
  refine lv_iload_n hx hb dJ1_indexOf_4cfef_22 rfl (lv_at hl 1 rfl) ?_
  refine lv_iload_n hx hb dJ1_indexOf_4cfef_23 rfl (lv_at hl 0 rfl) ?_
  refine lv_icmp_lt (tgt := 29) hx hb dJ1_indexOf_4cfef_24 (by decide) (fun c_24 => ?_) (fun c_24 => ?_)
  · skip
    rw [zqL (by omega) (by omega)] at c_24
    refine lv_aload_n hx hb dJ1_indexOf_4cfef_29 rfl (lv_at hl 2 rfl) ?_
    refine lv_iload_n hx hb dJ1_indexOf_4cfef_30 rfl (lv_at hl 3 rfl) ?_
    refine lv_iload_n hx hb dJ1_indexOf_4cfef_31 rfl (lv_at hl 1 rfl) ?_
    refine lv_iload_n hx hb dJ1_indexOf_4cfef_32 rfl (lv_at hl 0 rfl) ?_
    refine z_calli (va_runS (As := [.ref (aV i), .int (nI q), .int (nI 0), .int (nI (zSlen.getD i 0))]) (rest := []) ⟨hx, hb, hml, hown, hts⟩ ((c_J1_indexOfChar_4cfef l hG aK aV x i q (zSlen.getD i 0) hi (by omega) rfl) A) (va_cwS 4 hts gJ1_indexOf_4cfef_J1_indexOfChar_4cfef rfl rfl rfl (by decide +kernel) ⟨Nat.le_of_ble_eq_true rfl, Nat.le_of_ble_eq_true rfl⟩) (z_pSS hI hK hN hSS) rfl rfl hl.1 rfl (lv_room (Nat.le_of_ble_eq_true rfl)) dJ1_indexOf_4cfef_33 ⟨Nat.zero_le _, Nat.zero_le _⟩) hI (fun r_33 u H locs hw hI => ?_)
    obtain ⟨rfl, rfl⟩ := hw
    exact z_iret hx hb hr hlocks hI (⟨rfl, rfl⟩) dJ1_indexOf_4cfef_36
  · skip
    rw [zqL (by omega) (by omega)] at c_24
    exact absurd c_24 (by have := zsl_pos hi; omega)
set_option maxHeartbeats 1000000 in
set_option maxRecDepth 100000 in
theorem c_J0_indexOf_7cf53 (l : Launch) {G : zG} (hG : zOK G) (aK aV : Nat → Nat) (x : zX) (i q : Nat) (hi : i < 6) (hq : q < 128) : zMiS l yJ0_indexOf_7cf53 wsJ0_indexOf_7cf53 { frames := 2, cells := 0, slots := 0, locals := 63 } G aK aV [.ref (aK i), .int (nI q), .int (nI 0)] x (fun (r : Int32) (u : zX) => x = u ∧ zfind (fun k => (zSbyt.getD i []).getD k 0) (nI q) 0 (zSlen.getD i 0) = r) := by
  intro A
  refine zBodyS (cc := cJ0_indexOf_7cf53) (maxL := 3) (ret := (some .int)) (by decide) rfl (Nat.le_of_ble_eq_true rfl) ?_
  intro p e s m below meth c hx hb hml hown hts hr hlocks hK hN hSS hI ls hl
  have hown : s.vm.findClass RJ0 = some m.cls := hown
  have hl : lv_has ls 3 [(0, .ref (aK i)), (1, .int (nI q)), (2, .int (nI 0))] := hl
  have wF9 := hts (.fieldLink RJ0 9 "java/lang/String" "value" "[B") (z_mem 1 rfl)
  have hlt := zsl_lt hi
  refine lv_aload_n hx hb dJ0_indexOf_7cf53_0 rfl (lv_at hl 0 rfl) ?_
  refine z_calli (va_runV (As := []) (rest := []) ⟨hx, hb, hml, hown, hts⟩ ((c_J0_isLatin1_aae02 l hG aK aV x i hi) A) (cwV 0 hts gJ0_indexOf_7cf53_J0_isLatin1_aae02 rfl rfl rfl (by decide +kernel) ⟨Nat.le_of_ble_eq_true rfl, Nat.le_of_ble_eq_true rfl⟩) (z_pVS hI hK hN hSS (vk_recv hSS.2.1 hi hI.2)) rfl rfl hl.1 rfl (lv_room (Nat.le_of_ble_eq_true rfl)) dJ0_indexOf_7cf53_1 ⟨Nat.zero_le _, Nat.zero_le _⟩) hI (fun r_1 u H locs hw hI => ?_)
  obtain ⟨rfl, rfl⟩ := hw
  refine lv_if_eq (tgt := 23) hx hb dJ0_indexOf_7cf53_4 (by decide) (fun c_4 => absurd c_4 (by decide)) (fun c_4 => ?_)
  refine lv_aload_n hx hb dJ0_indexOf_7cf53_7 rfl (lv_at hl 0 rfl) ?_
  refine vk_getf hx hb (hSS.2.1.1 i hi).2.2.1 hI.2 hown wF9 (fun _ h9 => h9) dJ0_indexOf_7cf53_8 ?_
  refine lv_iload_n hx hb dJ0_indexOf_7cf53_11 rfl (lv_at hl 1 rfl) ?_
  refine lv_iload_n hx hb dJ0_indexOf_7cf53_12 rfl (lv_at hl 2 rfl) ?_
  refine lv_aload_n hx hb dJ0_indexOf_7cf53_13 rfl (lv_at hl 0 rfl) ?_
  refine z_calli (va_runV (As := []) (rest := [.int (nI 0), .int (nI q), .ref (aV i)]) ⟨hx, hb, hml, hown, hts⟩ ((c_J0_length_8abf5 l hG aK aV x i hi) A) (cwV 0 hts gJ0_indexOf_7cf53_J0_length_8abf5 rfl rfl rfl (by decide +kernel) ⟨Nat.le_of_ble_eq_true rfl, Nat.le_of_ble_eq_true rfl⟩) (z_pVS hI hK hN hSS (vk_recv hSS.2.1 hi hI.2)) rfl rfl hl.1 rfl (lv_room (Nat.le_of_ble_eq_true rfl)) dJ0_indexOf_7cf53_14 ⟨Nat.zero_le _, Nat.zero_le _⟩) hI (fun r_14 u H locs hw hI => ?_)
  obtain ⟨rfl, rfl⟩ := hw
  refine z_calli (va_runS (As := [.ref (aV i), .int (nI q), .int (nI 0), .int (nI (zSlen.getD i 0))]) (rest := []) ⟨hx, hb, hml, hown, hts⟩ ((c_J1_indexOf_4cfef l hG aK aV x i q hi (by omega)) A) (va_cwS 4 hts gJ0_indexOf_7cf53_J1_indexOf_4cfef rfl rfl rfl (by decide +kernel) ⟨Nat.le_of_ble_eq_true rfl, Nat.le_of_ble_eq_true rfl⟩) (z_pSS hI hK hN hSS) rfl rfl hl.1 rfl (lv_room (Nat.le_of_ble_eq_true rfl)) dJ0_indexOf_7cf53_17 ⟨Nat.zero_le _, Nat.zero_le _⟩) hI (fun r_17 u H locs hw hI => ?_)
  obtain ⟨rfl, rfl⟩ := hw
  refine lv_goto (tgt := 36) hx hb dJ0_indexOf_7cf53_20 (by decide) ?_
  exact z_iret hx hb hr hlocks hI (⟨rfl, rfl⟩) dJ0_indexOf_7cf53_36
set_option maxHeartbeats 1000000 in
set_option maxRecDepth 100000 in
theorem c_J0_indexOf_0f7a4 (l : Launch) {G : zG} (hG : zOK G) (aK aV : Nat → Nat) (x : zX) (i q : Nat) (hi : i < 6) (hq : q < 128) : zMiS l yJ0_indexOf_0f7a4 wsJ0_indexOf_0f7a4 { frames := 3, cells := 0, slots := 0, locals := 85 } G aK aV [.ref (aK i), .int (nI q)] x (fun (r : Int32) (u : zX) => x = u ∧ zfind (fun k => (zSbyt.getD i []).getD k 0) (nI q) 0 (zSlen.getD i 0) = r) := by
  intro A
  refine zBodyS (cc := cJ0_indexOf_0f7a4) (maxL := 2) (ret := (some .int)) (by decide) rfl (Nat.le_of_ble_eq_true rfl) ?_
  intro p e s m below meth c hx hb hml hown hts hr hlocks hK hN hSS hI ls hl
  have hown : s.vm.findClass RJ0 = some m.cls := hown
  have hl : lv_has ls 2 [(0, .ref (aK i)), (1, .int (nI q))] := hl
  refine lv_aload_n hx hb dJ0_indexOf_0f7a4_0 rfl (lv_at hl 0 rfl) ?_
  refine lv_iload_n hx hb dJ0_indexOf_0f7a4_1 rfl (lv_at hl 1 rfl) ?_
  refine lv_iconst (v := (nI 0)) hx hb dJ0_indexOf_0f7a4_2 rfl ?_
  refine z_calli (va_runV (As := [.int (nI q), .int (nI 0)]) (rest := []) ⟨hx, hb, hml, hown, hts⟩ ((c_J0_indexOf_7cf53 l hG aK aV x i q hi (by omega)) A) (cwV 2 hts gJ0_indexOf_0f7a4_J0_indexOf_7cf53 rfl rfl rfl (by decide +kernel) ⟨Nat.le_of_ble_eq_true rfl, Nat.le_of_ble_eq_true rfl⟩) (z_pVS hI hK hN hSS (vk_recv hSS.2.1 hi hI.2)) rfl rfl hl.1 rfl (lv_room (Nat.le_of_ble_eq_true rfl)) dJ0_indexOf_0f7a4_3 ⟨Nat.zero_le _, Nat.zero_le _⟩) hI (fun r_3 u H locs hw hI => ?_)
  obtain ⟨rfl, rfl⟩ := hw
  exact z_iret hx hb hr hlocks hI (⟨rfl, rfl⟩) dJ0_indexOf_0f7a4_6
