set_option maxHeartbeats 4000000 in
set_option maxRecDepth 100000 in
theorem c_X6_cellOf (l : Launch) {G : zG} (hG : zOK G) (x : zX) (a b : Int32) (row : Nat) (hrow : row < 2) : zMi l yX6_cellOf wsX6_cellOf { frames := 0, cells := 0, slots := 0, locals := 0 } G [.int a, .int b, .int (nI row)] x (fun (r : Int32) (u : zX) => x = u ∧ zcel a b row = r) := by
  intro A
  refine zBody (cc := cX6_cellOf) (maxL := 3) (ret := (some .int)) (by decide) rfl (Nat.le_of_ble_eq_true rfl) ?_
  intro p e s m below meth c hx hb hml hown hts hr hlocks hK hN hI ls hl
  have hown : s.vm.findClass RX6 = some m.cls := hown
  have hl : lv_has ls 3 [(0, .int a), (1, .int b), (2, .int (nI row))] := hl
  refine lv_iload_n hx hb dX6_cellOf_0 rfl (lv_at hl 0 rfl) ?_
  refine lv_if_lt (tgt := 34) hx hb dX6_cellOf_1 (by decide) (fun c_1 => ?_) (fun c_1 => ?_)
  · skip
    refine lv_iconst (v := (-1)) hx hb dX6_cellOf_34 rfl ?_
    exact z_iret hx hb hr hlocks hI (⟨rfl, zcel_n (fun h => h.1.1 c_1)⟩) dX6_cellOf_35
  · skip
    refine lv_iload_n hx hb dX6_cellOf_4 rfl (lv_at hl 0 rfl) ?_
    refine lv_bipush (v := (nI 8)) hx hb dX6_cellOf_5 rfl ?_
    refine lv_icmp_ge (tgt := 34) hx hb dX6_cellOf_7 (by decide) (fun c_7 => ?_) (fun c_7 => ?_)
    · skip
      refine lv_iconst (v := (-1)) hx hb dX6_cellOf_34 rfl ?_
      exact z_iret hx hb hr hlocks hI (⟨rfl, zcel_n (fun h => h.1.2 c_7)⟩) dX6_cellOf_35
    · skip
      refine lv_iload_n hx hb dX6_cellOf_10 rfl (lv_at hl 1 rfl) ?_
      refine lv_if_lt (tgt := 34) hx hb dX6_cellOf_11 (by decide) (fun c_11 => ?_) (fun c_11 => ?_)
      · skip
        refine lv_iconst (v := (-1)) hx hb dX6_cellOf_34 rfl ?_
        exact z_iret hx hb hr hlocks hI (⟨rfl, zcel_n (fun h => h.2.1.1 c_11)⟩) dX6_cellOf_35
      · skip
        refine lv_iload_n hx hb dX6_cellOf_14 rfl (lv_at hl 1 rfl) ?_
        refine lv_bipush (v := (nI 8)) hx hb dX6_cellOf_15 rfl ?_
        refine lv_icmp_ge (tgt := 34) hx hb dX6_cellOf_17 (by decide) (fun c_17 => ?_) (fun c_17 => ?_)
        · skip
          refine lv_iconst (v := (-1)) hx hb dX6_cellOf_34 rfl ?_
          exact z_iret hx hb hr hlocks hI (⟨rfl, zcel_n (fun h => h.2.1.2 c_17)⟩) dX6_cellOf_35
        · skip
          refine lv_iload_n hx hb dX6_cellOf_20 rfl (lv_at hl 0 rfl) ?_
          refine lv_iload_n hx hb dX6_cellOf_21 rfl (lv_at hl 1 rfl) ?_
          refine lv_icmp_eq (tgt := 34) hx hb dX6_cellOf_22 (by decide) (fun c_22 => ?_) (fun c_22 => ?_)
          · skip
            refine lv_iconst (v := (-1)) hx hb dX6_cellOf_34 rfl ?_
            exact z_iret hx hb hr hlocks hI (⟨rfl, zcel_n (fun h => h.2.2 c_22)⟩) dX6_cellOf_35
          · skip
            refine lv_iload_n hx hb dX6_cellOf_25 rfl (lv_at hl 2 rfl) ?_
            refine lv_if_lt (tgt := 34) hx hb dX6_cellOf_26 (by decide) (fun c_26 => ?_) (fun c_26 => ?_)
            · skip
              rw [show (0 : Int32) = nI 0 from rfl] at c_26; rw [zqL (by omega) (by omega)] at c_26
              exact absurd c_26 (by omega)
            · skip
              rw [show (0 : Int32) = nI 0 from rfl] at c_26; rw [zqL (by omega) (by omega)] at c_26
              refine lv_iload_n hx hb dX6_cellOf_29 rfl (lv_at hl 2 rfl) ?_
              refine lv_iconst (v := (nI 1)) hx hb dX6_cellOf_30 rfl ?_
              refine lv_icmp_le (tgt := 36) hx hb dX6_cellOf_31 (by decide) (fun c_31 => ?_) (fun c_31 => ?_)
              · skip
                rw [zqG (by omega) (by omega)] at c_31
                obtain ⟨ka, hka, rfl⟩ := z_ix c_1 c_7 (by decide)
                obtain ⟨kb, hkb, rfl⟩ := z_ix c_11 c_17 (by decide)
                refine lv_iload_n hx hb dX6_cellOf_36 rfl (lv_at hl 2 rfl) ?_
                refine lv_bipush (v := (nI 8)) hx hb dX6_cellOf_37 rfl ?_
                refine z_imul (v := (nI (row * 8))) hx hb (pk_mul _ _) dX6_cellOf_39 ?_
                refine lv_iload_n hx hb dX6_cellOf_40 rfl (lv_at hl 0 rfl) ?_
                refine z_iadd (v := (nI ((row * 8) + ka))) hx hb (nI_add _ _) dX6_cellOf_41 ?_
                refine lv_bipush (v := (nI 8)) hx hb dX6_cellOf_42 rfl ?_
                refine z_imul (v := (nI (((row * 8) + ka) * 8))) hx hb (pk_mul _ _) dX6_cellOf_44 ?_
                refine lv_iload_n hx hb dX6_cellOf_45 rfl (lv_at hl 1 rfl) ?_
                refine z_iadd (v := (nI ((((row * 8) + ka) * 8) + kb))) hx hb (nI_add _ _) dX6_cellOf_46 ?_
                exact z_iret hx hb hr hlocks hI (⟨rfl, zcel_i hka hkb c_22⟩) dX6_cellOf_47
              · skip
                rw [zqG (by omega) (by omega)] at c_31
                exact absurd c_31 (by omega)
set_option maxHeartbeats 4000000 in
set_option maxRecDepth 100000 in
theorem c_X6_worthAt (l : Launch) {G : zG} (hG : zOK G) (x : zX) (a b row : Nat) (ha8 : a < 8) (hb8 : b < 8) (hrow : row < 2) : zMi l yX6_worthAt wsX6_worthAt { frames := 1, cells := 0, slots := 0, locals := 22 } G [.ref (za G 11), .int (nI a), .int (nI b), .int (nI row)] x (fun (r : Int32) (u : zX) => x = u ∧ zwa x a b row = r) := by
  intro A
  refine zBody (cc := cX6_worthAt) (maxL := 5) (ret := (some .int)) (by decide) rfl (Nat.le_of_ble_eq_true rfl) ?_
  intro p e s m below meth c hx hb hml hown hts hr hlocks hK hN hI ls hl
  have hown : s.vm.findClass RX6 = some m.cls := hown
  have hl : lv_has ls 5 [(0, .ref (za G 11)), (1, .int (nI a)), (2, .int (nI b)), (3, .int (nI row))] := hl
  have hin6 : ∀ w ∈ wsX60, w ∈ wsX6_worthAt := (fun _ h => List.mem_cons_of_mem _ (List.mem_append_right _ (h)))
  have wF9 := hts (.fieldLink RX6 9 "WhoSitsBy$Sittings" "worths" "[I") (z_mem 1 rfl)
  refine lv_iload_n hx hb dX6_worthAt_0 rfl (lv_at hl 1 rfl) ?_
  refine lv_iload_n hx hb dX6_worthAt_1 rfl (lv_at hl 2 rfl) ?_
  refine lv_iload_n hx hb dX6_worthAt_2 rfl (lv_at hl 3 rfl) ?_
  refine z_calli (va_runS (As := [.int (nI a), .int (nI b), .int (nI row)]) (rest := []) ⟨hx, hb, hml, hown, hts⟩ ((c_X6_cellOf l hG x (nI a) (nI b) row (by omega)) A) (va_cwS 3 hts gX6_worthAt_X6_cellOf rfl rfl rfl (by decide +kernel) ⟨Nat.le_of_ble_eq_true rfl, Nat.le_of_ble_eq_true rfl⟩) (z_pS hI hK hN) rfl rfl hl.1 rfl (lv_room (Nat.le_of_ble_eq_true rfl)) dX6_worthAt_3 ⟨Nat.zero_le _, Nat.zero_le _⟩) hI (fun r_3 u H locs hw hI => ?_)
  obtain ⟨rfl, rfl⟩ := hw
  by_cases hab : a = b
  · skip
    subst hab
    rw [zcel_e]
    refine lv_istore (lv' := [(4, .int (-1)), (0, .ref (za G 11)), (1, .int (nI a)), (2, .int (nI a)), (3, .int (nI row))]) hx hb dX6_worthAt_6 hl (by decide) rfl (fun ls hl => ?_)
    refine lv_iload hx hb dX6_worthAt_8 (lv_at hl 0 rfl) ?_
    refine lv_if_ge (tgt := 17) hx hb dX6_worthAt_10 (by decide) (fun c_10 => ?_) (fun c_10 => ?_)
    · skip
      exact absurd c_10 (by decide)
    · skip
      refine lv_iconst (v := (nI 0)) hx hb dX6_worthAt_13 rfl ?_
      refine lv_goto (tgt := 24) hx hb dX6_worthAt_14 (by decide) ?_
      exact z_iret hx hb hr hlocks hI (⟨rfl, zwa_e⟩) dX6_worthAt_24
  · skip
    rw [zcel_y ha8 hb8 hab]
    refine lv_istore (lv' := [(4, .int (nI ((row * 8 + a) * 8 + b))), (0, .ref (za G 11)), (1, .int (nI a)), (2, .int (nI b)), (3, .int (nI row))]) hx hb dX6_worthAt_6 hl (by decide) rfl (fun ls hl => ?_)
    refine lv_iload hx hb dX6_worthAt_8 (lv_at hl 0 rfl) ?_
    refine lv_if_ge (tgt := 17) hx hb dX6_worthAt_10 (by decide) (fun c_10 => ?_) (fun c_10 => ?_)
    · skip
      rw [show (0 : Int32) = nI 0 from rfl] at c_10; rw [zqG (by omega) (by omega)] at c_10
      refine lv_aload_n hx hb dX6_worthAt_17 rfl (lv_at hl 1 rfl) ?_
      refine z_get (C := RX6) (T := TX6) (N := 8) (ci := 6) (v := .ref (za G 12)) hx hb hts hin6 hown hK hI (zo11 hG) rfl 0 (by decide) wF9 (fun _ h9 => h9) rfl dX6_worthAt_18 ?_
      refine lv_iload hx hb dX6_worthAt_21 (lv_at hl 0 rfl) ?_
      refine z_iald (v := (x.1 12 ((row * 8 + a) * 8 + b))) hx hb hK hI (zo12 hG) ((row * 8 + a) * 8 + b) rfl (by omega) (by decide) rfl dX6_worthAt_23 ?_
      exact z_iret hx hb hr hlocks hI (⟨rfl, zwa_n hab⟩) dX6_worthAt_24
    · skip
      rw [show (0 : Int32) = nI 0 from rfl] at c_10; rw [zqG (by omega) (by omega)] at c_10
      exact absurd c_10 (by omega)
set_option maxHeartbeats 4000000 in
set_option maxRecDepth 100000 in
theorem c_X6_isBarredAt (l : Launch) {G : zG} (hG : zOK G) (x : zX) (a b : Int32) (row : Nat) (hrow : row < 2) : zMi l yX6_isBarredAt wsX6_isBarredAt { frames := 1, cells := 0, slots := 0, locals := 22 } G [.ref (za G 11), .int a, .int b, .int (nI row)] x (fun (r : Int32) (u : zX) => x = u ∧ (if zba x a b row then nI 1 else nI 0) = r) := by
  intro A
  refine zBody (cc := cX6_isBarredAt) (maxL := 5) (ret := (some .boolean)) (by decide) rfl (Nat.le_of_ble_eq_true rfl) ?_
  intro p e s m below meth c hx hb hml hown hts hr hlocks hK hN hI ls hl
  have hown : s.vm.findClass RX6 = some m.cls := hown
  have hl : lv_has ls 5 [(0, .ref (za G 11)), (1, .int a), (2, .int b), (3, .int (nI row))] := hl
  have hin6 : ∀ w ∈ wsX60, w ∈ wsX6_isBarredAt := (fun _ h => List.mem_cons_of_mem _ (List.mem_append_right _ (h)))
  have wF15 := hts (.fieldLink RX6 15 "WhoSitsBy$Sittings" "bars" "[Z") (z_mem 1 rfl)
  refine lv_iload_n hx hb dX6_isBarredAt_0 rfl (lv_at hl 1 rfl) ?_
  refine lv_iload_n hx hb dX6_isBarredAt_1 rfl (lv_at hl 2 rfl) ?_
  refine lv_iload_n hx hb dX6_isBarredAt_2 rfl (lv_at hl 3 rfl) ?_
  refine z_calli (va_runS (As := [.int a, .int b, .int (nI row)]) (rest := []) ⟨hx, hb, hml, hown, hts⟩ ((c_X6_cellOf l hG x a b row (by omega)) A) (va_cwS 3 hts gX6_isBarredAt_X6_cellOf rfl rfl rfl (by decide +kernel) ⟨Nat.le_of_ble_eq_true rfl, Nat.le_of_ble_eq_true rfl⟩) (z_pS hI hK hN) rfl rfl hl.1 rfl (lv_room (Nat.le_of_ble_eq_true rfl)) dX6_isBarredAt_3 ⟨Nat.zero_le _, Nat.zero_le _⟩) hI (fun r_3 u H locs hw hI => ?_)
  obtain ⟨rfl, rfl⟩ := hw
  by_cases hz : zin 8 a ∧ zin 8 b ∧ ¬ a = b
  · skip
    obtain ⟨ka, hka, rfl⟩ := z_ix hz.1.1 hz.1.2 (by decide)
    obtain ⟨kb, hkb, rfl⟩ := z_ix hz.2.1.1 hz.2.1.2 (by decide)
    rw [zcel_i hka hkb hz.2.2]
    refine lv_istore (lv' := [(4, .int (nI ((row * 8 + ka) * 8 + kb))), (0, .ref (za G 11)), (1, .int (nI ka)), (2, .int (nI kb)), (3, .int (nI row))]) hx hb dX6_isBarredAt_6 hl (by decide) rfl (fun ls hl => ?_)
    refine lv_iload hx hb dX6_isBarredAt_8 (lv_at hl 0 rfl) ?_
    refine lv_if_lt (tgt := 27) hx hb dX6_isBarredAt_10 (by decide) (fun c_10 => ?_) (fun c_10 => ?_)
    · skip
      rw [show (0 : Int32) = nI 0 from rfl] at c_10; rw [zqL (by omega) (by omega)] at c_10
      exact absurd c_10 (by omega)
    · skip
      rw [show (0 : Int32) = nI 0 from rfl] at c_10; rw [zqL (by omega) (by omega)] at c_10
      refine lv_aload_n hx hb dX6_isBarredAt_13 rfl (lv_at hl 1 rfl) ?_
      refine z_get (C := RX6) (T := TX6) (N := 8) (ci := 6) (v := .ref (za G 13)) hx hb hts hin6 hown hK hI (zo11 hG) rfl 1 (by decide) wF15 (fun _ h9 => h9) rfl dX6_isBarredAt_14 ?_
      refine lv_iload hx hb dX6_isBarredAt_17 (lv_at hl 0 rfl) ?_
      refine z_zald (v := (x.1 13 ((row * 8 + ka) * 8 + kb))) hx hb hK hI (zo13 hG) ((row * 8 + ka) * 8 + kb) rfl (by omega) (by decide) rfl dX6_isBarredAt_19 ?_
      refine lv_if_eq (tgt := 27) hx hb dX6_isBarredAt_20 (by decide) (fun c_20 => ?_) (fun c_20 => ?_)
      · skip
        refine lv_iconst (v := (nI 0)) hx hb dX6_isBarredAt_27 rfl ?_
        exact z_zret hx hb hr hlocks hI (Or.inl rfl) (⟨rfl, if_neg (fun h => h.2.2.2 (by rw [nI_clamp (by omega), nI_clamp (by omega)]; exact c_20))⟩) dX6_isBarredAt_28
      · skip
        refine lv_iconst (v := (nI 1)) hx hb dX6_isBarredAt_23 rfl ?_
        refine lv_goto (tgt := 28) hx hb dX6_isBarredAt_24 (by decide) ?_
        exact z_zret hx hb hr hlocks hI (Or.inr rfl) (⟨rfl, if_pos ⟨hz.1, hz.2.1, hz.2.2, by rw [nI_clamp (by omega), nI_clamp (by omega)]; exact c_20⟩⟩) dX6_isBarredAt_28
  · skip
    rw [zcel_n hz]
    refine lv_istore (lv' := [(4, .int (-1)), (0, .ref (za G 11)), (1, .int a), (2, .int b), (3, .int (nI row))]) hx hb dX6_isBarredAt_6 hl (by decide) rfl (fun ls hl => ?_)
    refine lv_iload hx hb dX6_isBarredAt_8 (lv_at hl 0 rfl) ?_
    refine lv_if_lt (tgt := 27) hx hb dX6_isBarredAt_10 (by decide) (fun c_10 => ?_) (fun c_10 => ?_)
    · skip
      refine lv_iconst (v := (nI 0)) hx hb dX6_isBarredAt_27 rfl ?_
      exact z_zret hx hb hr hlocks hI (Or.inl rfl) (⟨rfl, if_neg (fun h => hz ⟨h.1, h.2.1, h.2.2.1⟩)⟩) dX6_isBarredAt_28
    · skip
      exact absurd (by decide) c_10
set_option maxHeartbeats 4000000 in
set_option maxRecDepth 100000 in
theorem c_X6_burdenOf (l : Launch) {G : zG} (hG : zOK G) (x : zX) (a : Nat) (ha8 : a < 8) : zMi l yX6_burdenOf wsX6_burdenOf { frames := 0, cells := 0, slots := 0, locals := 0 } G [.ref (za G 11), .int (nI a)] x (fun (r : Int32) (u : zX) => x = u ∧ x.1 14 a = r) := by
  intro A
  refine zBody (cc := cX6_burdenOf) (maxL := 2) (ret := (some .int)) (by decide) rfl (Nat.le_of_ble_eq_true rfl) ?_
  intro p e s m below meth c hx hb hml hown hts hr hlocks hK hN hI ls hl
  have hown : s.vm.findClass RX6 = some m.cls := hown
  have hl : lv_has ls 2 [(0, .ref (za G 11)), (1, .int (nI a))] := hl
  have hin6 : ∀ w ∈ wsX60, w ∈ wsX6_burdenOf := (fun _ h => List.mem_cons_of_mem _ (List.mem_append_right _ (h)))
  have wF19 := hts (.fieldLink RX6 19 "WhoSitsBy$Sittings" "burdens" "[I") (z_mem 1 rfl)
  refine lv_iload_n hx hb dX6_burdenOf_0 rfl (lv_at hl 1 rfl) ?_
  refine lv_if_lt (tgt := 22) hx hb dX6_burdenOf_1 (by decide) (fun c_1 => ?_) (fun c_1 => ?_)
  · skip
    rw [show (0 : Int32) = nI 0 from rfl] at c_1; rw [zqL (by omega) (by omega)] at c_1
    exact absurd c_1 (by omega)
  · skip
    rw [show (0 : Int32) = nI 0 from rfl] at c_1; rw [zqL (by omega) (by omega)] at c_1
    refine lv_iload_n hx hb dX6_burdenOf_4 rfl (lv_at hl 1 rfl) ?_
    refine lv_aload_n hx hb dX6_burdenOf_5 rfl (lv_at hl 0 rfl) ?_
    refine z_get (C := RX6) (T := TX6) (N := 8) (ci := 6) (v := .ref (za G 14)) hx hb hts hin6 hown hK hI (zo11 hG) rfl 2 (by decide) wF19 (fun _ h9 => h9) rfl dX6_burdenOf_6 ?_
    refine z_alen (v := nI 8) hx hb hK hI 0 (zo14 hG).1 ((zo14 hG).2 _) rfl rfl dX6_burdenOf_9 ?_
    refine lv_icmp_ge (tgt := 22) hx hb dX6_burdenOf_10 (by decide) (fun c_10 => ?_) (fun c_10 => ?_)
    · skip
      rw [zqG (by omega) (by omega)] at c_10
      exact absurd c_10 (by omega)
    · skip
      rw [zqG (by omega) (by omega)] at c_10
      refine lv_aload_n hx hb dX6_burdenOf_13 rfl (lv_at hl 0 rfl) ?_
      refine z_get (C := RX6) (T := TX6) (N := 8) (ci := 6) (v := .ref (za G 14)) hx hb hts hin6 hown hK hI (zo11 hG) rfl 2 (by decide) wF19 (fun _ h9 => h9) rfl dX6_burdenOf_14 ?_
      refine lv_iload_n hx hb dX6_burdenOf_17 rfl (lv_at hl 1 rfl) ?_
      refine z_iald (v := (x.1 14 a)) hx hb hK hI (zo14 hG) a rfl (by omega) (by decide) rfl dX6_burdenOf_18 ?_
      refine lv_goto (tgt := 23) hx hb dX6_burdenOf_19 (by decide) ?_
      exact z_iret hx hb hr hlocks hI (⟨rfl, rfl⟩) dX6_burdenOf_23
set_option maxHeartbeats 4000000 in
set_option maxRecDepth 100000 in
theorem c_X6_worthOf (l : Launch) {G : zG} (hG : zOK G) (x : zX) (i : Nat) (ha : zIA G i 8) (hrw : zrow (x.1 i)) : zMi l yX6_worthOf wsX6_worthOf { frames := 2, cells := 0, slots := 0, locals := 46 } G [.ref (za G 11), .ref (za G i)] x (fun (r : Int32) (u : zX) => x = u ∧ zwor x (x.1 i) = r) := by
  intro A
  refine zBody (cc := cX6_worthOf) (maxL := 8) (ret := (some .int)) (by decide) rfl (Nat.le_of_ble_eq_true rfl) ?_
  intro p e s m below meth c hx hb hml hown hts hr hlocks hK hN hI ls hl
  have hown : s.vm.findClass RX6 = some m.cls := hown
  have hl : lv_has ls 8 [(0, .ref (za G 11)), (1, .ref (za G i))] := hl
  refine lv_iconst (v := (nI 0)) hx hb dX6_worthOf_0 rfl ?_
  refine lv_istore_n (lv' := [(2, .int (nI 0)), (0, .ref (za G 11)), (1, .ref (za G i))]) hx hb dX6_worthOf_1 rfl hl (by decide) rfl (fun ls hl => ?_)
  refine lv_iconst (v := (nI 0)) hx hb dX6_worthOf_2 rfl ?_
  refine lv_istore_n (lv' := [(3, .int (nI 0)), (2, .int (nI 0)), (0, .ref (za G 11)), (1, .ref (za G i))]) hx hb dX6_worthOf_3 rfl hl (by decide) rfl (fun ls hl => ?_)
  have L4 : ∀ (f : Nat) (j : Nat) (d : Nat) (a : Int32), (j = 2 * d) → (d ≤ 4) → (a = zsum (zdw x (x.1 i)) d) → 5 ≤ d + f → ∀ (H : Heap) (locs : List Loc), zI G x A s.heap H locs → ∀ ls : Array Slot, lv_has ls 8 [(0, .ref (za G 11)), (1, .ref (za G i)), (2, .int a), (3, .int (nI j))] → W p l e { frames := 2, cells := 0, slots := 0, locals := 46 } s m ([.ref (za G 11), .ref (za G i)] : List Value).toArray below meth c H locs 0 0 (MQ below (va_Qi (fun (r : Int32) (u : zX) => x = u ∧ zwor x (x.1 i) = r) (fun u t => zJ G u A t.heap) A) ([.ref (za G 11), .ref (za G i)] : List Value).toArray s 0 0 A) (F0 m 4 ls []) := by
    intro f
    induction f with
    | zero =>
      intro j d a h0 h1 h2 hf
      exact absurd hf (by omega)
    | succ f ih =>
      intro j d a h0 h1 h2 hf H locs hI ls hl
      subst h0
      have ih4 := ih
      refine lv_iload_n hx hb dX6_worthOf_4 rfl (lv_at hl 3 rfl) ?_
      refine lv_iconst (v := (nI 1)) hx hb dX6_worthOf_5 rfl ?_
      refine z_iadd (v := (nI ((2 * d) + 1))) hx hb (nI_add _ _) dX6_worthOf_6 ?_
      refine lv_aload_n hx hb dX6_worthOf_7 rfl (lv_at hl 1 rfl) ?_
      refine z_alen (v := nI 8) hx hb hK hI 0 ha.1 (ha.2 _) rfl rfl dX6_worthOf_8 ?_
      refine lv_icmp_ge (tgt := 99) hx hb dX6_worthOf_9 (by decide) (fun c_9 => ?_) (fun c_9 => ?_)
      · skip
        rw [zqG (by omega) (by omega)] at c_9
        refine lv_iload_n hx hb dX6_worthOf_99 rfl (lv_at hl 2 rfl) ?_
        exact z_iret hx hb hr hlocks hI (⟨rfl, by rw [h2, show d = 4 by omega]; rfl⟩) dX6_worthOf_100
      · skip
        rw [zqG (by omega) (by omega)] at c_9
        rcases hrw (2 * d) (by omega) with hA | ⟨qa, hqa, hA⟩
        · skip
          refine lv_aload_n hx hb dX6_worthOf_12 rfl (lv_at hl 1 rfl) ?_
          refine lv_iload_n hx hb dX6_worthOf_13 rfl (lv_at hl 3 rfl) ?_
          refine z_iald (v := (-1)) hx hb hK hI ha (2 * d) rfl (by omega) (by decide) hA dX6_worthOf_14 ?_
          refine lv_istore (lv' := [(4, .int (-1)), (0, .ref (za G 11)), (1, .ref (za G i)), (2, .int a), (3, .int (nI (2 * d)))]) hx hb dX6_worthOf_15 hl (by decide) rfl (fun ls hl => ?_)
          rcases hrw (2 * d + 1) (by omega) with hB | ⟨qb, hqb, hB⟩
          · skip
            refine lv_aload_n hx hb dX6_worthOf_17 rfl (lv_at hl 2 rfl) ?_
            refine lv_iload_n hx hb dX6_worthOf_18 rfl (lv_at hl 4 rfl) ?_
            refine lv_iconst (v := (nI 1)) hx hb dX6_worthOf_19 rfl ?_
            refine z_iadd (v := (nI ((2 * d) + 1))) hx hb (nI_add _ _) dX6_worthOf_20 ?_
            refine z_iald (v := (-1)) hx hb hK hI ha ((2 * d) + 1) rfl (by omega) (by decide) hB dX6_worthOf_21 ?_
            refine lv_istore (lv' := [(5, .int (-1)), (4, .int (-1)), (0, .ref (za G 11)), (1, .ref (za G i)), (2, .int a), (3, .int (nI (2 * d)))]) hx hb dX6_worthOf_22 hl (by decide) rfl (fun ls hl => ?_)
            refine lv_iload hx hb dX6_worthOf_24 (lv_at hl 1 rfl) ?_
            refine lv_if_lt (tgt := 93) hx hb dX6_worthOf_26 (by decide) (fun c_26 => ?_) (fun c_26 => ?_)
            · skip
              refine lv_iinc (v := (nI ((2 * d) + 2))) (lv' := [(3, .int (nI ((2 * d) + 2))), (5, .int (-1)), (4, .int (-1)), (0, .ref (za G 11)), (1, .ref (za G i)), (2, .int a)]) hx hb dX6_worthOf_93 hl (k := 5) rfl (zincN (2 * d) 2) (by decide) rfl (fun ls hl => ?_)
              refine lv_goto (tgt := 4) hx hb dX6_worthOf_96 (by decide) ?_
              exact ih4 ((2 * d) + 2) (d + 1) a (by omega) (by omega) (zsum_f h2 (zdw_0 (Or.inl hA))) (by omega) _ _ hI ls (lv_sub hl [3, 4, 5, 0] rfl)
            · skip
              exact absurd (by decide) c_26
          · skip
            refine lv_aload_n hx hb dX6_worthOf_17 rfl (lv_at hl 2 rfl) ?_
            refine lv_iload_n hx hb dX6_worthOf_18 rfl (lv_at hl 4 rfl) ?_
            refine lv_iconst (v := (nI 1)) hx hb dX6_worthOf_19 rfl ?_
            refine z_iadd (v := (nI ((2 * d) + 1))) hx hb (nI_add _ _) dX6_worthOf_20 ?_
            refine z_iald (v := (nI qb)) hx hb hK hI ha ((2 * d) + 1) rfl (by omega) (by decide) hB dX6_worthOf_21 ?_
            refine lv_istore (lv' := [(5, .int (nI qb)), (4, .int (-1)), (0, .ref (za G 11)), (1, .ref (za G i)), (2, .int a), (3, .int (nI (2 * d)))]) hx hb dX6_worthOf_22 hl (by decide) rfl (fun ls hl => ?_)
            refine lv_iload hx hb dX6_worthOf_24 (lv_at hl 1 rfl) ?_
            refine lv_if_lt (tgt := 93) hx hb dX6_worthOf_26 (by decide) (fun c_26 => ?_) (fun c_26 => ?_)
            · skip
              refine lv_iinc (v := (nI ((2 * d) + 2))) (lv' := [(3, .int (nI ((2 * d) + 2))), (5, .int (nI qb)), (4, .int (-1)), (0, .ref (za G 11)), (1, .ref (za G i)), (2, .int a)]) hx hb dX6_worthOf_93 hl (k := 5) rfl (zincN (2 * d) 2) (by decide) rfl (fun ls hl => ?_)
              refine lv_goto (tgt := 4) hx hb dX6_worthOf_96 (by decide) ?_
              exact ih4 ((2 * d) + 2) (d + 1) a (by omega) (by omega) (zsum_f h2 (zdw_0 (Or.inl hA))) (by omega) _ _ hI ls (lv_sub hl [3, 4, 5, 0] rfl)
            · skip
              exact absurd (by decide) c_26
        · skip
          refine lv_aload_n hx hb dX6_worthOf_12 rfl (lv_at hl 1 rfl) ?_
          refine lv_iload_n hx hb dX6_worthOf_13 rfl (lv_at hl 3 rfl) ?_
          refine z_iald (v := (nI qa)) hx hb hK hI ha (2 * d) rfl (by omega) (by decide) hA dX6_worthOf_14 ?_
          refine lv_istore (lv' := [(4, .int (nI qa)), (0, .ref (za G 11)), (1, .ref (za G i)), (2, .int a), (3, .int (nI (2 * d)))]) hx hb dX6_worthOf_15 hl (by decide) rfl (fun ls hl => ?_)
          rcases hrw (2 * d + 1) (by omega) with hB | ⟨qb, hqb, hB⟩
          · skip
            refine lv_aload_n hx hb dX6_worthOf_17 rfl (lv_at hl 2 rfl) ?_
            refine lv_iload_n hx hb dX6_worthOf_18 rfl (lv_at hl 4 rfl) ?_
            refine lv_iconst (v := (nI 1)) hx hb dX6_worthOf_19 rfl ?_
            refine z_iadd (v := (nI ((2 * d) + 1))) hx hb (nI_add _ _) dX6_worthOf_20 ?_
            refine z_iald (v := (-1)) hx hb hK hI ha ((2 * d) + 1) rfl (by omega) (by decide) hB dX6_worthOf_21 ?_
            refine lv_istore (lv' := [(5, .int (-1)), (4, .int (nI qa)), (0, .ref (za G 11)), (1, .ref (za G i)), (2, .int a), (3, .int (nI (2 * d)))]) hx hb dX6_worthOf_22 hl (by decide) rfl (fun ls hl => ?_)
            refine lv_iload hx hb dX6_worthOf_24 (lv_at hl 1 rfl) ?_
            refine lv_if_lt (tgt := 93) hx hb dX6_worthOf_26 (by decide) (fun c_26 => ?_) (fun c_26 => ?_)
            · skip
              rw [show (0 : Int32) = nI 0 from rfl] at c_26; rw [zqL (by omega) (by omega)] at c_26
              exact absurd c_26 (by omega)
            · skip
              rw [show (0 : Int32) = nI 0 from rfl] at c_26; rw [zqL (by omega) (by omega)] at c_26
              refine lv_iload hx hb dX6_worthOf_29 (lv_at hl 0 rfl) ?_
              refine lv_if_lt (tgt := 93) hx hb dX6_worthOf_31 (by decide) (fun c_31 => ?_) (fun c_31 => ?_)
              · skip
                refine lv_iinc (v := (nI ((2 * d) + 2))) (lv' := [(3, .int (nI ((2 * d) + 2))), (5, .int (-1)), (4, .int (nI qa)), (0, .ref (za G 11)), (1, .ref (za G i)), (2, .int a)]) hx hb dX6_worthOf_93 hl (k := 5) rfl (zincN (2 * d) 2) (by decide) rfl (fun ls hl => ?_)
                refine lv_goto (tgt := 4) hx hb dX6_worthOf_96 (by decide) ?_
                exact ih4 ((2 * d) + 2) (d + 1) a (by omega) (by omega) (zsum_f h2 (zdw_0 (Or.inr hB))) (by omega) _ _ hI ls (lv_sub hl [3, 4, 5, 0] rfl)
              · skip
                exact absurd (by decide) c_31
          · skip
            refine lv_aload_n hx hb dX6_worthOf_17 rfl (lv_at hl 2 rfl) ?_
            refine lv_iload_n hx hb dX6_worthOf_18 rfl (lv_at hl 4 rfl) ?_
            refine lv_iconst (v := (nI 1)) hx hb dX6_worthOf_19 rfl ?_
            refine z_iadd (v := (nI ((2 * d) + 1))) hx hb (nI_add _ _) dX6_worthOf_20 ?_
            refine z_iald (v := (nI qb)) hx hb hK hI ha ((2 * d) + 1) rfl (by omega) (by decide) hB dX6_worthOf_21 ?_
            refine lv_istore (lv' := [(5, .int (nI qb)), (4, .int (nI qa)), (0, .ref (za G 11)), (1, .ref (za G i)), (2, .int a), (3, .int (nI (2 * d)))]) hx hb dX6_worthOf_22 hl (by decide) rfl (fun ls hl => ?_)
            refine lv_iload hx hb dX6_worthOf_24 (lv_at hl 1 rfl) ?_
            refine lv_if_lt (tgt := 93) hx hb dX6_worthOf_26 (by decide) (fun c_26 => ?_) (fun c_26 => ?_)
            · skip
              rw [show (0 : Int32) = nI 0 from rfl] at c_26; rw [zqL (by omega) (by omega)] at c_26
              exact absurd c_26 (by omega)
            · skip
              rw [show (0 : Int32) = nI 0 from rfl] at c_26; rw [zqL (by omega) (by omega)] at c_26
              refine lv_iload hx hb dX6_worthOf_29 (lv_at hl 0 rfl) ?_
              refine lv_if_lt (tgt := 93) hx hb dX6_worthOf_31 (by decide) (fun c_31 => ?_) (fun c_31 => ?_)
              · skip
                rw [show (0 : Int32) = nI 0 from rfl] at c_31; rw [zqL (by omega) (by omega)] at c_31
                exact absurd c_31 (by omega)
              · skip
                rw [show (0 : Int32) = nI 0 from rfl] at c_31; rw [zqL (by omega) (by omega)] at c_31
                refine lv_iload_n hx hb dX6_worthOf_34 rfl (lv_at hl 5 rfl) ?_
                refine lv_iconst (v := (nI 4)) hx hb dX6_worthOf_35 rfl ?_
                refine z_idiv (v := (nI (d / 2))) hx hb ((pk_div (by omega) (by omega) (by omega)).trans (by rw [show 2 * d / 4 = d / 2 by omega])) dX6_worthOf_36 (by decide) ?_
                refine lv_istore (lv' := [(6, .int (nI (d / 2))), (5, .int (nI qb)), (4, .int (nI qa)), (0, .ref (za G 11)), (1, .ref (za G i)), (2, .int a), (3, .int (nI (2 * d)))]) hx hb dX6_worthOf_37 hl (by decide) rfl (fun ls hl => ?_)
                refine lv_aload_n hx hb dX6_worthOf_39 rfl (lv_at hl 4 rfl) ?_
                refine lv_iload_n hx hb dX6_worthOf_40 rfl (lv_at hl 6 rfl) ?_
                refine lv_iconst (v := (nI 2)) hx hb dX6_worthOf_41 rfl ?_
                refine z_idiv (v := (nI d)) hx hb ((pk_div (by omega) (by omega) (by omega)).trans (by rw [show 2 * d / 2 = d by omega])) dX6_worthOf_42 (by decide) ?_
                refine lv_iconst (v := (nI 1)) hx hb dX6_worthOf_43 rfl ?_
                refine z_ixor (v := (nI (d ^^^ 1))) hx hb (zxor1 (by omega)) dX6_worthOf_44 ?_
                refine z_calli (va_runSN (As := [.ref (za G i), .int (nI (d ^^^ 1))]) (rest := []) ⟨hx, hb, hml, hown, hts⟩ ((c_X11_sittersAt l hG x i (d ^^^ 1) ha (zxor4 (by omega))) A) ⟨va_cnB 2 hts gX6_worthOf_X11_sittersAt_n58 rfl rfl rfl (hN.1 _ (z_mem 3 rfl)) (hts (.initialized RX11) (z_mem 2 rfl)) (by decide +kernel) ⟨Nat.le_of_ble_eq_true rfl, Nat.le_of_ble_eq_true rfl⟩, hts (.static yX11_sittersAt) (z_mem 1 rfl), trivial⟩ (z_pS hI hK hN) rfl rfl hl.1 rfl (lv_room (Nat.le_of_ble_eq_true rfl)) dX6_worthOf_45 ⟨Nat.zero_le _, Nat.zero_le _⟩) hI (fun r_45 u H locs hw hI => ?_)
                obtain ⟨rfl, rfl⟩ := hw
                refine lv_istore (lv' := [(7, .int (zocc (x.1 i (2 * (d ^^^ 1))) + zocc (x.1 i (2 * (d ^^^ 1) + 1)))), (6, .int (nI (d / 2))), (5, .int (nI qb)), (4, .int (nI qa)), (0, .ref (za G 11)), (1, .ref (za G i)), (2, .int a), (3, .int (nI (2 * d)))]) hx hb dX6_worthOf_48 hl (by decide) rfl (fun ls hl => ?_)
                refine lv_iload_n hx hb dX6_worthOf_50 rfl (lv_at hl 6 rfl) ?_
                refine lv_aload_n hx hb dX6_worthOf_51 rfl (lv_at hl 4 rfl) ?_
                refine lv_iload hx hb dX6_worthOf_52 (lv_at hl 3 rfl) ?_
                refine lv_iload hx hb dX6_worthOf_54 (lv_at hl 2 rfl) ?_
                refine lv_iload hx hb dX6_worthOf_56 (lv_at hl 1 rfl) ?_
                refine z_calli (va_runV (As := [.int (nI qa), .int (nI qb), .int (nI (d / 2))]) (rest := [.int a]) ⟨hx, hb, hml, hown, hts⟩ ((c_X6_worthAt l hG x qa qb (d / 2) (by omega) (by omega) (by omega)) A) (cwV 3 hts gX6_worthOf_X6_worthAt rfl rfl rfl (by decide +kernel) ⟨Nat.le_of_ble_eq_true rfl, Nat.le_of_ble_eq_true rfl⟩) (z_pV hI hK hN (z_recv hK hI (zo11 hG) rfl)) rfl rfl hl.1 rfl (lv_room (Nat.le_of_ble_eq_true rfl)) dX6_worthOf_58 ⟨Nat.zero_le _, Nat.zero_le _⟩) hI (fun r_58 u H locs hw hI => ?_)
                obtain ⟨rfl, rfl⟩ := hw
                refine lv_aload_n hx hb dX6_worthOf_61 rfl (lv_at hl 4 rfl) ?_
                refine lv_iload hx hb dX6_worthOf_62 (lv_at hl 2 rfl) ?_
                refine lv_iload hx hb dX6_worthOf_64 (lv_at hl 3 rfl) ?_
                refine lv_iload hx hb dX6_worthOf_66 (lv_at hl 1 rfl) ?_
                refine z_calli (va_runV (As := [.int (nI qb), .int (nI qa), .int (nI (d / 2))]) (rest := [.int (zwa x qa qb (d / 2)), .int a]) ⟨hx, hb, hml, hown, hts⟩ ((c_X6_worthAt l hG x qb qa (d / 2) (by omega) (by omega) (by omega)) A) (cwV 3 hts gX6_worthOf_X6_worthAt rfl rfl rfl (by decide +kernel) ⟨Nat.le_of_ble_eq_true rfl, Nat.le_of_ble_eq_true rfl⟩) (z_pV hI hK hN (z_recv hK hI (zo11 hG) rfl)) rfl rfl hl.1 rfl (lv_room (Nat.le_of_ble_eq_true rfl)) dX6_worthOf_68 ⟨Nat.zero_le _, Nat.zero_le _⟩) hI (fun r_68 u H locs hw hI => ?_)
                obtain ⟨rfl, rfl⟩ := hw
                refine lv_iadd hx hb dX6_worthOf_71 ?_
                refine lv_iadd hx hb dX6_worthOf_72 ?_
                refine lv_istore_n (lv' := [(2, .int (a + ((zwa x qa qb (d / 2)) + (zwa x qb qa (d / 2))))), (7, .int (zocc (x.1 i (2 * (d ^^^ 1))) + zocc (x.1 i (2 * (d ^^^ 1) + 1)))), (6, .int (nI (d / 2))), (5, .int (nI qb)), (4, .int (nI qa)), (0, .ref (za G 11)), (1, .ref (za G i)), (3, .int (nI (2 * d)))]) hx hb dX6_worthOf_73 rfl hl (by decide) rfl (fun ls hl => ?_)
                refine lv_iload_n hx hb dX6_worthOf_74 rfl (lv_at hl 0 rfl) ?_
                refine lv_iload hx hb dX6_worthOf_75 (lv_at hl 1 rfl) ?_
                refine lv_aload_n hx hb dX6_worthOf_77 rfl (lv_at hl 5 rfl) ?_
                refine lv_iload hx hb dX6_worthOf_78 (lv_at hl 4 rfl) ?_
                refine z_calli (va_runV (As := [.int (nI qa)]) (rest := [.int (zocc (x.1 i (2 * (d ^^^ 1))) + zocc (x.1 i (2 * (d ^^^ 1) + 1))), .int (a + ((zwa x qa qb (d / 2)) + (zwa x qb qa (d / 2))))]) ⟨hx, hb, hml, hown, hts⟩ ((c_X6_burdenOf l hG x qa (by omega)) A) (cwV 1 hts gX6_worthOf_X6_burdenOf rfl rfl rfl (by decide +kernel) ⟨Nat.le_of_ble_eq_true rfl, Nat.le_of_ble_eq_true rfl⟩) (z_pV hI hK hN (z_recv hK hI (zo11 hG) rfl)) rfl rfl hl.1 rfl (lv_room (Nat.le_of_ble_eq_true rfl)) dX6_worthOf_80 ⟨Nat.zero_le _, Nat.zero_le _⟩) hI (fun r_80 u H locs hw hI => ?_)
                obtain ⟨rfl, rfl⟩ := hw
                refine lv_aload_n hx hb dX6_worthOf_83 rfl (lv_at hl 5 rfl) ?_
                refine lv_iload hx hb dX6_worthOf_84 (lv_at hl 3 rfl) ?_
                refine z_calli (va_runV (As := [.int (nI qb)]) (rest := [.int (x.1 14 qa), .int (zocc (x.1 i (2 * (d ^^^ 1))) + zocc (x.1 i (2 * (d ^^^ 1) + 1))), .int (a + ((zwa x qa qb (d / 2)) + (zwa x qb qa (d / 2))))]) ⟨hx, hb, hml, hown, hts⟩ ((c_X6_burdenOf l hG x qb (by omega)) A) (cwV 1 hts gX6_worthOf_X6_burdenOf rfl rfl rfl (by decide +kernel) ⟨Nat.le_of_ble_eq_true rfl, Nat.le_of_ble_eq_true rfl⟩) (z_pV hI hK hN (z_recv hK hI (zo11 hG) rfl)) rfl rfl hl.1 rfl (lv_room (Nat.le_of_ble_eq_true rfl)) dX6_worthOf_86 ⟨Nat.zero_le _, Nat.zero_le _⟩) hI (fun r_86 u H locs hw hI => ?_)
                obtain ⟨rfl, rfl⟩ := hw
                refine lv_iadd hx hb dX6_worthOf_89 ?_
                refine lv_imul hx hb dX6_worthOf_90 ?_
                refine lv_isub hx hb dX6_worthOf_91 ?_
                refine lv_istore_n (lv' := [(2, .int ((a + ((zwa x qa qb (d / 2)) + (zwa x qb qa (d / 2)))) - ((zocc (x.1 i (2 * (d ^^^ 1))) + zocc (x.1 i (2 * (d ^^^ 1) + 1))) * ((x.1 14 qa) + (x.1 14 qb))))), (7, .int (zocc (x.1 i (2 * (d ^^^ 1))) + zocc (x.1 i (2 * (d ^^^ 1) + 1)))), (6, .int (nI (d / 2))), (5, .int (nI qb)), (4, .int (nI qa)), (0, .ref (za G 11)), (1, .ref (za G i)), (3, .int (nI (2 * d)))]) hx hb dX6_worthOf_92 rfl hl (by decide) rfl (fun ls hl => ?_)
                refine lv_iinc (v := (nI ((2 * d) + 2))) (lv' := [(3, .int (nI ((2 * d) + 2))), (2, .int ((a + ((zwa x qa qb (d / 2)) + (zwa x qb qa (d / 2)))) - ((zocc (x.1 i (2 * (d ^^^ 1))) + zocc (x.1 i (2 * (d ^^^ 1) + 1))) * ((x.1 14 qa) + (x.1 14 qb))))), (7, .int (zocc (x.1 i (2 * (d ^^^ 1))) + zocc (x.1 i (2 * (d ^^^ 1) + 1)))), (6, .int (nI (d / 2))), (5, .int (nI qb)), (4, .int (nI qa)), (0, .ref (za G 11)), (1, .ref (za G i))]) hx hb dX6_worthOf_93 hl (k := 7) rfl (zincN (2 * d) 2) (by decide) rfl (fun ls hl => ?_)
                refine lv_goto (tgt := 4) hx hb dX6_worthOf_96 (by decide) ?_
                exact ih4 ((2 * d) + 2) (d + 1) ((a + ((zwa x qa qb (d / 2)) + (zwa x qb qa (d / 2)))) - ((zocc (x.1 i (2 * (d ^^^ 1))) + zocc (x.1 i (2 * (d ^^^ 1) + 1))) * ((x.1 14 qa) + (x.1 14 qb)))) (by omega) (by omega) (zwor_t h2 hA hB hqa hqb) (by omega) _ _ hI ls (lv_sub hl [6, 7, 1, 0] rfl)
  exact L4 (5) 0 0 (nI 0) (by omega) (by omega) rfl (by omega) _ _ hI ls (lv_sub hl [2, 3, 1, 0] rfl)
set_option maxHeartbeats 4000000 in
set_option maxRecDepth 100000 in
theorem c_X6_breaksOf (l : Launch) {G : zG} (hG : zOK G) (x : zX) (i : Nat) (aim : Int32) (ha : zIA G i 8) : zMi l yX6_breaksOf wsX6_breaksOf { frames := 2, cells := 0, slots := 0, locals := 46 } G [.ref (za G 11), .ref (za G i), .ref (za G 1), .int aim] x (fun (r : Int32) (u : zX) => x = u ∧ zbrk x (x.1 i) aim = r) := by
  intro A
  refine zBody (cc := cX6_breaksOf) (maxL := 6) (ret := (some .int)) (by decide) rfl (Nat.le_of_ble_eq_true rfl) ?_
  intro p e s m below meth c hx hb hml hown hts hr hlocks hK hN hI ls hl
  have hown : s.vm.findClass RX6 = some m.cls := hown
  have hl : lv_has ls 6 [(0, .ref (za G 11)), (1, .ref (za G i)), (2, .ref (za G 1)), (3, .int aim)] := hl
  refine lv_iconst (v := (nI 0)) hx hb dX6_breaksOf_0 rfl ?_
  refine lv_istore (lv' := [(4, .int (nI 0)), (0, .ref (za G 11)), (1, .ref (za G i)), (2, .ref (za G 1)), (3, .int aim)]) hx hb dX6_breaksOf_1 hl (by decide) rfl (fun ls hl => ?_)
  refine lv_iconst (v := (nI 0)) hx hb dX6_breaksOf_3 rfl ?_
  refine lv_istore (lv' := [(5, .int (nI 0)), (4, .int (nI 0)), (0, .ref (za G 11)), (1, .ref (za G i)), (2, .ref (za G 1)), (3, .int aim)]) hx hb dX6_breaksOf_4 hl (by decide) rfl (fun ls hl => ?_)
  have L6 : ∀ (f : Nat) (j : Nat) (d : Nat) (a : Int32), (j = 2 * d) → (d ≤ 4) → (a = zbr1 x (x.1 i) d) → (d = 0 ∨ ¬ aim = 0) → 5 ≤ d + f → ∀ (H : Heap) (locs : List Loc), zI G x A s.heap H locs → ∀ ls : Array Slot, lv_has ls 6 [(0, .ref (za G 11)), (1, .ref (za G i)), (2, .ref (za G 1)), (3, .int aim), (4, .int a), (5, .int (nI j))] → W p l e { frames := 2, cells := 0, slots := 0, locals := 46 } s m ([.ref (za G 11), .ref (za G i), .ref (za G 1), .int aim] : List Value).toArray below meth c H locs 0 0 (MQ below (va_Qi (fun (r : Int32) (u : zX) => x = u ∧ zbrk x (x.1 i) aim = r) (fun u t => zJ G u A t.heap) A) ([.ref (za G 11), .ref (za G i), .ref (za G 1), .int aim] : List Value).toArray s 0 0 A) (F0 m 6 ls []) := by
    intro f
    induction f with
    | zero =>
      intro j d a h0 h1 h2 h3 hf
      exact absurd hf (by omega)
    | succ f ih =>
      intro j d a h0 h1 h2 h3 hf H locs hI ls hl
      subst h0
      have ih6 := ih
      refine lv_iload hx hb dX6_breaksOf_6 (lv_at hl 5 rfl) ?_
      refine lv_iconst (v := (nI 1)) hx hb dX6_breaksOf_8 rfl ?_
      refine z_iadd (v := (nI ((2 * d) + 1))) hx hb (nI_add _ _) dX6_breaksOf_9 ?_
      refine lv_aload_n hx hb dX6_breaksOf_10 rfl (lv_at hl 1 rfl) ?_
      refine z_alen (v := nI 8) hx hb hK hI 0 ha.1 (ha.2 _) rfl rfl dX6_breaksOf_11 ?_
      refine lv_icmp_ge (tgt := 49) hx hb dX6_breaksOf_12 (by decide) (fun c_12 => ?_) (fun c_12 => ?_)
      · skip
        rw [zqG (by omega) (by omega)] at c_12
        have h4 : a = if aim = 0 then 0 else zbr1 x (x.1 i) 4 := by
          rw [if_neg (h3.resolve_left (by omega)), h2, show d = 4 by omega]
        refine lv_iconst (v := (nI 4)) hx hb dX6_breaksOf_49 rfl ?_
        refine lv_istore (lv' := [(5, .int (nI 4)), (0, .ref (za G 11)), (1, .ref (za G i)), (2, .ref (za G 1)), (3, .int aim), (4, .int a)]) hx hb dX6_breaksOf_50 hl (by decide) rfl (fun ls hl => ?_)
        have L52 : ∀ (f : Nat) (t : Nat) (k4 : Nat) (b : Int32) (b0 : Int32), (t = 4 + k4) → (k4 ≤ 4) → (b = b0 + zbr2 x (x.1 i) k4) → (k4 = 0 ∨ ¬ aim = nI 1) → (b0 = if aim = 0 then 0 else zbr1 x (x.1 i) 4) → 5 ≤ k4 + f → ∀ (H : Heap) (locs : List Loc), zI G x A s.heap H locs → ∀ ls : Array Slot, lv_has ls 6 [(0, .ref (za G 11)), (1, .ref (za G i)), (2, .ref (za G 1)), (3, .int aim), (4, .int b), (5, .int (nI t))] → W p l e { frames := 2, cells := 0, slots := 0, locals := 46 } s m ([.ref (za G 11), .ref (za G i), .ref (za G 1), .int aim] : List Value).toArray below meth c H locs 0 0 (MQ below (va_Qi (fun (r : Int32) (u : zX) => x = u ∧ zbrk x (x.1 i) aim = r) (fun u t => zJ G u A t.heap) A) ([.ref (za G 11), .ref (za G i), .ref (za G 1), .int aim] : List Value).toArray s 0 0 A) (F0 m 52 ls []) := by
          intro f
          induction f with
          | zero =>
            intro t k4 b b0 g0 g1 g2 g3 g4 hf
            exact absurd hf (by omega)
          | succ f ih =>
            intro t k4 b b0 g0 g1 g2 g3 g4 hf H locs hI ls hl
            subst g0
            have ih52 := ih
            refine lv_iload hx hb dX6_breaksOf_52 (lv_at hl 5 rfl) ?_
            refine lv_aload_n hx hb dX6_breaksOf_54 rfl (lv_at hl 1 rfl) ?_
            refine z_alen (v := nI 8) hx hb hK hI 0 ha.1 (ha.2 _) rfl rfl dX6_breaksOf_55 ?_
            refine lv_icmp_ge (tgt := 84) hx hb dX6_breaksOf_56 (by decide) (fun c_56 => ?_) (fun c_56 => ?_)
            · skip
              rw [zqG (by omega) (by omega)] at c_56
              refine lv_iload hx hb dX6_breaksOf_84 (lv_at hl 4 rfl) ?_
              exact z_iret hx hb hr hlocks hI (⟨rfl, by unfold zbrk; rw [← g4, g2]; exact congrArg (b0 + ·) (if_neg (g3.resolve_left (by omega)) |>.trans (by rw [show k4 = 4 by omega]))⟩) dX6_breaksOf_86
            · skip
              rw [zqG (by omega) (by omega)] at c_56
              refine lv_iload_n hx hb dX6_breaksOf_59 rfl (lv_at hl 3 rfl) ?_
              refine lv_iconst (v := (nI 1)) hx hb dX6_breaksOf_60 rfl ?_
              refine lv_icmp_eq (tgt := 84) hx hb dX6_breaksOf_61 (by decide) (fun c_61 => ?_) (fun c_61 => ?_)
              · skip
                refine lv_iload hx hb dX6_breaksOf_84 (lv_at hl 4 rfl) ?_
                exact z_iret hx hb hr hlocks hI (⟨rfl, by unfold zbrk; rw [← g4, g2]; exact congrArg (b0 + ·) (if_pos c_61 |>.trans (by rcases g3 with g3 | g3; rw [g3]; rfl; exact absurd c_61 g3))⟩) dX6_breaksOf_86
              · skip
                refine lv_aload_n hx hb dX6_breaksOf_64 rfl (lv_at hl 2 rfl) ?_
                refine lv_aload_n hx hb dX6_breaksOf_65 rfl (lv_at hl 1 rfl) ?_
                refine lv_iload hx hb dX6_breaksOf_66 (lv_at hl 5 rfl) ?_
                refine z_iald (v := (x.1 i (4 + k4))) hx hb hK hI ha (4 + k4) rfl (by omega) (by decide) rfl dX6_breaksOf_68 ?_
                refine z_calli (va_runV (As := [.int (x.1 i (4 + k4))]) (rest := []) ⟨hx, hb, hml, hown, hts⟩ ((c_X7_needsFront l hG x (x.1 i (4 + k4))) A) (cwV 1 hts gX6_breaksOf_X7_needsFront rfl rfl rfl (by decide +kernel) ⟨Nat.le_of_ble_eq_true rfl, Nat.le_of_ble_eq_true rfl⟩) (z_pV hI hK hN (z_recv hK hI (zo1 hG) rfl)) rfl rfl hl.1 rfl (lv_room (Nat.le_of_ble_eq_true rfl)) dX6_breaksOf_69 ⟨Nat.zero_le _, Nat.zero_le _⟩) hI (fun r_69 u H locs hw hI => ?_)
                obtain ⟨rfl, rfl⟩ := hw
                refine lv_if_eq (tgt := 78) hx hb dX6_breaksOf_72 (by decide) (fun c_72 => ?_) (fun c_72 => ?_)
                · skip
                  rw [zb_0] at c_72
                  refine lv_iinc (v := (nI ((4 + k4) + 1))) (lv' := [(5, .int (nI ((4 + k4) + 1))), (0, .ref (za G 11)), (1, .ref (za G i)), (2, .ref (za G 1)), (3, .int aim), (4, .int b)]) hx hb dX6_breaksOf_78 hl (k := 5) rfl (zinc (4 + k4)) (by decide) rfl (fun ls hl => ?_)
                  refine lv_goto (tgt := 52) hx hb dX6_breaksOf_81 (by decide) ?_
                  exact ih52 ((4 + k4) + 1) (k4 + 1) b b0 (by omega) (by omega) (zsum_f2 g2 (if_neg c_72)) (Or.inr c_61) g4 (by omega) _ _ hI ls (lv_sub hl [1, 2, 3, 4, 5, 0] rfl)
                · skip
                  rw [zb_0, Classical.not_not] at c_72
                  refine lv_iinc (v := (b + 1)) (lv' := [(4, .int (b + 1)), (0, .ref (za G 11)), (1, .ref (za G i)), (2, .ref (za G 1)), (3, .int aim), (5, .int (nI (4 + k4)))]) hx hb dX6_breaksOf_75 hl (k := 4) rfl rfl (by decide) rfl (fun ls hl => ?_)
                  refine lv_iinc (v := (nI ((4 + k4) + 1))) (lv' := [(5, .int (nI ((4 + k4) + 1))), (4, .int (b + 1)), (0, .ref (za G 11)), (1, .ref (za G i)), (2, .ref (za G 1)), (3, .int aim)]) hx hb dX6_breaksOf_78 hl (k := 5) rfl (zinc (4 + k4)) (by decide) rfl (fun ls hl => ?_)
                  refine lv_goto (tgt := 52) hx hb dX6_breaksOf_81 (by decide) ?_
                  exact ih52 ((4 + k4) + 1) (k4 + 1) (b + 1) b0 (by omega) (by omega) (zsum_t2 g2 (if_pos c_72)) (Or.inr c_61) g4 (by omega) _ _ hI ls (lv_sub hl [2, 3, 4, 5, 1, 0] rfl)
        exact L52 (5) 4 0 a a (by omega) (by omega) (Int32.add_zero _).symm (Or.inl rfl) h4 (by omega) _ _ hI ls (lv_sub hl [1, 2, 3, 4, 5, 0] rfl)
      · skip
        rw [zqG (by omega) (by omega)] at c_12
        refine lv_iload_n hx hb dX6_breaksOf_15 rfl (lv_at hl 3 rfl) ?_
        refine lv_if_eq (tgt := 49) hx hb dX6_breaksOf_16 (by decide) (fun c_16 => ?_) (fun c_16 => ?_)
        · skip
          have h4 : a = if aim = 0 then 0 else zbr1 x (x.1 i) 4 := by
            rw [if_pos c_16, h2]
            rcases h3 with h3 | h3
            · rw [h3]; rfl
            · exact absurd c_16 h3
          refine lv_iconst (v := (nI 4)) hx hb dX6_breaksOf_49 rfl ?_
          refine lv_istore (lv' := [(5, .int (nI 4)), (0, .ref (za G 11)), (1, .ref (za G i)), (2, .ref (za G 1)), (3, .int aim), (4, .int a)]) hx hb dX6_breaksOf_50 hl (by decide) rfl (fun ls hl => ?_)
          have L52 : ∀ (f : Nat) (t : Nat) (k4 : Nat) (b : Int32) (b0 : Int32), (t = 4 + k4) → (k4 ≤ 4) → (b = b0 + zbr2 x (x.1 i) k4) → (k4 = 0 ∨ ¬ aim = nI 1) → (b0 = if aim = 0 then 0 else zbr1 x (x.1 i) 4) → 5 ≤ k4 + f → ∀ (H : Heap) (locs : List Loc), zI G x A s.heap H locs → ∀ ls : Array Slot, lv_has ls 6 [(0, .ref (za G 11)), (1, .ref (za G i)), (2, .ref (za G 1)), (3, .int aim), (4, .int b), (5, .int (nI t))] → W p l e { frames := 2, cells := 0, slots := 0, locals := 46 } s m ([.ref (za G 11), .ref (za G i), .ref (za G 1), .int aim] : List Value).toArray below meth c H locs 0 0 (MQ below (va_Qi (fun (r : Int32) (u : zX) => x = u ∧ zbrk x (x.1 i) aim = r) (fun u t => zJ G u A t.heap) A) ([.ref (za G 11), .ref (za G i), .ref (za G 1), .int aim] : List Value).toArray s 0 0 A) (F0 m 52 ls []) := by
            intro f
            induction f with
            | zero =>
              intro t k4 b b0 g0 g1 g2 g3 g4 hf
              exact absurd hf (by omega)
            | succ f ih =>
              intro t k4 b b0 g0 g1 g2 g3 g4 hf H locs hI ls hl
              subst g0
              have ih52 := ih
              refine lv_iload hx hb dX6_breaksOf_52 (lv_at hl 5 rfl) ?_
              refine lv_aload_n hx hb dX6_breaksOf_54 rfl (lv_at hl 1 rfl) ?_
              refine z_alen (v := nI 8) hx hb hK hI 0 ha.1 (ha.2 _) rfl rfl dX6_breaksOf_55 ?_
              refine lv_icmp_ge (tgt := 84) hx hb dX6_breaksOf_56 (by decide) (fun c_56 => ?_) (fun c_56 => ?_)
              · skip
                rw [zqG (by omega) (by omega)] at c_56
                refine lv_iload hx hb dX6_breaksOf_84 (lv_at hl 4 rfl) ?_
                exact z_iret hx hb hr hlocks hI (⟨rfl, by unfold zbrk; rw [← g4, g2]; exact congrArg (b0 + ·) (if_neg (g3.resolve_left (by omega)) |>.trans (by rw [show k4 = 4 by omega]))⟩) dX6_breaksOf_86
              · skip
                rw [zqG (by omega) (by omega)] at c_56
                refine lv_iload_n hx hb dX6_breaksOf_59 rfl (lv_at hl 3 rfl) ?_
                refine lv_iconst (v := (nI 1)) hx hb dX6_breaksOf_60 rfl ?_
                refine lv_icmp_eq (tgt := 84) hx hb dX6_breaksOf_61 (by decide) (fun c_61 => ?_) (fun c_61 => ?_)
                · skip
                  refine lv_iload hx hb dX6_breaksOf_84 (lv_at hl 4 rfl) ?_
                  exact z_iret hx hb hr hlocks hI (⟨rfl, by unfold zbrk; rw [← g4, g2]; exact congrArg (b0 + ·) (if_pos c_61 |>.trans (by rcases g3 with g3 | g3; rw [g3]; rfl; exact absurd c_61 g3))⟩) dX6_breaksOf_86
                · skip
                  refine lv_aload_n hx hb dX6_breaksOf_64 rfl (lv_at hl 2 rfl) ?_
                  refine lv_aload_n hx hb dX6_breaksOf_65 rfl (lv_at hl 1 rfl) ?_
                  refine lv_iload hx hb dX6_breaksOf_66 (lv_at hl 5 rfl) ?_
                  refine z_iald (v := (x.1 i (4 + k4))) hx hb hK hI ha (4 + k4) rfl (by omega) (by decide) rfl dX6_breaksOf_68 ?_
                  refine z_calli (va_runV (As := [.int (x.1 i (4 + k4))]) (rest := []) ⟨hx, hb, hml, hown, hts⟩ ((c_X7_needsFront l hG x (x.1 i (4 + k4))) A) (cwV 1 hts gX6_breaksOf_X7_needsFront rfl rfl rfl (by decide +kernel) ⟨Nat.le_of_ble_eq_true rfl, Nat.le_of_ble_eq_true rfl⟩) (z_pV hI hK hN (z_recv hK hI (zo1 hG) rfl)) rfl rfl hl.1 rfl (lv_room (Nat.le_of_ble_eq_true rfl)) dX6_breaksOf_69 ⟨Nat.zero_le _, Nat.zero_le _⟩) hI (fun r_69 u H locs hw hI => ?_)
                  obtain ⟨rfl, rfl⟩ := hw
                  refine lv_if_eq (tgt := 78) hx hb dX6_breaksOf_72 (by decide) (fun c_72 => ?_) (fun c_72 => ?_)
                  · skip
                    rw [zb_0] at c_72
                    refine lv_iinc (v := (nI ((4 + k4) + 1))) (lv' := [(5, .int (nI ((4 + k4) + 1))), (0, .ref (za G 11)), (1, .ref (za G i)), (2, .ref (za G 1)), (3, .int aim), (4, .int b)]) hx hb dX6_breaksOf_78 hl (k := 5) rfl (zinc (4 + k4)) (by decide) rfl (fun ls hl => ?_)
                    refine lv_goto (tgt := 52) hx hb dX6_breaksOf_81 (by decide) ?_
                    exact ih52 ((4 + k4) + 1) (k4 + 1) b b0 (by omega) (by omega) (zsum_f2 g2 (if_neg c_72)) (Or.inr c_61) g4 (by omega) _ _ hI ls (lv_sub hl [1, 2, 3, 4, 5, 0] rfl)
                  · skip
                    rw [zb_0, Classical.not_not] at c_72
                    refine lv_iinc (v := (b + 1)) (lv' := [(4, .int (b + 1)), (0, .ref (za G 11)), (1, .ref (za G i)), (2, .ref (za G 1)), (3, .int aim), (5, .int (nI (4 + k4)))]) hx hb dX6_breaksOf_75 hl (k := 4) rfl rfl (by decide) rfl (fun ls hl => ?_)
                    refine lv_iinc (v := (nI ((4 + k4) + 1))) (lv' := [(5, .int (nI ((4 + k4) + 1))), (4, .int (b + 1)), (0, .ref (za G 11)), (1, .ref (za G i)), (2, .ref (za G 1)), (3, .int aim)]) hx hb dX6_breaksOf_78 hl (k := 5) rfl (zinc (4 + k4)) (by decide) rfl (fun ls hl => ?_)
                    refine lv_goto (tgt := 52) hx hb dX6_breaksOf_81 (by decide) ?_
                    exact ih52 ((4 + k4) + 1) (k4 + 1) (b + 1) b0 (by omega) (by omega) (zsum_t2 g2 (if_pos c_72)) (Or.inr c_61) g4 (by omega) _ _ hI ls (lv_sub hl [2, 3, 4, 5, 1, 0] rfl)
          exact L52 (5) 4 0 a a (by omega) (by omega) (Int32.add_zero _).symm (Or.inl rfl) h4 (by omega) _ _ hI ls (lv_sub hl [1, 2, 3, 4, 5, 0] rfl)
        · skip
          refine lv_aload_n hx hb dX6_breaksOf_19 rfl (lv_at hl 0 rfl) ?_
          refine lv_aload_n hx hb dX6_breaksOf_20 rfl (lv_at hl 1 rfl) ?_
          refine lv_iload hx hb dX6_breaksOf_21 (lv_at hl 5 rfl) ?_
          refine z_iald (v := (x.1 i (2 * d))) hx hb hK hI ha (2 * d) rfl (by omega) (by decide) rfl dX6_breaksOf_23 ?_
          refine lv_aload_n hx hb dX6_breaksOf_24 rfl (lv_at hl 1 rfl) ?_
          refine lv_iload hx hb dX6_breaksOf_25 (lv_at hl 5 rfl) ?_
          refine lv_iconst (v := (nI 1)) hx hb dX6_breaksOf_27 rfl ?_
          refine z_iadd (v := (nI ((2 * d) + 1))) hx hb (nI_add _ _) dX6_breaksOf_28 ?_
          refine z_iald (v := (x.1 i ((2 * d) + 1))) hx hb hK hI ha ((2 * d) + 1) rfl (by omega) (by decide) rfl dX6_breaksOf_29 ?_
          refine lv_iload hx hb dX6_breaksOf_30 (lv_at hl 5 rfl) ?_
          refine lv_iconst (v := (nI 4)) hx hb dX6_breaksOf_32 rfl ?_
          refine z_idiv (v := (nI (d / 2))) hx hb ((pk_div (by omega) (by omega) (by omega)).trans (by rw [show 2 * d / 4 = d / 2 by omega])) dX6_breaksOf_33 (by decide) ?_
          refine z_calli (va_runV (As := [.int (x.1 i (2 * d)), .int (x.1 i ((2 * d) + 1)), .int (nI (d / 2))]) (rest := []) ⟨hx, hb, hml, hown, hts⟩ ((c_X6_isBarredAt l hG x (x.1 i (2 * d)) (x.1 i ((2 * d) + 1)) (d / 2) (by omega)) A) (cwV 3 hts gX6_breaksOf_X6_isBarredAt rfl rfl rfl (by decide +kernel) ⟨Nat.le_of_ble_eq_true rfl, Nat.le_of_ble_eq_true rfl⟩) (z_pV hI hK hN (z_recv hK hI (zo11 hG) rfl)) rfl rfl hl.1 rfl (lv_room (Nat.le_of_ble_eq_true rfl)) dX6_breaksOf_34 ⟨Nat.zero_le _, Nat.zero_le _⟩) hI (fun r_34 u H locs hw hI => ?_)
          obtain ⟨rfl, rfl⟩ := hw
          refine lv_if_eq (tgt := 43) hx hb dX6_breaksOf_37 (by decide) (fun c_37 => ?_) (fun c_37 => ?_)
          · skip
            rw [zb_0] at c_37
            refine lv_iinc (v := (nI ((2 * d) + 2))) (lv' := [(5, .int (nI ((2 * d) + 2))), (0, .ref (za G 11)), (1, .ref (za G i)), (2, .ref (za G 1)), (3, .int aim), (4, .int a)]) hx hb dX6_breaksOf_43 hl (k := 5) rfl (zincN (2 * d) 2) (by decide) rfl (fun ls hl => ?_)
            refine lv_goto (tgt := 6) hx hb dX6_breaksOf_46 (by decide) ?_
            exact ih6 ((2 * d) + 2) (d + 1) a (by omega) (by omega) (zsum_f h2 (if_neg c_37)) (Or.inr c_16) (by omega) _ _ hI ls (lv_sub hl [1, 2, 3, 4, 5, 0] rfl)
          · skip
            rw [zb_0, Classical.not_not] at c_37
            refine lv_iinc (v := (a + 1)) (lv' := [(4, .int (a + 1)), (0, .ref (za G 11)), (1, .ref (za G i)), (2, .ref (za G 1)), (3, .int aim), (5, .int (nI (2 * d)))]) hx hb dX6_breaksOf_40 hl (k := 4) rfl rfl (by decide) rfl (fun ls hl => ?_)
            refine lv_iinc (v := (nI ((2 * d) + 2))) (lv' := [(5, .int (nI ((2 * d) + 2))), (4, .int (a + 1)), (0, .ref (za G 11)), (1, .ref (za G i)), (2, .ref (za G 1)), (3, .int aim)]) hx hb dX6_breaksOf_43 hl (k := 5) rfl (zincN (2 * d) 2) (by decide) rfl (fun ls hl => ?_)
            refine lv_goto (tgt := 6) hx hb dX6_breaksOf_46 (by decide) ?_
            exact ih6 ((2 * d) + 2) (d + 1) (a + 1) (by omega) (by omega) (zsum_t h2 (if_pos c_37)) (Or.inr c_16) (by omega) _ _ hI ls (lv_sub hl [2, 3, 4, 5, 1, 0] rfl)
  exact L6 (5) 0 0 (nI 0) (by omega) (by omega) rfl (Or.inl rfl) (by omega) _ _ hI ls (lv_sub hl [2, 3, 4, 5, 1, 0] rfl)
set_option maxHeartbeats 4000000 in
set_option maxRecDepth 100000 in
theorem c_X6_isUnlike (l : Launch) {G : zG} (hG : zOK G) (x : zX) (t : Nat) (ht : t < 8) : zMi l yX6_isUnlike wsX6_isUnlike { frames := 1, cells := 0, slots := 0, locals := 22 } G [.ref (za G 11), .int (nI t)] x (fun (r : Int32) (u : zX) => x = u ∧ (if zunl (x.1 15) t then nI 1 else nI 0) = r) := by
  intro A
  refine zBody (cc := cX6_isUnlike) (maxL := 2) (ret := (some .boolean)) (by decide) rfl (Nat.le_of_ble_eq_true rfl) ?_
  intro p e s m below meth c hx hb hml hown hts hr hlocks hK hN hI ls hl
  have hown : s.vm.findClass RX6 = some m.cls := hown
  have hl : lv_has ls 2 [(0, .ref (za G 11)), (1, .int (nI t))] := hl
  have hin6 : ∀ w ∈ wsX60, w ∈ wsX6_isUnlike := (fun _ h => List.mem_cons_of_mem _ (List.mem_append_right _ (h)))
  have wF22 := hts (.fieldLink RX6 22 "WhoSitsBy$Sittings" "trial" "[I") (z_mem 1 rfl)
  refine lv_iload_n hx hb dX6_isUnlike_0 rfl (lv_at hl 1 rfl) ?_
  refine lv_if_lt (tgt := 20) hx hb dX6_isUnlike_1 (by decide) (fun c_1 => ?_) (fun c_1 => ?_)
  · skip
    rw [show (0 : Int32) = nI 0 from rfl] at c_1; rw [zqL (by omega) (by omega)] at c_1
    exact absurd c_1 (by omega)
  · skip
    rw [show (0 : Int32) = nI 0 from rfl] at c_1; rw [zqL (by omega) (by omega)] at c_1
    refine lv_iload_n hx hb dX6_isUnlike_4 rfl (lv_at hl 1 rfl) ?_
    refine lv_bipush (v := (nI 8)) hx hb dX6_isUnlike_5 rfl ?_
    refine lv_icmp_ge (tgt := 20) hx hb dX6_isUnlike_7 (by decide) (fun c_7 => ?_) (fun c_7 => ?_)
    · skip
      rw [zqG (by omega) (by omega)] at c_7
      exact absurd c_7 (by omega)
    · skip
      rw [zqG (by omega) (by omega)] at c_7
      refine lv_aload_n hx hb dX6_isUnlike_10 rfl (lv_at hl 0 rfl) ?_
      refine z_get (C := RX6) (T := TX6) (N := 8) (ci := 6) (v := .ref (za G 15)) hx hb hts hin6 hown hK hI (zo11 hG) rfl 3 (by decide) wF22 (fun _ h9 => h9) rfl dX6_isUnlike_11 ?_
      refine lv_iload_n hx hb dX6_isUnlike_14 rfl (lv_at hl 1 rfl) ?_
      refine z_iald (v := (x.1 15 t)) hx hb hK hI (zo15 hG) t rfl (by omega) (by decide) rfl dX6_isUnlike_15 ?_
      refine lv_iconst (v := (-1)) hx hb dX6_isUnlike_16 rfl ?_
      refine lv_icmp_eq (tgt := 22) hx hb dX6_isUnlike_17 (by decide) (fun c_17 => ?_) (fun c_17 => ?_)
      · skip
        refine lv_iload_n hx hb dX6_isUnlike_22 rfl (lv_at hl 1 rfl) ?_
        refine lv_iconst (v := (nI 1)) hx hb dX6_isUnlike_23 rfl ?_
        refine z_iand (v := (nI t &&& nI 1)) hx hb rfl dX6_isUnlike_24 ?_
        refine lv_iconst (v := (nI 1)) hx hb dX6_isUnlike_25 rfl ?_
        refine lv_icmp_ne (tgt := 43) hx hb dX6_isUnlike_26 (by decide) (fun c_26 => ?_) (fun c_26 => ?_)
        · skip
          rw [zpar1 ht] at c_26
          refine lv_iload_n hx hb dX6_isUnlike_43 rfl (lv_at hl 1 rfl) ?_
          refine lv_iconst (v := (nI 2)) hx hb dX6_isUnlike_44 rfl ?_
          refine z_iand (v := (nI t &&& nI 2)) hx hb rfl dX6_isUnlike_45 ?_
          refine lv_if_eq (tgt := 64) hx hb dX6_isUnlike_46 (by decide) (fun c_46 => ?_) (fun c_46 => ?_)
          · skip
            rw [zpar2 ht] at c_46
            refine lv_iconst (v := (nI 1)) hx hb dX6_isUnlike_64 rfl ?_
            refine lv_goto (tgt := 69) hx hb dX6_isUnlike_65 (by decide) ?_
            exact z_zret hx hb hr hlocks hI (Or.inr rfl) (⟨rfl, if_pos ⟨c_17, fun h => c_26 h.1, Or.inl c_46⟩⟩) dX6_isUnlike_69
          · skip
            rw [zpar2 ht] at c_46
            refine lv_aload_n hx hb dX6_isUnlike_49 rfl (lv_at hl 0 rfl) ?_
            refine z_get (C := RX6) (T := TX6) (N := 8) (ci := 6) (v := .ref (za G 15)) hx hb hts hin6 hown hK hI (zo11 hG) rfl 3 (by decide) wF22 (fun _ h9 => h9) rfl dX6_isUnlike_50 ?_
            refine lv_iload_n hx hb dX6_isUnlike_53 rfl (lv_at hl 1 rfl) ?_
            refine lv_iconst (v := (nI 2)) hx hb dX6_isUnlike_54 rfl ?_
            refine z_idiv (v := (nI (t / 2))) hx hb (pk_div (by omega) (by omega) (by omega)) dX6_isUnlike_55 (by decide) ?_
            refine lv_iconst (v := (nI 1)) hx hb dX6_isUnlike_56 rfl ?_
            refine z_isub (v := (nI (t / 2 - 1))) hx hb (z_sub1 (by omega)) dX6_isUnlike_57 ?_
            refine z_calli (va_runSN (As := [.ref (za G 15), .int (nI (t / 2 - 1))]) (rest := []) ⟨hx, hb, hml, hown, hts⟩ ((c_X11_sittersAt l hG x 15 (t / 2 - 1) (zo15 hG) (by omega)) A) ⟨va_cnB 2 hts gX6_isUnlike_X11_sittersAt_n58 rfl rfl rfl (hN.1 _ (z_mem 3 rfl)) (hts (.initialized RX11) (z_mem 3 rfl)) (by decide +kernel) ⟨Nat.le_of_ble_eq_true rfl, Nat.le_of_ble_eq_true rfl⟩, hts (.static yX11_sittersAt) (z_mem 2 rfl), trivial⟩ (z_pS hI hK hN) rfl rfl hl.1 rfl (lv_room (Nat.le_of_ble_eq_true rfl)) dX6_isUnlike_58 ⟨Nat.zero_le _, Nat.zero_le _⟩) hI (fun r_58 u H locs hw hI => ?_)
            obtain ⟨rfl, rfl⟩ := hw
            refine lv_if_le (tgt := 68) hx hb dX6_isUnlike_61 (by decide) (fun c_61 => ?_) (fun c_61 => ?_)
            · skip
              refine lv_iconst (v := (nI 0)) hx hb dX6_isUnlike_68 rfl ?_
              exact z_zret hx hb hr hlocks hI (Or.inl rfl) (⟨rfl, if_neg (fun h => h.2.2.elim c_46 (fun h => z_nle c_61 h))⟩) dX6_isUnlike_69
            · skip
              refine lv_iconst (v := (nI 1)) hx hb dX6_isUnlike_64 rfl ?_
              refine lv_goto (tgt := 69) hx hb dX6_isUnlike_65 (by decide) ?_
              exact z_zret hx hb hr hlocks hI (Or.inr rfl) (⟨rfl, if_pos ⟨c_17, fun h => c_26 h.1, Or.inr (z_le c_61)⟩⟩) dX6_isUnlike_69
        · skip
          rw [zpar1 ht] at c_26
          refine lv_aload_n hx hb dX6_isUnlike_29 rfl (lv_at hl 0 rfl) ?_
          refine z_get (C := RX6) (T := TX6) (N := 8) (ci := 6) (v := .ref (za G 15)) hx hb hts hin6 hown hK hI (zo11 hG) rfl 3 (by decide) wF22 (fun _ h9 => h9) rfl dX6_isUnlike_30 ?_
          refine lv_iload_n hx hb dX6_isUnlike_33 rfl (lv_at hl 1 rfl) ?_
          refine lv_iconst (v := (nI 1)) hx hb dX6_isUnlike_34 rfl ?_
          refine z_isub (v := (nI (t - 1))) hx hb (z_sub1 (by omega)) dX6_isUnlike_35 ?_
          refine z_iald (v := (x.1 15 (t - 1))) hx hb hK hI (zo15 hG) (t - 1) rfl (by omega) (by decide) rfl dX6_isUnlike_36 ?_
          refine lv_iconst (v := (-1)) hx hb dX6_isUnlike_37 rfl ?_
          refine lv_icmp_ne (tgt := 43) hx hb dX6_isUnlike_38 (by decide) (fun c_38 => ?_) (fun c_38 => ?_)
          · skip
            refine lv_iload_n hx hb dX6_isUnlike_43 rfl (lv_at hl 1 rfl) ?_
            refine lv_iconst (v := (nI 2)) hx hb dX6_isUnlike_44 rfl ?_
            refine z_iand (v := (nI t &&& nI 2)) hx hb rfl dX6_isUnlike_45 ?_
            refine lv_if_eq (tgt := 64) hx hb dX6_isUnlike_46 (by decide) (fun c_46 => ?_) (fun c_46 => ?_)
            · skip
              rw [zpar2 ht] at c_46
              refine lv_iconst (v := (nI 1)) hx hb dX6_isUnlike_64 rfl ?_
              refine lv_goto (tgt := 69) hx hb dX6_isUnlike_65 (by decide) ?_
              exact z_zret hx hb hr hlocks hI (Or.inr rfl) (⟨rfl, if_pos ⟨c_17, fun h => c_38 h.2, Or.inl c_46⟩⟩) dX6_isUnlike_69
            · skip
              rw [zpar2 ht] at c_46
              refine lv_aload_n hx hb dX6_isUnlike_49 rfl (lv_at hl 0 rfl) ?_
              refine z_get (C := RX6) (T := TX6) (N := 8) (ci := 6) (v := .ref (za G 15)) hx hb hts hin6 hown hK hI (zo11 hG) rfl 3 (by decide) wF22 (fun _ h9 => h9) rfl dX6_isUnlike_50 ?_
              refine lv_iload_n hx hb dX6_isUnlike_53 rfl (lv_at hl 1 rfl) ?_
              refine lv_iconst (v := (nI 2)) hx hb dX6_isUnlike_54 rfl ?_
              refine z_idiv (v := (nI (t / 2))) hx hb (pk_div (by omega) (by omega) (by omega)) dX6_isUnlike_55 (by decide) ?_
              refine lv_iconst (v := (nI 1)) hx hb dX6_isUnlike_56 rfl ?_
              refine z_isub (v := (nI (t / 2 - 1))) hx hb (z_sub1 (by omega)) dX6_isUnlike_57 ?_
              refine z_calli (va_runSN (As := [.ref (za G 15), .int (nI (t / 2 - 1))]) (rest := []) ⟨hx, hb, hml, hown, hts⟩ ((c_X11_sittersAt l hG x 15 (t / 2 - 1) (zo15 hG) (by omega)) A) ⟨va_cnB 2 hts gX6_isUnlike_X11_sittersAt_n58 rfl rfl rfl (hN.1 _ (z_mem 3 rfl)) (hts (.initialized RX11) (z_mem 3 rfl)) (by decide +kernel) ⟨Nat.le_of_ble_eq_true rfl, Nat.le_of_ble_eq_true rfl⟩, hts (.static yX11_sittersAt) (z_mem 2 rfl), trivial⟩ (z_pS hI hK hN) rfl rfl hl.1 rfl (lv_room (Nat.le_of_ble_eq_true rfl)) dX6_isUnlike_58 ⟨Nat.zero_le _, Nat.zero_le _⟩) hI (fun r_58 u H locs hw hI => ?_)
              obtain ⟨rfl, rfl⟩ := hw
              refine lv_if_le (tgt := 68) hx hb dX6_isUnlike_61 (by decide) (fun c_61 => ?_) (fun c_61 => ?_)
              · skip
                refine lv_iconst (v := (nI 0)) hx hb dX6_isUnlike_68 rfl ?_
                exact z_zret hx hb hr hlocks hI (Or.inl rfl) (⟨rfl, if_neg (fun h => h.2.2.elim c_46 (fun h => z_nle c_61 h))⟩) dX6_isUnlike_69
              · skip
                refine lv_iconst (v := (nI 1)) hx hb dX6_isUnlike_64 rfl ?_
                refine lv_goto (tgt := 69) hx hb dX6_isUnlike_65 (by decide) ?_
                exact z_zret hx hb hr hlocks hI (Or.inr rfl) (⟨rfl, if_pos ⟨c_17, fun h => c_38 h.2, Or.inr (z_le c_61)⟩⟩) dX6_isUnlike_69
          · skip
            refine lv_iconst (v := (nI 0)) hx hb dX6_isUnlike_41 rfl ?_
            exact z_zret hx hb hr hlocks hI (Or.inl rfl) (⟨rfl, if_neg (fun h => h.2.1 ⟨c_26, c_38⟩)⟩) dX6_isUnlike_42
      · skip
        refine lv_iconst (v := (nI 0)) hx hb dX6_isUnlike_20 rfl ?_
        exact z_zret hx hb hr hlocks hI (Or.inl rfl) (⟨rfl, if_neg (fun h => c_17 h.1)⟩) dX6_isUnlike_21
set_option maxHeartbeats 4000000 in
set_option maxRecDepth 100000 in
theorem c_X6_weigh (l : Launch) {G : zG} (hG : zOK G) (x : zX) (aim : Int32) (hrw : zrow (x.1 15)) : zMi l yX6_weigh wsX6_weigh { frames := 3, cells := 0, slots := 0, locals := 86 } G [.ref (za G 11), .ref (za G 1), .int aim] x (fun (r : Int32) (u : zX) => zweigh x aim = u ∧ (if zworse x aim then nI 0 else nI 1) = r) := by
  intro A
  refine zBody (cc := cX6_weigh) (maxL := 5) (ret := (some .boolean)) (by decide) rfl (Nat.le_of_ble_eq_true rfl) ?_
  intro p e s m below meth c hx hb hml hown hts hr hlocks hK hN hI ls hl
  have hown : s.vm.findClass RX6 = some m.cls := hown
  have hl : lv_has ls 5 [(0, .ref (za G 11)), (1, .ref (za G 1)), (2, .int aim)] := hl
  have hin6 : ∀ w ∈ wsX60, w ∈ wsX6_weigh := (fun _ h => List.mem_cons_of_mem _ (List.mem_append_left _ (List.mem_append_right _ (h))))
  have wF22 := hts (.fieldLink RX6 22 "WhoSitsBy$Sittings" "trial" "[I") (z_mem 1 rfl)
  have wF96 := hts (.fieldLink RX6 96 "WhoSitsBy$Sittings" "any" "Z") (z_mem 2 rfl)
  have wF100 := hts (.fieldLink RX6 100 "WhoSitsBy$Sittings" "foundBreaks" "I") (z_mem 3 rfl)
  have wF103 := hts (.fieldLink RX6 103 "WhoSitsBy$Sittings" "foundWorth" "I") (z_mem 4 rfl)
  have wF25 := hts (.fieldLink RX6 25 "WhoSitsBy$Sittings" "found" "[I") (z_mem 5 rfl)
  have wA1 := hts (.methodLink RX6 120 arraycopyName) (z_mem 6 rfl)
  have wA2 := hts (.native arraycopyName) (z_mem 7 rfl)
  have wA3 := hts (.static arraycopyName) (z_mem 8 rfl)
  have wA4 := hts (.initialized "java/lang/System") (z_mem 9 rfl)
  refine lv_iload_n hx hb dX6_weigh_0 rfl (lv_at hl 2 rfl) ?_
  refine lv_iconst (v := (nI 3)) hx hb dX6_weigh_1 rfl ?_
  refine lv_icmp_ne (tgt := 9) hx hb dX6_weigh_2 (by decide) (fun c_2 => ?_) (fun c_2 => ?_)
  · skip
    refine lv_aload_n hx hb dX6_weigh_9 rfl (lv_at hl 0 rfl) ?_
    refine lv_aload_n hx hb dX6_weigh_10 rfl (lv_at hl 0 rfl) ?_
    refine z_get (C := RX6) (T := TX6) (N := 8) (ci := 6) (v := .ref (za G 15)) hx hb hts hin6 hown hK hI (zo11 hG) rfl 3 (by decide) wF22 (fun _ h9 => h9) rfl dX6_weigh_11 ?_
    refine lv_aload_n hx hb dX6_weigh_14 rfl (lv_at hl 1 rfl) ?_
    refine lv_iload_n hx hb dX6_weigh_15 rfl (lv_at hl 2 rfl) ?_
    refine z_calli (va_runV (As := [.ref (za G 15), .ref (za G 1), .int aim]) (rest := []) ⟨hx, hb, hml, hown, hts⟩ ((c_X6_breaksOf l hG x 15 aim (zo15 hG)) A) (cwV 3 hts gX6_weigh_X6_breaksOf rfl rfl rfl (by decide +kernel) ⟨Nat.le_of_ble_eq_true rfl, Nat.le_of_ble_eq_true rfl⟩) (z_pV hI hK hN (z_recv hK hI (zo11 hG) rfl)) rfl rfl hl.1 rfl (lv_room (Nat.le_of_ble_eq_true rfl)) dX6_weigh_16 ⟨Nat.zero_le _, Nat.zero_le _⟩) hI (fun r_16 u H locs hw hI => ?_)
    obtain ⟨rfl, rfl⟩ := hw
    refine lv_istore_n (lv' := [(3, .int (zbrk x (x.1 15) aim)), (0, .ref (za G 11)), (1, .ref (za G 1)), (2, .int aim)]) hx hb dX6_weigh_19 rfl hl (by decide) rfl (fun ls hl => ?_)
    refine lv_iload_n hx hb dX6_weigh_20 rfl (lv_at hl 3 rfl) ?_
    refine lv_iconst (v := (nI 3)) hx hb dX6_weigh_21 rfl ?_
    refine lv_icmp_ne (tgt := 36) hx hb dX6_weigh_22 (by decide) (fun c_22 => ?_) (fun c_22 => ?_)
    · skip
      refine lv_aload_n hx hb dX6_weigh_36 rfl (lv_at hl 1 rfl) ?_
      refine lv_aload_n hx hb dX6_weigh_37 rfl (lv_at hl 1 rfl) ?_
      refine z_get (C := RX6) (T := TX6) (N := 8) (ci := 6) (v := .ref (za G 15)) hx hb hts hin6 hown hK hI (zo11 hG) rfl 3 (by decide) wF22 (fun _ h9 => h9) rfl dX6_weigh_38 ?_
      refine z_calli (va_runV (As := [.ref (za G 15)]) (rest := []) ⟨hx, hb, hml, hown, hts⟩ ((c_X6_worthOf l hG x 15 (zo15 hG) hrw) A) (cwV 1 hts gX6_weigh_X6_worthOf rfl rfl rfl (by decide +kernel) ⟨Nat.le_of_ble_eq_true rfl, Nat.le_of_ble_eq_true rfl⟩) (z_pV hI hK hN (z_recv hK hI (zo11 hG) rfl)) rfl rfl hl.1 rfl (lv_room (Nat.le_of_ble_eq_true rfl)) dX6_weigh_41 ⟨Nat.zero_le _, Nat.zero_le _⟩) hI (fun r_41 u H locs hw hI => ?_)
      obtain ⟨rfl, rfl⟩ := hw
      refine lv_istore (lv' := [(4, .int (zwor x (x.1 15))), (3, .int (zbrk x (x.1 15) aim)), (0, .ref (za G 11)), (1, .ref (za G 1)), (2, .int aim)]) hx hb dX6_weigh_44 hl (by decide) rfl (fun ls hl => ?_)
      have hB : (zbrk x (x.1 15) aim) = zBk x aim := (if_neg c_2).symm
      have hV : (zwor x (x.1 15)) = zWk x aim := (if_neg c_2).symm
      rw [hB, hV] at hl
      refine lv_aload_n hx hb dX6_weigh_46 rfl (lv_at hl 2 rfl) ?_
      refine z_get (C := RX6) (T := TX6) (N := 8) (ci := 6) (v := .int (x.1 11 5)) hx hb hts hin6 hown hK hI (zo11 hG) rfl 5 (by decide) wF96 (fun _ h9 => h9) rfl dX6_weigh_47 ?_
      refine lv_if_eq (tgt := 80) hx hb dX6_weigh_50 (by decide) (fun c_50 => ?_) (fun c_50 => ?_)
      · skip
        have hnw : ¬ zworse x aim := fun h => h.1 c_50
        refine lv_aload_n hx hb dX6_weigh_80 rfl (lv_at hl 2 rfl) ?_
        refine lv_iconst (v := (nI 1)) hx hb dX6_weigh_81 rfl ?_
        refine z_putI (C := RX6) (T := TX6) (N := 8) (ci := 6) (ty := .boolean) hx hb hts hin6 tyX6 tyX6_ok nmX6 hown hK hI (zo11 hG) rfl 5 (by decide) wF96 (fun _ h9 => h9) rfl (fun _ _ => rfl) (by decide +kernel) rfl rfl (fun _ _ => Nat.le_of_ble_eq_true rfl) dX6_weigh_82 (fun H locs hI => ?_)
        refine lv_aload_n hx hb dX6_weigh_85 rfl (lv_at hl 2 rfl) ?_
        refine lv_iload_n hx hb dX6_weigh_86 rfl (lv_at hl 1 rfl) ?_
        refine z_putI (C := RX6) (T := TX6) (N := 8) (ci := 6) (ty := .int) hx hb hts hin6 tyX6 tyX6_ok nmX6 hown hK hI (zo11 hG) rfl 6 (by decide) wF100 (fun _ h9 => h9) rfl (fun _ _ => rfl) (by decide +kernel) rfl rfl (fun _ _ => Nat.le_of_ble_eq_true rfl) dX6_weigh_87 (fun H locs hI => ?_)
        refine lv_aload_n hx hb dX6_weigh_90 rfl (lv_at hl 2 rfl) ?_
        refine lv_iload hx hb dX6_weigh_91 (lv_at hl 0 rfl) ?_
        refine z_putI (C := RX6) (T := TX6) (N := 8) (ci := 6) (ty := .int) hx hb hts hin6 tyX6 tyX6_ok nmX6 hown hK hI (zo11 hG) rfl 7 (by decide) wF103 (fun _ h9 => h9) rfl (fun _ _ => rfl) (by decide +kernel) rfl rfl (fun _ _ => Nat.le_of_ble_eq_true rfl) dX6_weigh_93 (fun H locs hI => ?_)
        refine lv_aload_n hx hb dX6_weigh_96 rfl (lv_at hl 2 rfl) ?_
        refine z_get (C := RX6) (T := TX6) (N := 8) (ci := 6) (v := .ref (za G 15)) hx hb hts hin6 hown hK hI (zo11 hG) rfl 3 (by decide) wF22 (fun _ h9 => h9) rfl dX6_weigh_97 ?_
        refine lv_iconst (v := (nI 0)) hx hb dX6_weigh_100 rfl ?_
        refine lv_aload_n hx hb dX6_weigh_101 rfl (lv_at hl 2 rfl) ?_
        refine z_get (C := RX6) (T := TX6) (N := 8) (ci := 6) (v := .ref (za G 16)) hx hb hts hin6 hown hK hI (zo11 hG) rfl 4 (by decide) wF25 (fun _ h9 => h9) rfl dX6_weigh_102 ?_
        refine lv_iconst (v := (nI 0)) hx hb dX6_weigh_105 rfl ?_
        refine lv_bipush (v := (nI 8)) hx hb dX6_weigh_106 rfl ?_
        refine z_copyi hx hb (hml.trans hl.1.symm) hown wA1 wA2 wA3 wA4 hK hI 0 .int rfl rfl (zo15 hG) (zo16 hG) (sp := 0) (dp := 0) (n := 8) (by decide) (by decide) (by decide) (by decide) (fun _ _ => rfl) (Nat.le_of_ble_eq_true rfl) (Nat.le_of_ble_eq_true rfl) dX6_weigh_108 (fun H locs hI => ?_)
        refine lv_iconst (v := (nI 1)) hx hb dX6_weigh_111 rfl ?_
        exact z_zret hx hb hr hlocks hI (Or.inr rfl) (⟨if_neg hnw, if_neg hnw⟩) dX6_weigh_112
      · skip
        refine lv_iload_n hx hb dX6_weigh_53 rfl (lv_at hl 1 rfl) ?_
        refine lv_aload_n hx hb dX6_weigh_54 rfl (lv_at hl 2 rfl) ?_
        refine z_get (C := RX6) (T := TX6) (N := 8) (ci := 6) (v := .int (x.1 11 6)) hx hb hts hin6 hown hK hI (zo11 hG) rfl 6 (by decide) wF100 (fun _ h9 => h9) rfl dX6_weigh_55 ?_
        refine lv_icmp_gt (tgt := 78) hx hb dX6_weigh_58 (by decide) (fun c_58 => ?_) (fun c_58 => ?_)
        · skip
          refine lv_iconst (v := (nI 0)) hx hb dX6_weigh_78 rfl ?_
          exact z_zret hx hb hr hlocks hI (Or.inl rfl) (⟨if_pos (show zworse x aim from ⟨c_50, Or.inl c_58⟩), if_pos (show zworse x aim from ⟨c_50, Or.inl c_58⟩)⟩) dX6_weigh_79
        · skip
          refine lv_iload_n hx hb dX6_weigh_61 rfl (lv_at hl 1 rfl) ?_
          refine lv_aload_n hx hb dX6_weigh_62 rfl (lv_at hl 2 rfl) ?_
          refine z_get (C := RX6) (T := TX6) (N := 8) (ci := 6) (v := .int (x.1 11 6)) hx hb hts hin6 hown hK hI (zo11 hG) rfl 6 (by decide) wF100 (fun _ h9 => h9) rfl dX6_weigh_63 ?_
          refine lv_icmp_ne (tgt := 80) hx hb dX6_weigh_66 (by decide) (fun c_66 => ?_) (fun c_66 => ?_)
          · skip
            have hnw : ¬ zworse x aim := fun h => h.2.elim (fun h => c_58 h) (fun h => c_66 h.1)
            refine lv_aload_n hx hb dX6_weigh_80 rfl (lv_at hl 2 rfl) ?_
            refine lv_iconst (v := (nI 1)) hx hb dX6_weigh_81 rfl ?_
            refine z_putI (C := RX6) (T := TX6) (N := 8) (ci := 6) (ty := .boolean) hx hb hts hin6 tyX6 tyX6_ok nmX6 hown hK hI (zo11 hG) rfl 5 (by decide) wF96 (fun _ h9 => h9) rfl (fun _ _ => rfl) (by decide +kernel) rfl rfl (fun _ _ => Nat.le_of_ble_eq_true rfl) dX6_weigh_82 (fun H locs hI => ?_)
            refine lv_aload_n hx hb dX6_weigh_85 rfl (lv_at hl 2 rfl) ?_
            refine lv_iload_n hx hb dX6_weigh_86 rfl (lv_at hl 1 rfl) ?_
            refine z_putI (C := RX6) (T := TX6) (N := 8) (ci := 6) (ty := .int) hx hb hts hin6 tyX6 tyX6_ok nmX6 hown hK hI (zo11 hG) rfl 6 (by decide) wF100 (fun _ h9 => h9) rfl (fun _ _ => rfl) (by decide +kernel) rfl rfl (fun _ _ => Nat.le_of_ble_eq_true rfl) dX6_weigh_87 (fun H locs hI => ?_)
            refine lv_aload_n hx hb dX6_weigh_90 rfl (lv_at hl 2 rfl) ?_
            refine lv_iload hx hb dX6_weigh_91 (lv_at hl 0 rfl) ?_
            refine z_putI (C := RX6) (T := TX6) (N := 8) (ci := 6) (ty := .int) hx hb hts hin6 tyX6 tyX6_ok nmX6 hown hK hI (zo11 hG) rfl 7 (by decide) wF103 (fun _ h9 => h9) rfl (fun _ _ => rfl) (by decide +kernel) rfl rfl (fun _ _ => Nat.le_of_ble_eq_true rfl) dX6_weigh_93 (fun H locs hI => ?_)
            refine lv_aload_n hx hb dX6_weigh_96 rfl (lv_at hl 2 rfl) ?_
            refine z_get (C := RX6) (T := TX6) (N := 8) (ci := 6) (v := .ref (za G 15)) hx hb hts hin6 hown hK hI (zo11 hG) rfl 3 (by decide) wF22 (fun _ h9 => h9) rfl dX6_weigh_97 ?_
            refine lv_iconst (v := (nI 0)) hx hb dX6_weigh_100 rfl ?_
            refine lv_aload_n hx hb dX6_weigh_101 rfl (lv_at hl 2 rfl) ?_
            refine z_get (C := RX6) (T := TX6) (N := 8) (ci := 6) (v := .ref (za G 16)) hx hb hts hin6 hown hK hI (zo11 hG) rfl 4 (by decide) wF25 (fun _ h9 => h9) rfl dX6_weigh_102 ?_
            refine lv_iconst (v := (nI 0)) hx hb dX6_weigh_105 rfl ?_
            refine lv_bipush (v := (nI 8)) hx hb dX6_weigh_106 rfl ?_
            refine z_copyi hx hb (hml.trans hl.1.symm) hown wA1 wA2 wA3 wA4 hK hI 0 .int rfl rfl (zo15 hG) (zo16 hG) (sp := 0) (dp := 0) (n := 8) (by decide) (by decide) (by decide) (by decide) (fun _ _ => rfl) (Nat.le_of_ble_eq_true rfl) (Nat.le_of_ble_eq_true rfl) dX6_weigh_108 (fun H locs hI => ?_)
            refine lv_iconst (v := (nI 1)) hx hb dX6_weigh_111 rfl ?_
            exact z_zret hx hb hr hlocks hI (Or.inr rfl) (⟨if_neg hnw, if_neg hnw⟩) dX6_weigh_112
          · skip
            refine lv_iload hx hb dX6_weigh_69 (lv_at hl 0 rfl) ?_
            refine lv_aload_n hx hb dX6_weigh_71 rfl (lv_at hl 2 rfl) ?_
            refine z_get (C := RX6) (T := TX6) (N := 8) (ci := 6) (v := .int (x.1 11 7)) hx hb hts hin6 hown hK hI (zo11 hG) rfl 7 (by decide) wF103 (fun _ h9 => h9) rfl dX6_weigh_72 ?_
            refine lv_icmp_gt (tgt := 80) hx hb dX6_weigh_75 (by decide) (fun c_75 => ?_) (fun c_75 => ?_)
            · skip
              have hnw : ¬ zworse x aim := fun h => h.2.elim (fun h => c_58 h) (fun h => z_nle h.2 c_75)
              refine lv_aload_n hx hb dX6_weigh_80 rfl (lv_at hl 2 rfl) ?_
              refine lv_iconst (v := (nI 1)) hx hb dX6_weigh_81 rfl ?_
              refine z_putI (C := RX6) (T := TX6) (N := 8) (ci := 6) (ty := .boolean) hx hb hts hin6 tyX6 tyX6_ok nmX6 hown hK hI (zo11 hG) rfl 5 (by decide) wF96 (fun _ h9 => h9) rfl (fun _ _ => rfl) (by decide +kernel) rfl rfl (fun _ _ => Nat.le_of_ble_eq_true rfl) dX6_weigh_82 (fun H locs hI => ?_)
              refine lv_aload_n hx hb dX6_weigh_85 rfl (lv_at hl 2 rfl) ?_
              refine lv_iload_n hx hb dX6_weigh_86 rfl (lv_at hl 1 rfl) ?_
              refine z_putI (C := RX6) (T := TX6) (N := 8) (ci := 6) (ty := .int) hx hb hts hin6 tyX6 tyX6_ok nmX6 hown hK hI (zo11 hG) rfl 6 (by decide) wF100 (fun _ h9 => h9) rfl (fun _ _ => rfl) (by decide +kernel) rfl rfl (fun _ _ => Nat.le_of_ble_eq_true rfl) dX6_weigh_87 (fun H locs hI => ?_)
              refine lv_aload_n hx hb dX6_weigh_90 rfl (lv_at hl 2 rfl) ?_
              refine lv_iload hx hb dX6_weigh_91 (lv_at hl 0 rfl) ?_
              refine z_putI (C := RX6) (T := TX6) (N := 8) (ci := 6) (ty := .int) hx hb hts hin6 tyX6 tyX6_ok nmX6 hown hK hI (zo11 hG) rfl 7 (by decide) wF103 (fun _ h9 => h9) rfl (fun _ _ => rfl) (by decide +kernel) rfl rfl (fun _ _ => Nat.le_of_ble_eq_true rfl) dX6_weigh_93 (fun H locs hI => ?_)
              refine lv_aload_n hx hb dX6_weigh_96 rfl (lv_at hl 2 rfl) ?_
              refine z_get (C := RX6) (T := TX6) (N := 8) (ci := 6) (v := .ref (za G 15)) hx hb hts hin6 hown hK hI (zo11 hG) rfl 3 (by decide) wF22 (fun _ h9 => h9) rfl dX6_weigh_97 ?_
              refine lv_iconst (v := (nI 0)) hx hb dX6_weigh_100 rfl ?_
              refine lv_aload_n hx hb dX6_weigh_101 rfl (lv_at hl 2 rfl) ?_
              refine z_get (C := RX6) (T := TX6) (N := 8) (ci := 6) (v := .ref (za G 16)) hx hb hts hin6 hown hK hI (zo11 hG) rfl 4 (by decide) wF25 (fun _ h9 => h9) rfl dX6_weigh_102 ?_
              refine lv_iconst (v := (nI 0)) hx hb dX6_weigh_105 rfl ?_
              refine lv_bipush (v := (nI 8)) hx hb dX6_weigh_106 rfl ?_
              refine z_copyi hx hb (hml.trans hl.1.symm) hown wA1 wA2 wA3 wA4 hK hI 0 .int rfl rfl (zo15 hG) (zo16 hG) (sp := 0) (dp := 0) (n := 8) (by decide) (by decide) (by decide) (by decide) (fun _ _ => rfl) (Nat.le_of_ble_eq_true rfl) (Nat.le_of_ble_eq_true rfl) dX6_weigh_108 (fun H locs hI => ?_)
              refine lv_iconst (v := (nI 1)) hx hb dX6_weigh_111 rfl ?_
              exact z_zret hx hb hr hlocks hI (Or.inr rfl) (⟨if_neg hnw, if_neg hnw⟩) dX6_weigh_112
            · skip
              refine lv_iconst (v := (nI 0)) hx hb dX6_weigh_78 rfl ?_
              exact z_zret hx hb hr hlocks hI (Or.inl rfl) (⟨if_pos (show zworse x aim from ⟨c_50, Or.inr ⟨c_66, z_nlt c_75⟩⟩), if_pos (show zworse x aim from ⟨c_50, Or.inr ⟨c_66, z_nlt c_75⟩⟩)⟩) dX6_weigh_79
    · skip
      exact absurd c_22 c_2
  · skip
    refine lv_iconst (v := (nI 0)) hx hb dX6_weigh_5 rfl ?_
    refine lv_goto (tgt := 19) hx hb dX6_weigh_6 (by decide) ?_
    refine lv_istore_n (lv' := [(3, .int (nI 0)), (0, .ref (za G 11)), (1, .ref (za G 1)), (2, .int aim)]) hx hb dX6_weigh_19 rfl hl (by decide) rfl (fun ls hl => ?_)
    refine lv_iload_n hx hb dX6_weigh_20 rfl (lv_at hl 3 rfl) ?_
    refine lv_iconst (v := (nI 3)) hx hb dX6_weigh_21 rfl ?_
    refine lv_icmp_ne (tgt := 36) hx hb dX6_weigh_22 (by decide) (fun c_22 => ?_) (fun c_22 => ?_)
    · skip
      exact absurd c_2 c_22
    · skip
      refine lv_aload_n hx hb dX6_weigh_25 rfl (lv_at hl 2 rfl) ?_
      refine lv_aload_n hx hb dX6_weigh_26 rfl (lv_at hl 1 rfl) ?_
      refine z_get (C := RX6) (T := TX6) (N := 8) (ci := 6) (v := .ref (za G 15)) hx hb hts hin6 hown hK hI (zo11 hG) rfl 3 (by decide) wF22 (fun _ h9 => h9) rfl dX6_weigh_27 ?_
      refine z_calli (va_runV (As := [.ref (za G 15)]) (rest := []) ⟨hx, hb, hml, hown, hts⟩ ((c_X7_newPairs l hG x 15 (zo15 hG)) A) (cwV 1 hts gX6_weigh_X7_newPairs rfl rfl rfl (by decide +kernel) ⟨Nat.le_of_ble_eq_true rfl, Nat.le_of_ble_eq_true rfl⟩) (z_pV hI hK hN (z_recv hK hI (zo1 hG) rfl)) rfl rfl hl.1 rfl (lv_room (Nat.le_of_ble_eq_true rfl)) dX6_weigh_30 ⟨Nat.zero_le _, Nat.zero_le _⟩) hI (fun r_30 u H locs hw hI => ?_)
      obtain ⟨rfl, rfl⟩ := hw
      refine lv_goto (tgt := 44) hx hb dX6_weigh_33 (by decide) ?_
      refine lv_istore (lv' := [(4, .int (zlc (zpairs (x.1 15) &&& (x.2.1 1 5 ^^^ (-1))))), (3, .int (nI 0)), (0, .ref (za G 11)), (1, .ref (za G 1)), (2, .int aim)]) hx hb dX6_weigh_44 hl (by decide) rfl (fun ls hl => ?_)
      have hB : (nI 0) = zBk x aim := (if_pos c_2).symm
      have hV : (zlc (zpairs (x.1 15) &&& (x.2.1 1 5 ^^^ (-1)))) = zWk x aim := (if_pos c_2).symm
      rw [hB, hV] at hl
      refine lv_aload_n hx hb dX6_weigh_46 rfl (lv_at hl 2 rfl) ?_
      refine z_get (C := RX6) (T := TX6) (N := 8) (ci := 6) (v := .int (x.1 11 5)) hx hb hts hin6 hown hK hI (zo11 hG) rfl 5 (by decide) wF96 (fun _ h9 => h9) rfl dX6_weigh_47 ?_
      refine lv_if_eq (tgt := 80) hx hb dX6_weigh_50 (by decide) (fun c_50 => ?_) (fun c_50 => ?_)
      · skip
        have hnw : ¬ zworse x aim := fun h => h.1 c_50
        refine lv_aload_n hx hb dX6_weigh_80 rfl (lv_at hl 2 rfl) ?_
        refine lv_iconst (v := (nI 1)) hx hb dX6_weigh_81 rfl ?_
        refine z_putI (C := RX6) (T := TX6) (N := 8) (ci := 6) (ty := .boolean) hx hb hts hin6 tyX6 tyX6_ok nmX6 hown hK hI (zo11 hG) rfl 5 (by decide) wF96 (fun _ h9 => h9) rfl (fun _ _ => rfl) (by decide +kernel) rfl rfl (fun _ _ => Nat.le_of_ble_eq_true rfl) dX6_weigh_82 (fun H locs hI => ?_)
        refine lv_aload_n hx hb dX6_weigh_85 rfl (lv_at hl 2 rfl) ?_
        refine lv_iload_n hx hb dX6_weigh_86 rfl (lv_at hl 1 rfl) ?_
        refine z_putI (C := RX6) (T := TX6) (N := 8) (ci := 6) (ty := .int) hx hb hts hin6 tyX6 tyX6_ok nmX6 hown hK hI (zo11 hG) rfl 6 (by decide) wF100 (fun _ h9 => h9) rfl (fun _ _ => rfl) (by decide +kernel) rfl rfl (fun _ _ => Nat.le_of_ble_eq_true rfl) dX6_weigh_87 (fun H locs hI => ?_)
        refine lv_aload_n hx hb dX6_weigh_90 rfl (lv_at hl 2 rfl) ?_
        refine lv_iload hx hb dX6_weigh_91 (lv_at hl 0 rfl) ?_
        refine z_putI (C := RX6) (T := TX6) (N := 8) (ci := 6) (ty := .int) hx hb hts hin6 tyX6 tyX6_ok nmX6 hown hK hI (zo11 hG) rfl 7 (by decide) wF103 (fun _ h9 => h9) rfl (fun _ _ => rfl) (by decide +kernel) rfl rfl (fun _ _ => Nat.le_of_ble_eq_true rfl) dX6_weigh_93 (fun H locs hI => ?_)
        refine lv_aload_n hx hb dX6_weigh_96 rfl (lv_at hl 2 rfl) ?_
        refine z_get (C := RX6) (T := TX6) (N := 8) (ci := 6) (v := .ref (za G 15)) hx hb hts hin6 hown hK hI (zo11 hG) rfl 3 (by decide) wF22 (fun _ h9 => h9) rfl dX6_weigh_97 ?_
        refine lv_iconst (v := (nI 0)) hx hb dX6_weigh_100 rfl ?_
        refine lv_aload_n hx hb dX6_weigh_101 rfl (lv_at hl 2 rfl) ?_
        refine z_get (C := RX6) (T := TX6) (N := 8) (ci := 6) (v := .ref (za G 16)) hx hb hts hin6 hown hK hI (zo11 hG) rfl 4 (by decide) wF25 (fun _ h9 => h9) rfl dX6_weigh_102 ?_
        refine lv_iconst (v := (nI 0)) hx hb dX6_weigh_105 rfl ?_
        refine lv_bipush (v := (nI 8)) hx hb dX6_weigh_106 rfl ?_
        refine z_copyi hx hb (hml.trans hl.1.symm) hown wA1 wA2 wA3 wA4 hK hI 0 .int rfl rfl (zo15 hG) (zo16 hG) (sp := 0) (dp := 0) (n := 8) (by decide) (by decide) (by decide) (by decide) (fun _ _ => rfl) (Nat.le_of_ble_eq_true rfl) (Nat.le_of_ble_eq_true rfl) dX6_weigh_108 (fun H locs hI => ?_)
        refine lv_iconst (v := (nI 1)) hx hb dX6_weigh_111 rfl ?_
        exact z_zret hx hb hr hlocks hI (Or.inr rfl) (⟨if_neg hnw, if_neg hnw⟩) dX6_weigh_112
      · skip
        refine lv_iload_n hx hb dX6_weigh_53 rfl (lv_at hl 1 rfl) ?_
        refine lv_aload_n hx hb dX6_weigh_54 rfl (lv_at hl 2 rfl) ?_
        refine z_get (C := RX6) (T := TX6) (N := 8) (ci := 6) (v := .int (x.1 11 6)) hx hb hts hin6 hown hK hI (zo11 hG) rfl 6 (by decide) wF100 (fun _ h9 => h9) rfl dX6_weigh_55 ?_
        refine lv_icmp_gt (tgt := 78) hx hb dX6_weigh_58 (by decide) (fun c_58 => ?_) (fun c_58 => ?_)
        · skip
          refine lv_iconst (v := (nI 0)) hx hb dX6_weigh_78 rfl ?_
          exact z_zret hx hb hr hlocks hI (Or.inl rfl) (⟨if_pos (show zworse x aim from ⟨c_50, Or.inl c_58⟩), if_pos (show zworse x aim from ⟨c_50, Or.inl c_58⟩)⟩) dX6_weigh_79
        · skip
          refine lv_iload_n hx hb dX6_weigh_61 rfl (lv_at hl 1 rfl) ?_
          refine lv_aload_n hx hb dX6_weigh_62 rfl (lv_at hl 2 rfl) ?_
          refine z_get (C := RX6) (T := TX6) (N := 8) (ci := 6) (v := .int (x.1 11 6)) hx hb hts hin6 hown hK hI (zo11 hG) rfl 6 (by decide) wF100 (fun _ h9 => h9) rfl dX6_weigh_63 ?_
          refine lv_icmp_ne (tgt := 80) hx hb dX6_weigh_66 (by decide) (fun c_66 => ?_) (fun c_66 => ?_)
          · skip
            have hnw : ¬ zworse x aim := fun h => h.2.elim (fun h => c_58 h) (fun h => c_66 h.1)
            refine lv_aload_n hx hb dX6_weigh_80 rfl (lv_at hl 2 rfl) ?_
            refine lv_iconst (v := (nI 1)) hx hb dX6_weigh_81 rfl ?_
            refine z_putI (C := RX6) (T := TX6) (N := 8) (ci := 6) (ty := .boolean) hx hb hts hin6 tyX6 tyX6_ok nmX6 hown hK hI (zo11 hG) rfl 5 (by decide) wF96 (fun _ h9 => h9) rfl (fun _ _ => rfl) (by decide +kernel) rfl rfl (fun _ _ => Nat.le_of_ble_eq_true rfl) dX6_weigh_82 (fun H locs hI => ?_)
            refine lv_aload_n hx hb dX6_weigh_85 rfl (lv_at hl 2 rfl) ?_
            refine lv_iload_n hx hb dX6_weigh_86 rfl (lv_at hl 1 rfl) ?_
            refine z_putI (C := RX6) (T := TX6) (N := 8) (ci := 6) (ty := .int) hx hb hts hin6 tyX6 tyX6_ok nmX6 hown hK hI (zo11 hG) rfl 6 (by decide) wF100 (fun _ h9 => h9) rfl (fun _ _ => rfl) (by decide +kernel) rfl rfl (fun _ _ => Nat.le_of_ble_eq_true rfl) dX6_weigh_87 (fun H locs hI => ?_)
            refine lv_aload_n hx hb dX6_weigh_90 rfl (lv_at hl 2 rfl) ?_
            refine lv_iload hx hb dX6_weigh_91 (lv_at hl 0 rfl) ?_
            refine z_putI (C := RX6) (T := TX6) (N := 8) (ci := 6) (ty := .int) hx hb hts hin6 tyX6 tyX6_ok nmX6 hown hK hI (zo11 hG) rfl 7 (by decide) wF103 (fun _ h9 => h9) rfl (fun _ _ => rfl) (by decide +kernel) rfl rfl (fun _ _ => Nat.le_of_ble_eq_true rfl) dX6_weigh_93 (fun H locs hI => ?_)
            refine lv_aload_n hx hb dX6_weigh_96 rfl (lv_at hl 2 rfl) ?_
            refine z_get (C := RX6) (T := TX6) (N := 8) (ci := 6) (v := .ref (za G 15)) hx hb hts hin6 hown hK hI (zo11 hG) rfl 3 (by decide) wF22 (fun _ h9 => h9) rfl dX6_weigh_97 ?_
            refine lv_iconst (v := (nI 0)) hx hb dX6_weigh_100 rfl ?_
            refine lv_aload_n hx hb dX6_weigh_101 rfl (lv_at hl 2 rfl) ?_
            refine z_get (C := RX6) (T := TX6) (N := 8) (ci := 6) (v := .ref (za G 16)) hx hb hts hin6 hown hK hI (zo11 hG) rfl 4 (by decide) wF25 (fun _ h9 => h9) rfl dX6_weigh_102 ?_
            refine lv_iconst (v := (nI 0)) hx hb dX6_weigh_105 rfl ?_
            refine lv_bipush (v := (nI 8)) hx hb dX6_weigh_106 rfl ?_
            refine z_copyi hx hb (hml.trans hl.1.symm) hown wA1 wA2 wA3 wA4 hK hI 0 .int rfl rfl (zo15 hG) (zo16 hG) (sp := 0) (dp := 0) (n := 8) (by decide) (by decide) (by decide) (by decide) (fun _ _ => rfl) (Nat.le_of_ble_eq_true rfl) (Nat.le_of_ble_eq_true rfl) dX6_weigh_108 (fun H locs hI => ?_)
            refine lv_iconst (v := (nI 1)) hx hb dX6_weigh_111 rfl ?_
            exact z_zret hx hb hr hlocks hI (Or.inr rfl) (⟨if_neg hnw, if_neg hnw⟩) dX6_weigh_112
          · skip
            refine lv_iload hx hb dX6_weigh_69 (lv_at hl 0 rfl) ?_
            refine lv_aload_n hx hb dX6_weigh_71 rfl (lv_at hl 2 rfl) ?_
            refine z_get (C := RX6) (T := TX6) (N := 8) (ci := 6) (v := .int (x.1 11 7)) hx hb hts hin6 hown hK hI (zo11 hG) rfl 7 (by decide) wF103 (fun _ h9 => h9) rfl dX6_weigh_72 ?_
            refine lv_icmp_gt (tgt := 80) hx hb dX6_weigh_75 (by decide) (fun c_75 => ?_) (fun c_75 => ?_)
            · skip
              have hnw : ¬ zworse x aim := fun h => h.2.elim (fun h => c_58 h) (fun h => z_nle h.2 c_75)
              refine lv_aload_n hx hb dX6_weigh_80 rfl (lv_at hl 2 rfl) ?_
              refine lv_iconst (v := (nI 1)) hx hb dX6_weigh_81 rfl ?_
              refine z_putI (C := RX6) (T := TX6) (N := 8) (ci := 6) (ty := .boolean) hx hb hts hin6 tyX6 tyX6_ok nmX6 hown hK hI (zo11 hG) rfl 5 (by decide) wF96 (fun _ h9 => h9) rfl (fun _ _ => rfl) (by decide +kernel) rfl rfl (fun _ _ => Nat.le_of_ble_eq_true rfl) dX6_weigh_82 (fun H locs hI => ?_)
              refine lv_aload_n hx hb dX6_weigh_85 rfl (lv_at hl 2 rfl) ?_
              refine lv_iload_n hx hb dX6_weigh_86 rfl (lv_at hl 1 rfl) ?_
              refine z_putI (C := RX6) (T := TX6) (N := 8) (ci := 6) (ty := .int) hx hb hts hin6 tyX6 tyX6_ok nmX6 hown hK hI (zo11 hG) rfl 6 (by decide) wF100 (fun _ h9 => h9) rfl (fun _ _ => rfl) (by decide +kernel) rfl rfl (fun _ _ => Nat.le_of_ble_eq_true rfl) dX6_weigh_87 (fun H locs hI => ?_)
              refine lv_aload_n hx hb dX6_weigh_90 rfl (lv_at hl 2 rfl) ?_
              refine lv_iload hx hb dX6_weigh_91 (lv_at hl 0 rfl) ?_
              refine z_putI (C := RX6) (T := TX6) (N := 8) (ci := 6) (ty := .int) hx hb hts hin6 tyX6 tyX6_ok nmX6 hown hK hI (zo11 hG) rfl 7 (by decide) wF103 (fun _ h9 => h9) rfl (fun _ _ => rfl) (by decide +kernel) rfl rfl (fun _ _ => Nat.le_of_ble_eq_true rfl) dX6_weigh_93 (fun H locs hI => ?_)
              refine lv_aload_n hx hb dX6_weigh_96 rfl (lv_at hl 2 rfl) ?_
              refine z_get (C := RX6) (T := TX6) (N := 8) (ci := 6) (v := .ref (za G 15)) hx hb hts hin6 hown hK hI (zo11 hG) rfl 3 (by decide) wF22 (fun _ h9 => h9) rfl dX6_weigh_97 ?_
              refine lv_iconst (v := (nI 0)) hx hb dX6_weigh_100 rfl ?_
              refine lv_aload_n hx hb dX6_weigh_101 rfl (lv_at hl 2 rfl) ?_
              refine z_get (C := RX6) (T := TX6) (N := 8) (ci := 6) (v := .ref (za G 16)) hx hb hts hin6 hown hK hI (zo11 hG) rfl 4 (by decide) wF25 (fun _ h9 => h9) rfl dX6_weigh_102 ?_
              refine lv_iconst (v := (nI 0)) hx hb dX6_weigh_105 rfl ?_
              refine lv_bipush (v := (nI 8)) hx hb dX6_weigh_106 rfl ?_
              refine z_copyi hx hb (hml.trans hl.1.symm) hown wA1 wA2 wA3 wA4 hK hI 0 .int rfl rfl (zo15 hG) (zo16 hG) (sp := 0) (dp := 0) (n := 8) (by decide) (by decide) (by decide) (by decide) (fun _ _ => rfl) (Nat.le_of_ble_eq_true rfl) (Nat.le_of_ble_eq_true rfl) dX6_weigh_108 (fun H locs hI => ?_)
              refine lv_iconst (v := (nI 1)) hx hb dX6_weigh_111 rfl ?_
              exact z_zret hx hb hr hlocks hI (Or.inr rfl) (⟨if_neg hnw, if_neg hnw⟩) dX6_weigh_112
            · skip
              refine lv_iconst (v := (nI 0)) hx hb dX6_weigh_78 rfl ?_
              exact z_zret hx hb hr hlocks hI (Or.inl rfl) (⟨if_pos (show zworse x aim from ⟨c_50, Or.inr ⟨c_66, z_nlt c_75⟩⟩), if_pos (show zworse x aim from ⟨c_50, Or.inr ⟨c_66, z_nlt c_75⟩⟩)⟩) dX6_weigh_79
