set_option maxHeartbeats 4000000 in
set_option maxRecDepth 100000 in
/-- seatIn: the first place that holds y -/
theorem c_X11_seatIn (l : Launch) {G : zG} (hG : zOK G) (x : zX) (i : Nat) (y : Int32) (ha : zIA G i 8) : zMi l yX11_seatIn wsX11_seatIn { frames := 0, cells := 0, slots := 0, locals := 0 } G [.ref (za G i), .int y] x (fun (r : Int32) (u : zX) => x = u ∧ zfind (x.1 i) y 0 8 = r) := by
  intro A
  refine zBody (cc := cX11_seatIn) (maxL := 3) (ret := (some .int)) (by decide) rfl (Nat.le_of_ble_eq_true rfl) ?_
  intro p e s m below meth c hx hb hml hown hts hr hlocks hK hN hI ls hl
  have hown : s.vm.findClass RX11 = some m.cls := hown
  have hl : lv_has ls 3 [(0, .ref (za G i)), (1, .int y)] := hl
  refine lv_iconst (v := (nI 0)) hx hb dX11_seatIn_0 rfl ?_
  refine lv_istore_n (lv' := [(2, .int (nI 0)), (0, .ref (za G i)), (1, .int y)]) hx hb dX11_seatIn_1 rfl hl (by decide) rfl (fun ls hl => ?_)
  have L2 : ∀ (f : Nat) (j : Nat), (j ≤ 8) → (zfind (x.1 i) y 0 8 = zfind (x.1 i) y j (8 - j)) → 9 ≤ j + f → ∀ (H : Heap) (locs : List Loc), zI G x A s.heap H locs → ∀ ls : Array Slot, lv_has ls 3 [(0, .ref (za G i)), (1, .int y), (2, .int (nI j))] → W p l e { frames := 0, cells := 0, slots := 0, locals := 0 } s m ([.ref (za G i), .int y] : List Value).toArray below meth c H locs 0 0 (MQ below (va_Qi (fun (r : Int32) (u : zX) => x = u ∧ zfind (x.1 i) y 0 8 = r) (fun u t => zJ G u A t.heap) A) ([.ref (za G i), .int y] : List Value).toArray s 0 0 A) (F0 m 2 ls []) := by
    intro f
    induction f with
    | zero =>
      intro j h1 h2 hf
      exact absurd hf (by omega)
    | succ f ih =>
      intro j h1 h2 hf H locs hI ls hl
      have ih2 := ih
      refine lv_iload_n hx hb dX11_seatIn_2 rfl (lv_at hl 2 rfl) ?_
      refine lv_aload_n hx hb dX11_seatIn_3 rfl (lv_at hl 0 rfl) ?_
      refine z_alen (v := nI 8) hx hb hK hI 0 ha.1 (ha.2 _) rfl rfl dX11_seatIn_4 ?_
      refine lv_icmp_ge (tgt := 23) hx hb dX11_seatIn_5 (by decide) (fun c_5 => ?_) (fun c_5 => ?_)
      · skip
        rw [zqG (by omega) (by omega)] at c_5
        refine lv_iconst (v := (-1)) hx hb dX11_seatIn_23 rfl ?_
        exact z_iret hx hb hr hlocks hI (⟨rfl, by rw [h2, show 8 - j = 0 by omega]; rfl⟩) dX11_seatIn_24
      · skip
        rw [zqG (by omega) (by omega)] at c_5
        refine lv_aload_n hx hb dX11_seatIn_8 rfl (lv_at hl 0 rfl) ?_
        refine lv_iload_n hx hb dX11_seatIn_9 rfl (lv_at hl 2 rfl) ?_
        refine z_iald (v := (x.1 i j)) hx hb hK hI ha j rfl (by omega) (by decide) rfl dX11_seatIn_10 ?_
        refine lv_iload_n hx hb dX11_seatIn_11 rfl (lv_at hl 1 rfl) ?_
        refine lv_icmp_ne (tgt := 17) hx hb dX11_seatIn_12 (by decide) (fun c_12 => ?_) (fun c_12 => ?_)
        · skip
          refine lv_iinc (v := (nI (j + 1))) (lv' := [(2, .int (nI (j + 1))), (0, .ref (za G i)), (1, .int y)]) hx hb dX11_seatIn_17 hl (k := 2) rfl (zinc j) (by decide) rfl (fun ls hl => ?_)
          refine lv_goto (tgt := 2) hx hb dX11_seatIn_20 (by decide) ?_
          exact ih2 (j + 1) (by omega) (by rw [h2, zfind_n c_12 (by omega)]; rfl) (by omega) _ _ hI ls (lv_sub hl [1, 2, 0] rfl)
        · skip
          refine lv_iload_n hx hb dX11_seatIn_15 rfl (lv_at hl 2 rfl) ?_
          exact z_iret hx hb hr hlocks hI (⟨rfl, by rw [h2, zfind_y c_12 (by omega)]⟩) dX11_seatIn_16
  exact L2 (9) 0 (by omega) rfl (by omega) _ _ hI ls (lv_sub hl [1, 2, 0] rfl)
set_option maxHeartbeats 4000000 in
set_option maxRecDepth 100000 in
/-- hasBit -/
theorem c_X11_hasBit (l : Launch) {G : zG} (hG : zOK G) (x : zX) (b q : Int32)  : zMi l yX11_hasBit wsX11_hasBit { frames := 0, cells := 0, slots := 0, locals := 0 } G [.int b, .int q] x (fun (r : Int32) (u : zX) => x = u ∧ (if zbit b q then nI 1 else nI 0) = r) := by
  intro A
  refine zBody (cc := cX11_hasBit) (maxL := 2) (ret := (some .boolean)) (by decide) rfl (Nat.le_of_ble_eq_true rfl) ?_
  intro p e s m below meth c hx hb hml hown hts hr hlocks hK hN hI ls hl
  have hown : s.vm.findClass RX11 = some m.cls := hown
  have hl : lv_has ls 2 [(0, .int b), (1, .int q)] := hl
  refine lv_iload_n hx hb dX11_hasBit_0 rfl (lv_at hl 1 rfl) ?_
  refine lv_if_lt (tgt := 22) hx hb dX11_hasBit_1 (by decide) (fun c_1 => ?_) (fun c_1 => ?_)
  · skip
    refine lv_iconst (v := (nI 0)) hx hb dX11_hasBit_22 rfl ?_
    exact z_zret hx hb hr hlocks hI (Or.inl rfl) (⟨rfl, by simp [zbit, c_1]⟩) dX11_hasBit_23
  · skip
    refine lv_iload_n hx hb dX11_hasBit_4 rfl (lv_at hl 1 rfl) ?_
    refine lv_bipush (v := (nI 8)) hx hb dX11_hasBit_5 rfl ?_
    refine lv_icmp_ge (tgt := 22) hx hb dX11_hasBit_7 (by decide) (fun c_7 => ?_) (fun c_7 => ?_)
    · skip
      refine lv_iconst (v := (nI 0)) hx hb dX11_hasBit_22 rfl ?_
      exact z_zret hx hb hr hlocks hI (Or.inl rfl) (⟨rfl, by simp [zbit, c_1, c_7]⟩) dX11_hasBit_23
    · skip
      refine lv_iload_n hx hb dX11_hasBit_10 rfl (lv_at hl 0 rfl) ?_
      refine lv_iload_n hx hb dX11_hasBit_11 rfl (lv_at hl 1 rfl) ?_
      refine lv_ishr hx hb dX11_hasBit_12 ?_
      refine lv_iconst (v := (nI 1)) hx hb dX11_hasBit_13 rfl ?_
      refine lv_iand hx hb dX11_hasBit_14 ?_
      refine lv_if_eq (tgt := 22) hx hb dX11_hasBit_15 (by decide) (fun c_15 => ?_) (fun c_15 => ?_)
      · skip
        refine lv_iconst (v := (nI 0)) hx hb dX11_hasBit_22 rfl ?_
        exact z_zret hx hb hr hlocks hI (Or.inl rfl) (⟨rfl, by simp [zbit, c_1, c_7, c_15]⟩) dX11_hasBit_23
      · skip
        refine lv_iconst (v := (nI 1)) hx hb dX11_hasBit_18 rfl ?_
        refine lv_goto (tgt := 23) hx hb dX11_hasBit_19 (by decide) ?_
        exact z_zret hx hb hr hlocks hI (Or.inr rfl) (⟨rfl, by simp [zbit, c_1, c_7, c_15]⟩) dX11_hasBit_23
set_option maxHeartbeats 4000000 in
set_option maxRecDepth 100000 in
theorem c_X11_orNobody (l : Launch) {G : zG} (hG : zOK G) (x : zX) (q : Int32)  : zMi l yX11_orNobody wsX11_orNobody { frames := 0, cells := 0, slots := 0, locals := 0 } G [.int q] x (fun (r : Int32) (u : zX) => x = u ∧ (if 0 ≤ q then q else (-5)) = r) := by
  intro A
  refine zBody (cc := cX11_orNobody) (maxL := 1) (ret := (some .int)) (by decide) rfl (Nat.le_of_ble_eq_true rfl) ?_
  intro p e s m below meth c hx hb hml hown hts hr hlocks hK hN hI ls hl
  have hown : s.vm.findClass RX11 = some m.cls := hown
  have hl : lv_has ls 1 [(0, .int q)] := hl
  refine lv_iload_n hx hb dX11_orNobody_0 rfl (lv_at hl 0 rfl) ?_
  refine lv_if_ge (tgt := 9) hx hb dX11_orNobody_1 (by decide) (fun c_1 => ?_) (fun c_1 => ?_)
  · skip
    refine lv_iload_n hx hb dX11_orNobody_9 rfl (lv_at hl 0 rfl) ?_
    exact z_iret hx hb hr hlocks hI (⟨rfl, if_pos c_1⟩) dX11_orNobody_10
  · skip
    refine lv_bipush (v := (-5)) hx hb dX11_orNobody_4 rfl ?_
    refine lv_goto (tgt := 10) hx hb dX11_orNobody_6 (by decide) ?_
    exact z_iret hx hb hr hlocks hI (⟨rfl, if_neg c_1⟩) dX11_orNobody_10
set_option maxHeartbeats 4000000 in
set_option maxRecDepth 100000 in
theorem c_X11_isDigit (l : Launch) {G : zG} (hG : zOK G) (x : zX) (q : Int32)  : zMi l yX11_isDigit wsX11_isDigit { frames := 0, cells := 0, slots := 0, locals := 0 } G [.int q] x (fun (r : Int32) (u : zX) => x = u ∧ (if ¬ q < 0 ∧ ¬ nI 9 < q then nI 1 else nI 0) = r) := by
  intro A
  refine zBody (cc := cX11_isDigit) (maxL := 1) (ret := (some .boolean)) (by decide) rfl (Nat.le_of_ble_eq_true rfl) ?_
  intro p e s m below meth c hx hb hml hown hts hr hlocks hK hN hI ls hl
  have hown : s.vm.findClass RX11 = some m.cls := hown
  have hl : lv_has ls 1 [(0, .int q)] := hl
  refine lv_iload_n hx hb dX11_isDigit_0 rfl (lv_at hl 0 rfl) ?_
  refine lv_if_lt (tgt := 14) hx hb dX11_isDigit_1 (by decide) (fun c_1 => ?_) (fun c_1 => ?_)
  · skip
    refine lv_iconst (v := (nI 0)) hx hb dX11_isDigit_14 rfl ?_
    exact z_zret hx hb hr hlocks hI (Or.inl rfl) (⟨rfl, by simp [zbit, c_1]⟩) dX11_isDigit_15
  · skip
    refine lv_iload_n hx hb dX11_isDigit_4 rfl (lv_at hl 0 rfl) ?_
    refine lv_bipush (v := (nI 9)) hx hb dX11_isDigit_5 rfl ?_
    refine lv_icmp_gt (tgt := 14) hx hb dX11_isDigit_7 (by decide) (fun c_7 => ?_) (fun c_7 => ?_)
    · skip
      refine lv_iconst (v := (nI 0)) hx hb dX11_isDigit_14 rfl ?_
      exact z_zret hx hb hr hlocks hI (Or.inl rfl) (⟨rfl, by simp [zbit, c_1, c_7]⟩) dX11_isDigit_15
    · skip
      refine lv_iconst (v := (nI 1)) hx hb dX11_isDigit_10 rfl ?_
      refine lv_goto (tgt := 15) hx hb dX11_isDigit_11 (by decide) ?_
      exact z_zret hx hb hr hlocks hI (Or.inr rfl) (⟨rfl, by simp [zbit, c_1, c_7]⟩) dX11_isDigit_15
set_option maxHeartbeats 4000000 in
set_option maxRecDepth 100000 in
theorem c_X11_isTape (l : Launch) {G : zG} (hG : zOK G) (x : zX) (q : Int32)  : zMi l yX11_isTape wsX11_isTape { frames := 0, cells := 0, slots := 0, locals := 0 } G [.int q] x (fun (r : Int32) (u : zX) => x = u ∧ (if ¬ q < 0 ∧ ¬ nI 6 ≤ q then nI 1 else nI 0) = r) := by
  intro A
  refine zBody (cc := cX11_isTape) (maxL := 1) (ret := (some .boolean)) (by decide) rfl (Nat.le_of_ble_eq_true rfl) ?_
  intro p e s m below meth c hx hb hml hown hts hr hlocks hK hN hI ls hl
  have hown : s.vm.findClass RX11 = some m.cls := hown
  have hl : lv_has ls 1 [(0, .int q)] := hl
  refine lv_iload_n hx hb dX11_isTape_0 rfl (lv_at hl 0 rfl) ?_
  refine lv_if_lt (tgt := 14) hx hb dX11_isTape_1 (by decide) (fun c_1 => ?_) (fun c_1 => ?_)
  · skip
    refine lv_iconst (v := (nI 0)) hx hb dX11_isTape_14 rfl ?_
    exact z_zret hx hb hr hlocks hI (Or.inl rfl) (⟨rfl, by simp [zbit, c_1]⟩) dX11_isTape_15
  · skip
    refine lv_iload_n hx hb dX11_isTape_4 rfl (lv_at hl 0 rfl) ?_
    refine lv_bipush (v := (nI 6)) hx hb dX11_isTape_5 rfl ?_
    refine lv_icmp_ge (tgt := 14) hx hb dX11_isTape_7 (by decide) (fun c_7 => ?_) (fun c_7 => ?_)
    · skip
      refine lv_iconst (v := (nI 0)) hx hb dX11_isTape_14 rfl ?_
      exact z_zret hx hb hr hlocks hI (Or.inl rfl) (⟨rfl, by simp [zbit, c_1, c_7]⟩) dX11_isTape_15
    · skip
      refine lv_iconst (v := (nI 1)) hx hb dX11_isTape_10 rfl ?_
      refine lv_goto (tgt := 15) hx hb dX11_isTape_11 (by decide) ?_
      exact z_zret hx hb hr hlocks hI (Or.inr rfl) (⟨rfl, by simp [zbit, c_1, c_7]⟩) dX11_isTape_15
set_option maxHeartbeats 4000000 in
set_option maxRecDepth 100000 in
theorem c_X11_sittersAt (l : Launch) {G : zG} (hG : zOK G) (x : zX) (i d : Nat) (ha : zIA G i 8) (hd : d < 4) : zMi l yX11_sittersAt wsX11_sittersAt { frames := 0, cells := 0, slots := 0, locals := 0 } G [.ref (za G i), .int (nI d)] x (fun (r : Int32) (u : zX) => x = u ∧ zocc (x.1 i (2 * d)) + zocc (x.1 i (2 * d + 1)) = r) := by
  intro A
  refine zBody (cc := cX11_sittersAt) (maxL := 3) (ret := (some .int)) (by decide) rfl (Nat.le_of_ble_eq_true rfl) ?_
  intro p e s m below meth c hx hb hml hown hts hr hlocks hK hN hI ls hl
  have hown : s.vm.findClass RX11 = some m.cls := hown
  have hl : lv_has ls 3 [(0, .ref (za G i)), (1, .int (nI d))] := hl
  refine lv_iconst (v := (nI 2)) hx hb dX11_sittersAt_0 rfl ?_
  refine lv_iload_n hx hb dX11_sittersAt_1 rfl (lv_at hl 1 rfl) ?_
  refine z_imul (v := (nI (2 * d))) hx hb (pk_mul _ _) dX11_sittersAt_2 ?_
  refine lv_istore_n (lv' := [(2, .int (nI (2 * d))), (0, .ref (za G i)), (1, .int (nI d))]) hx hb dX11_sittersAt_3 rfl hl (by decide) rfl (fun ls hl => ?_)
  refine lv_iload_n hx hb dX11_sittersAt_4 rfl (lv_at hl 0 rfl) ?_
  refine lv_if_lt (tgt := 16) hx hb dX11_sittersAt_5 (by decide) (fun c_5 => ?_) (fun c_5 => ?_)
  · skip
    rw [show (0 : Int32) = nI 0 from rfl] at c_5; rw [zqL (by omega) (by omega)] at c_5
    exact absurd c_5 (by omega)
  · skip
    rw [show (0 : Int32) = nI 0 from rfl] at c_5; rw [zqL (by omega) (by omega)] at c_5
    refine lv_iload_n hx hb dX11_sittersAt_8 rfl (lv_at hl 0 rfl) ?_
    refine lv_iconst (v := (nI 1)) hx hb dX11_sittersAt_9 rfl ?_
    refine z_iadd (v := (nI ((2 * d) + 1))) hx hb (nI_add _ _) dX11_sittersAt_10 ?_
    refine lv_aload_n hx hb dX11_sittersAt_11 rfl (lv_at hl 1 rfl) ?_
    refine z_alen (v := nI 8) hx hb hK hI 0 ha.1 (ha.2 _) rfl rfl dX11_sittersAt_12 ?_
    refine lv_icmp_lt (tgt := 18) hx hb dX11_sittersAt_13 (by decide) (fun c_13 => ?_) (fun c_13 => ?_)
    · skip
      rw [zqL (by omega) (by omega)] at c_13
      refine lv_aload_n hx hb dX11_sittersAt_18 rfl (lv_at hl 1 rfl) ?_
      refine lv_iload_n hx hb dX11_sittersAt_19 rfl (lv_at hl 0 rfl) ?_
      refine z_iald (v := (x.1 i (2 * d))) hx hb hK hI ha (2 * d) rfl (by omega) (by decide) rfl dX11_sittersAt_20 ?_
      refine lv_iconst (v := (-1)) hx hb dX11_sittersAt_21 rfl ?_
      refine lv_icmp_ne (tgt := 29) hx hb dX11_sittersAt_22 (by decide) (fun c_22 => ?_) (fun c_22 => ?_)
      · skip
        refine lv_iconst (v := (nI 1)) hx hb dX11_sittersAt_29 rfl ?_
        refine lv_aload_n hx hb dX11_sittersAt_30 rfl (lv_at hl 1 rfl) ?_
        refine lv_iload_n hx hb dX11_sittersAt_31 rfl (lv_at hl 0 rfl) ?_
        refine lv_iconst (v := (nI 1)) hx hb dX11_sittersAt_32 rfl ?_
        refine z_iadd (v := (nI ((2 * d) + 1))) hx hb (nI_add _ _) dX11_sittersAt_33 ?_
        refine z_iald (v := (x.1 i ((2 * d) + 1))) hx hb hK hI ha ((2 * d) + 1) rfl (by omega) (by decide) rfl dX11_sittersAt_34 ?_
        refine lv_iconst (v := (-1)) hx hb dX11_sittersAt_35 rfl ?_
        refine lv_icmp_ne (tgt := 43) hx hb dX11_sittersAt_36 (by decide) (fun c_36 => ?_) (fun c_36 => ?_)
        · skip
          refine lv_iconst (v := (nI 1)) hx hb dX11_sittersAt_43 rfl ?_
          refine z_iadd (v := (nI (1 + 1))) hx hb (nI_add _ _) dX11_sittersAt_44 ?_
          exact z_iret hx hb hr hlocks hI (⟨rfl, by simp [zocc, c_22, c_36]; try rfl⟩) dX11_sittersAt_45
        · skip
          refine lv_iconst (v := (nI 0)) hx hb dX11_sittersAt_39 rfl ?_
          refine lv_goto (tgt := 44) hx hb dX11_sittersAt_40 (by decide) ?_
          refine z_iadd (v := (nI (1 + 0))) hx hb (nI_add _ _) dX11_sittersAt_44 ?_
          exact z_iret hx hb hr hlocks hI (⟨rfl, by simp [zocc, c_22, c_36]; try rfl⟩) dX11_sittersAt_45
      · skip
        refine lv_iconst (v := (nI 0)) hx hb dX11_sittersAt_25 rfl ?_
        refine lv_goto (tgt := 30) hx hb dX11_sittersAt_26 (by decide) ?_
        refine lv_aload_n hx hb dX11_sittersAt_30 rfl (lv_at hl 1 rfl) ?_
        refine lv_iload_n hx hb dX11_sittersAt_31 rfl (lv_at hl 0 rfl) ?_
        refine lv_iconst (v := (nI 1)) hx hb dX11_sittersAt_32 rfl ?_
        refine z_iadd (v := (nI ((2 * d) + 1))) hx hb (nI_add _ _) dX11_sittersAt_33 ?_
        refine z_iald (v := (x.1 i ((2 * d) + 1))) hx hb hK hI ha ((2 * d) + 1) rfl (by omega) (by decide) rfl dX11_sittersAt_34 ?_
        refine lv_iconst (v := (-1)) hx hb dX11_sittersAt_35 rfl ?_
        refine lv_icmp_ne (tgt := 43) hx hb dX11_sittersAt_36 (by decide) (fun c_36 => ?_) (fun c_36 => ?_)
        · skip
          refine lv_iconst (v := (nI 1)) hx hb dX11_sittersAt_43 rfl ?_
          refine z_iadd (v := (nI (0 + 1))) hx hb (nI_add _ _) dX11_sittersAt_44 ?_
          exact z_iret hx hb hr hlocks hI (⟨rfl, by simp [zocc, c_22, c_36]; try rfl⟩) dX11_sittersAt_45
        · skip
          refine lv_iconst (v := (nI 0)) hx hb dX11_sittersAt_39 rfl ?_
          refine lv_goto (tgt := 44) hx hb dX11_sittersAt_40 (by decide) ?_
          refine z_iadd (v := (nI (0 + 0))) hx hb (nI_add _ _) dX11_sittersAt_44 ?_
          exact z_iret hx hb hr hlocks hI (⟨rfl, by simp [zocc, c_22, c_36]; try rfl⟩) dX11_sittersAt_45
    · skip
      rw [zqL (by omega) (by omega)] at c_13
      exact absurd c_13 (by omega)
set_option maxHeartbeats 4000000 in
set_option maxRecDepth 100000 in
theorem c_X11_exchange (l : Launch) {G : zG} (hG : zOK G) (x : zX) (i a b : Nat) (ha : zIA G i 8) (h1 : a < 8) (h2 : b < 8) : zMv l yX11_exchange wsX11_exchange { frames := 0, cells := 0, slots := 0, locals := 0 } G [.ref (za G i), .int (nI a), .int (nI b)] x (fun (u : zX) => zsI (zsI x i a (x.1 i b)) i b (x.1 i a) = u) := by
  intro A
  refine zBody (cc := cX11_exchange) (maxL := 4) (ret := none) (by decide) rfl (Nat.le_of_ble_eq_true rfl) ?_
  intro p e s m below meth c hx hb hml hown hts hr hlocks hK hN hI ls hl
  have hown : s.vm.findClass RX11 = some m.cls := hown
  have hl : lv_has ls 4 [(0, .ref (za G i)), (1, .int (nI a)), (2, .int (nI b))] := hl
  refine lv_iload_n hx hb dX11_exchange_0 rfl (lv_at hl 1 rfl) ?_
  refine lv_if_lt (tgt := 20) hx hb dX11_exchange_1 (by decide) (fun c_1 => ?_) (fun c_1 => ?_)
  · skip
    rw [show (0 : Int32) = nI 0 from rfl] at c_1; rw [zqL (by omega) (by omega)] at c_1
    exact absurd c_1 (by omega)
  · skip
    rw [show (0 : Int32) = nI 0 from rfl] at c_1; rw [zqL (by omega) (by omega)] at c_1
    refine lv_iload_n hx hb dX11_exchange_4 rfl (lv_at hl 1 rfl) ?_
    refine lv_aload_n hx hb dX11_exchange_5 rfl (lv_at hl 0 rfl) ?_
    refine z_alen (v := nI 8) hx hb hK hI 0 ha.1 (ha.2 _) rfl rfl dX11_exchange_6 ?_
    refine lv_icmp_ge (tgt := 20) hx hb dX11_exchange_7 (by decide) (fun c_7 => ?_) (fun c_7 => ?_)
    · skip
      rw [zqG (by omega) (by omega)] at c_7
      exact absurd c_7 (by omega)
    · skip
      rw [zqG (by omega) (by omega)] at c_7
      refine lv_iload_n hx hb dX11_exchange_10 rfl (lv_at hl 2 rfl) ?_
      refine lv_if_lt (tgt := 20) hx hb dX11_exchange_11 (by decide) (fun c_11 => ?_) (fun c_11 => ?_)
      · skip
        rw [show (0 : Int32) = nI 0 from rfl] at c_11; rw [zqL (by omega) (by omega)] at c_11
        exact absurd c_11 (by omega)
      · skip
        rw [show (0 : Int32) = nI 0 from rfl] at c_11; rw [zqL (by omega) (by omega)] at c_11
        refine lv_iload_n hx hb dX11_exchange_14 rfl (lv_at hl 2 rfl) ?_
        refine lv_aload_n hx hb dX11_exchange_15 rfl (lv_at hl 0 rfl) ?_
        refine z_alen (v := nI 8) hx hb hK hI 0 ha.1 (ha.2 _) rfl rfl dX11_exchange_16 ?_
        refine lv_icmp_lt (tgt := 21) hx hb dX11_exchange_17 (by decide) (fun c_17 => ?_) (fun c_17 => ?_)
        · skip
          rw [zqL (by omega) (by omega)] at c_17
          refine lv_aload_n hx hb dX11_exchange_21 rfl (lv_at hl 0 rfl) ?_
          refine lv_iload_n hx hb dX11_exchange_22 rfl (lv_at hl 1 rfl) ?_
          refine z_iald (v := (x.1 i a)) hx hb hK hI ha a rfl (by omega) (by decide) rfl dX11_exchange_23 ?_
          refine lv_istore_n (lv' := [(3, .int (x.1 i a)), (0, .ref (za G i)), (1, .int (nI a)), (2, .int (nI b))]) hx hb dX11_exchange_24 rfl hl (by decide) rfl (fun ls hl => ?_)
          refine lv_aload_n hx hb dX11_exchange_25 rfl (lv_at hl 1 rfl) ?_
          refine lv_iload_n hx hb dX11_exchange_26 rfl (lv_at hl 2 rfl) ?_
          refine lv_aload_n hx hb dX11_exchange_27 rfl (lv_at hl 1 rfl) ?_
          refine lv_iload_n hx hb dX11_exchange_28 rfl (lv_at hl 3 rfl) ?_
          refine z_iald (v := (x.1 i b)) hx hb hK hI ha b rfl (by omega) (by decide) rfl dX11_exchange_29 ?_
          refine z_iast (y := (x.1 i b)) hx hb hK hI ha a rfl (by omega) (by decide) dX11_exchange_30 (fun H locs hI => ?_)
          refine lv_aload_n hx hb dX11_exchange_31 rfl (lv_at hl 1 rfl) ?_
          refine lv_iload_n hx hb dX11_exchange_32 rfl (lv_at hl 3 rfl) ?_
          refine lv_iload_n hx hb dX11_exchange_33 rfl (lv_at hl 0 rfl) ?_
          refine z_iast (y := (x.1 i a)) hx hb hK hI ha b rfl (by omega) (by decide) dX11_exchange_34 (fun H locs hI => ?_)
          exact z_vret hx hb hr hlocks hI (rfl) dX11_exchange_35
        · skip
          rw [zqL (by omega) (by omega)] at c_17
          exact absurd c_17 (by omega)
set_option maxHeartbeats 4000000 in
set_option maxRecDepth 100000 in
theorem c_X11_pairBits (l : Launch) {G : zG} (hG : zOK G) (x : zX) (t : Nat) (ht : t < 100) : zMi l yX11_pairBits wsX11_pairBits { frames := 0, cells := 0, slots := 0, locals := 0 } G [.int (nI t)] x (fun (r : Int32) (u : zX) => x = u ∧ ((nI 1 <<< (nI (t / 10) &&& 31)) ||| (nI 1 <<< (nI (t % 10) &&& 31))) = r) := by
  intro A
  refine zBody (cc := cX11_pairBits) (maxL := 1) (ret := (some .int)) (by decide) rfl (Nat.le_of_ble_eq_true rfl) ?_
  intro p e s m below meth c hx hb hml hown hts hr hlocks hK hN hI ls hl
  have hown : s.vm.findClass RX11 = some m.cls := hown
  have hl : lv_has ls 1 [(0, .int (nI t))] := hl
  refine lv_iconst (v := (nI 1)) hx hb dX11_pairBits_0 rfl ?_
  refine lv_iload_n hx hb dX11_pairBits_1 rfl (lv_at hl 0 rfl) ?_
  refine lv_bipush (v := (nI 10)) hx hb dX11_pairBits_2 rfl ?_
  refine z_idiv (v := (nI (t / 10))) hx hb (pk_div (by omega) (by omega) (by omega)) dX11_pairBits_4 (by decide) ?_
  refine lv_ishl hx hb dX11_pairBits_5 ?_
  refine lv_iconst (v := (nI 1)) hx hb dX11_pairBits_6 rfl ?_
  refine lv_iload_n hx hb dX11_pairBits_7 rfl (lv_at hl 0 rfl) ?_
  refine lv_bipush (v := (nI 10)) hx hb dX11_pairBits_8 rfl ?_
  refine z_irem (v := (nI (t % 10))) hx hb (pk_rem (by omega) (by omega) (by omega)) dX11_pairBits_10 (by decide) ?_
  refine lv_ishl hx hb dX11_pairBits_11 ?_
  refine lv_ior hx hb dX11_pairBits_12 ?_
  exact z_iret hx hb hr hlocks hI (⟨rfl, rfl⟩) dX11_pairBits_13
set_option maxHeartbeats 4000000 in
set_option maxRecDepth 100000 in
theorem c_X11_asSort (l : Launch) {G : zG} (hG : zOK G) (x : zX) (t : Int32) (v : Int64)  : zMl l yX11_asSort wsX11_asSort { frames := 0, cells := 0, slots := 0, locals := 0 } G [.int t, .long v] x (fun (r : Int64) (u : zX) => x = u ∧ zsort t v = r) := by
  intro A
  refine zBody (cc := cX11_asSort) (maxL := 3) (ret := (some .long)) (by decide) rfl (Nat.le_of_ble_eq_true rfl) ?_
  intro p e s m below meth c hx hb hml hown hts hr hlocks hK hN hI ls hl
  have hown : s.vm.findClass RX11 = some m.cls := hown
  have hl : lv_has ls 3 [(0, .int t), (1, .long v)] := hl
  refine lv_iload_n hx hb dX11_asSort_0 rfl (lv_at hl 0 rfl) ?_
  by_cases q1_0 : t = (nI 0)
  · skip
    refine lv_tableIn (off := 35) (tgt := 36) hx hb dX11_asSort_1 (by rw [q1_0]; decide) (by rw [q1_0]; decide) (by rw [q1_0]; rfl) (by decide) ?_
    refine lv_lload_n hx hb dX11_asSort_36 rfl (lv_at hl 1 rfl) ?_
    refine lv_l2i hx hb dX11_asSort_37 rfl ?_
    refine lv_i2b hx hb dX11_asSort_38 rfl ?_
    refine lv_i2l hx hb dX11_asSort_39 rfl ?_
    exact z_lret hx hb hr hlocks hI (⟨rfl, by unfold zsort; rw [if_pos q1_0]⟩) dX11_asSort_40
  by_cases q1_1 : t = (nI 1)
  · skip
    refine lv_tableIn (off := 40) (tgt := 41) hx hb dX11_asSort_1 (by rw [q1_1]; decide) (by rw [q1_1]; decide) (by rw [q1_1]; rfl) (by decide) ?_
    refine lv_lload_n hx hb dX11_asSort_41 rfl (lv_at hl 1 rfl) ?_
    refine lv_l2i hx hb dX11_asSort_42 rfl ?_
    refine lv_i2s hx hb dX11_asSort_43 rfl ?_
    refine lv_i2l hx hb dX11_asSort_44 rfl ?_
    exact z_lret hx hb hr hlocks hI (⟨rfl, by unfold zsort; rw [if_neg q1_0, if_pos q1_1]⟩) dX11_asSort_45
  by_cases q1_2 : t = (nI 2)
  · skip
    refine lv_tableIn (off := 45) (tgt := 46) hx hb dX11_asSort_1 (by rw [q1_2]; decide) (by rw [q1_2]; decide) (by rw [q1_2]; rfl) (by decide) ?_
    refine lv_lload_n hx hb dX11_asSort_46 rfl (lv_at hl 1 rfl) ?_
    refine lv_l2i hx hb dX11_asSort_47 rfl ?_
    refine lv_i2l hx hb dX11_asSort_48 rfl ?_
    exact z_lret hx hb hr hlocks hI (⟨rfl, by unfold zsort; rw [if_neg q1_0, if_neg q1_1, if_pos q1_2]⟩) dX11_asSort_49
  by_cases q1_3 : t = (nI 3)
  · skip
    refine lv_tableIn (off := 61) (tgt := 62) hx hb dX11_asSort_1 (by rw [q1_3]; decide) (by rw [q1_3]; decide) (by rw [q1_3]; rfl) (by decide) ?_
    refine lv_lload_n hx hb dX11_asSort_62 rfl (lv_at hl 1 rfl) ?_
    exact z_lret hx hb hr hlocks hI (⟨rfl, by unfold zsort; rw [if_neg q1_0, if_neg q1_1, if_neg q1_2, if_neg (by rw [q1_3]; decide)]⟩) dX11_asSort_63
  by_cases q1_4 : t = (nI 4)
  · skip
    refine lv_tableIn (off := 49) (tgt := 50) hx hb dX11_asSort_1 (by rw [q1_4]; decide) (by rw [q1_4]; decide) (by rw [q1_4]; rfl) (by decide) ?_
    refine lv_lload_n hx hb dX11_asSort_50 rfl (lv_at hl 1 rfl) ?_
    refine lv_lconst (v := 0) hx hb dX11_asSort_51 rfl ?_
    refine W.lcmp hx hb dX11_asSort_52 ?_
    refine lv_if_eq (tgt := 60) hx hb dX11_asSort_53 (by decide) (fun c_53 => ?_) (fun c_53 => ?_)
    · skip
      rw [zlcmp0] at c_53
      refine lv_lconst (v := 0) hx hb dX11_asSort_60 rfl ?_
      exact z_lret hx hb hr hlocks hI (⟨rfl, by unfold zsort; rw [if_neg q1_0, if_neg q1_1, if_neg q1_2, if_pos q1_4, if_pos c_53]⟩) dX11_asSort_61
    · skip
      rw [zlcmp0] at c_53
      refine lv_lconst (v := 1) hx hb dX11_asSort_56 rfl ?_
      refine lv_goto (tgt := 61) hx hb dX11_asSort_57 (by decide) ?_
      exact z_lret hx hb hr hlocks hI (⟨rfl, by unfold zsort; rw [if_neg q1_0, if_neg q1_1, if_neg q1_2, if_pos q1_4, if_neg c_53]⟩) dX11_asSort_61
  refine lv_tableOut (tgt := 62) hx hb dX11_asSort_1 (by have := lv_neT (a := 0) q1_0 rfl; have := lv_neT (a := 1) q1_1 rfl; have := lv_neT (a := 2) q1_2 rfl; have := lv_neT (a := 3) q1_3 rfl; have := lv_neT (a := 4) q1_4 rfl; omega) (by decide) ?_
  refine lv_lload_n hx hb dX11_asSort_62 rfl (lv_at hl 1 rfl) ?_
  exact z_lret hx hb hr hlocks hI (⟨rfl, by unfold zsort; rw [if_neg q1_0, if_neg q1_1, if_neg q1_2, if_neg q1_4]⟩) dX11_asSort_63
set_option maxHeartbeats 4000000 in
set_option maxRecDepth 100000 in
theorem c_X7_isNear (l : Launch) {G : zG} (hG : zOK G) (x : zX) (a b : Nat) (h1 : a < 8) (h2 : b < 8) : zMi l yX7_isNear wsX7_isNear { frames := 0, cells := 0, slots := 0, locals := 0 } G [.int (nI a), .int (nI b)] x (fun (r : Int32) (u : zX) => x = u ∧ (if a / 4 = b / 4 ∨ a / 2 % 2 = b / 2 % 2 then nI 1 else nI 0) = r) := by
  intro A
  refine zBody (cc := cX7_isNear) (maxL := 4) (ret := (some .boolean)) (by decide) rfl (Nat.le_of_ble_eq_true rfl) ?_
  intro p e s m below meth c hx hb hml hown hts hr hlocks hK hN hI ls hl
  have hown : s.vm.findClass RX7 = some m.cls := hown
  have hl : lv_has ls 4 [(0, .int (nI a)), (1, .int (nI b))] := hl
  refine lv_iload_n hx hb dX7_isNear_0 rfl (lv_at hl 0 rfl) ?_
  refine lv_iconst (v := (nI 4)) hx hb dX7_isNear_1 rfl ?_
  refine z_idiv (v := (nI (a / 4))) hx hb (pk_div (by omega) (by omega) (by omega)) dX7_isNear_2 (by decide) ?_
  refine lv_iload_n hx hb dX7_isNear_3 rfl (lv_at hl 1 rfl) ?_
  refine lv_iconst (v := (nI 4)) hx hb dX7_isNear_4 rfl ?_
  refine z_idiv (v := (nI (b / 4))) hx hb (pk_div (by omega) (by omega) (by omega)) dX7_isNear_5 (by decide) ?_
  refine lv_icmp_ne (tgt := 13) hx hb dX7_isNear_6 (by decide) (fun c_6 => ?_) (fun c_6 => ?_)
  · skip
    rw [zqE (by omega) (by omega)] at c_6
    refine lv_iconst (v := (nI 0)) hx hb dX7_isNear_13 rfl ?_
    refine lv_istore_n (lv' := [(2, .int (nI 0)), (0, .int (nI a)), (1, .int (nI b))]) hx hb dX7_isNear_14 rfl hl (by decide) rfl (fun ls hl => ?_)
    refine lv_iload_n hx hb dX7_isNear_15 rfl (lv_at hl 1 rfl) ?_
    refine lv_iconst (v := (nI 2)) hx hb dX7_isNear_16 rfl ?_
    refine lv_iand hx hb dX7_isNear_17 ?_
    refine lv_iload_n hx hb dX7_isNear_18 rfl (lv_at hl 2 rfl) ?_
    refine lv_iconst (v := (nI 2)) hx hb dX7_isNear_19 rfl ?_
    refine lv_iand hx hb dX7_isNear_20 ?_
    refine lv_icmp_ne (tgt := 28) hx hb dX7_isNear_21 (by decide) (fun c_21 => ?_) (fun c_21 => ?_)
    · skip
      rw [znear2 h1 h2] at c_21
      refine lv_iconst (v := (nI 0)) hx hb dX7_isNear_28 rfl ?_
      refine lv_istore_n (lv' := [(3, .int (nI 0)), (2, .int (nI 0)), (0, .int (nI a)), (1, .int (nI b))]) hx hb dX7_isNear_29 rfl hl (by decide) rfl (fun ls hl => ?_)
      refine lv_iload_n hx hb dX7_isNear_30 rfl (lv_at hl 1 rfl) ?_
      refine lv_if_ne (tgt := 38) hx hb dX7_isNear_31 (by decide) (fun c_31 => absurd c_31 (by decide)) (fun c_31 => ?_)
      refine lv_iload_n hx hb dX7_isNear_34 rfl (lv_at hl 0 rfl) ?_
      refine lv_if_eq (tgt := 42) hx hb dX7_isNear_35 (by decide) (fun c_35 => ?_) (fun c_35 => absurd c_35 (by decide))
      refine lv_iconst (v := (nI 0)) hx hb dX7_isNear_42 rfl ?_
      exact z_zret hx hb hr hlocks hI (Or.inl rfl) (⟨rfl, by simp [c_6, c_21]⟩) dX7_isNear_43
    · skip
      rw [znear2 h1 h2] at c_21
      refine lv_iconst (v := (nI 1)) hx hb dX7_isNear_24 rfl ?_
      refine lv_goto (tgt := 29) hx hb dX7_isNear_25 (by decide) ?_
      refine lv_istore_n (lv' := [(3, .int (nI 1)), (2, .int (nI 0)), (0, .int (nI a)), (1, .int (nI b))]) hx hb dX7_isNear_29 rfl hl (by decide) rfl (fun ls hl => ?_)
      refine lv_iload_n hx hb dX7_isNear_30 rfl (lv_at hl 1 rfl) ?_
      refine lv_if_ne (tgt := 38) hx hb dX7_isNear_31 (by decide) (fun c_31 => absurd c_31 (by decide)) (fun c_31 => ?_)
      refine lv_iload_n hx hb dX7_isNear_34 rfl (lv_at hl 0 rfl) ?_
      refine lv_if_eq (tgt := 42) hx hb dX7_isNear_35 (by decide) (fun c_35 => absurd c_35 (by decide)) (fun c_35 => ?_)
      refine lv_iconst (v := (nI 1)) hx hb dX7_isNear_38 rfl ?_
      refine lv_goto (tgt := 43) hx hb dX7_isNear_39 (by decide) ?_
      exact z_zret hx hb hr hlocks hI (Or.inr rfl) (⟨rfl, by simp [c_6, c_21]⟩) dX7_isNear_43
  · skip
    rw [zqE (by omega) (by omega)] at c_6
    refine lv_iconst (v := (nI 1)) hx hb dX7_isNear_9 rfl ?_
    refine lv_goto (tgt := 14) hx hb dX7_isNear_10 (by decide) ?_
    refine lv_istore_n (lv' := [(2, .int (nI 1)), (0, .int (nI a)), (1, .int (nI b))]) hx hb dX7_isNear_14 rfl hl (by decide) rfl (fun ls hl => ?_)
    refine lv_iload_n hx hb dX7_isNear_15 rfl (lv_at hl 1 rfl) ?_
    refine lv_iconst (v := (nI 2)) hx hb dX7_isNear_16 rfl ?_
    refine lv_iand hx hb dX7_isNear_17 ?_
    refine lv_iload_n hx hb dX7_isNear_18 rfl (lv_at hl 2 rfl) ?_
    refine lv_iconst (v := (nI 2)) hx hb dX7_isNear_19 rfl ?_
    refine lv_iand hx hb dX7_isNear_20 ?_
    refine lv_icmp_ne (tgt := 28) hx hb dX7_isNear_21 (by decide) (fun c_21 => ?_) (fun c_21 => ?_)
    · skip
      rw [znear2 h1 h2] at c_21
      refine lv_iconst (v := (nI 0)) hx hb dX7_isNear_28 rfl ?_
      refine lv_istore_n (lv' := [(3, .int (nI 0)), (2, .int (nI 1)), (0, .int (nI a)), (1, .int (nI b))]) hx hb dX7_isNear_29 rfl hl (by decide) rfl (fun ls hl => ?_)
      refine lv_iload_n hx hb dX7_isNear_30 rfl (lv_at hl 1 rfl) ?_
      refine lv_if_ne (tgt := 38) hx hb dX7_isNear_31 (by decide) (fun c_31 => ?_) (fun c_31 => absurd c_31 (by decide))
      refine lv_iconst (v := (nI 1)) hx hb dX7_isNear_38 rfl ?_
      refine lv_goto (tgt := 43) hx hb dX7_isNear_39 (by decide) ?_
      exact z_zret hx hb hr hlocks hI (Or.inr rfl) (⟨rfl, by simp [c_6, c_21]⟩) dX7_isNear_43
    · skip
      rw [znear2 h1 h2] at c_21
      refine lv_iconst (v := (nI 1)) hx hb dX7_isNear_24 rfl ?_
      refine lv_goto (tgt := 29) hx hb dX7_isNear_25 (by decide) ?_
      refine lv_istore_n (lv' := [(3, .int (nI 1)), (2, .int (nI 1)), (0, .int (nI a)), (1, .int (nI b))]) hx hb dX7_isNear_29 rfl hl (by decide) rfl (fun ls hl => ?_)
      refine lv_iload_n hx hb dX7_isNear_30 rfl (lv_at hl 1 rfl) ?_
      refine lv_if_ne (tgt := 38) hx hb dX7_isNear_31 (by decide) (fun c_31 => ?_) (fun c_31 => absurd c_31 (by decide))
      refine lv_iconst (v := (nI 1)) hx hb dX7_isNear_38 rfl ?_
      refine lv_goto (tgt := 43) hx hb dX7_isNear_39 (by decide) ?_
      exact z_zret hx hb hr hlocks hI (Or.inr rfl) (⟨rfl, by simp [c_6, c_21]⟩) dX7_isNear_43
set_option maxHeartbeats 4000000 in
set_option maxRecDepth 100000 in
theorem c_X7_at (l : Launch) {G : zG} (hG : zOK G) (x : zX) (N : Nat) (q : Int32) (hn : zNow G x N) : zMq l yX7_at wsX7_at { frames := 0, cells := 0, slots := 0, locals := 0 } G [.ref (za G 1), .int q] x (fun (o : Option Nat) (u : zX) => x = u ∧ zat x N q = o) := by
  intro A
  refine zBody (cc := cX7_at) (maxL := 2) (ret := (some (.object "WhoSitsBy$Pupil"))) (by decide) rfl (Nat.le_of_ble_eq_true rfl) ?_
  intro p e s m below meth c hx hb hml hown hts hr hlocks hK hN hI ls hl
  have hown : s.vm.findClass RX7 = some m.cls := hown
  have hl : lv_has ls 2 [(0, .ref (za G 1)), (1, .int q)] := hl
  have hin7 : ∀ w ∈ wsX70, w ∈ wsX7_at := (fun _ h => List.mem_cons_of_mem _ (List.mem_append_right _ (h)))
  have wF28 := hts (.fieldLink RX7 28 "WhoSitsBy$Standing" "size" "I") (z_mem 1 rfl)
  have wF11 := hts (.fieldLink RX7 11 "WhoSitsBy$Standing" "pupils" "[LWhoSitsBy$Pupil;") (z_mem 2 rfl)
  refine lv_iload_n hx hb dX7_at_0 rfl (lv_at hl 1 rfl) ?_
  refine lv_if_lt (tgt := 30) hx hb dX7_at_1 (by decide) (fun c_1 => ?_) (fun c_1 => ?_)
  · skip
    refine lv_null hx hb dX7_at_30 ?_
    exact z_qret (o := none) hx hb hr (Or.inl ⟨_, rfl⟩) hlocks hI (⟨rfl, by simp [zat, c_1]⟩) dX7_at_31
  · skip
    refine lv_iload_n hx hb dX7_at_4 rfl (lv_at hl 1 rfl) ?_
    refine lv_aload_n hx hb dX7_at_5 rfl (lv_at hl 0 rfl) ?_
    refine z_get (C := RX7) (T := TX7) (N := 7) (ci := 7) (v := .int (nI N)) hx hb hts hin7 hown hK hI (zo1 hG) rfl 3 (by decide) wF28 (fun _ h9 => h9) (congrArg (fun q => some (Value.int q)) hn.2.1) dX7_at_6 ?_
    refine lv_icmp_ge (tgt := 30) hx hb dX7_at_9 (by decide) (fun c_9 => ?_) (fun c_9 => ?_)
    · skip
      refine lv_null hx hb dX7_at_30 ?_
      exact z_qret (o := none) hx hb hr (Or.inl ⟨_, rfl⟩) hlocks hI (⟨rfl, by simp [zat, c_1, c_9]⟩) dX7_at_31
    · skip
      have h8 := hn.1
      obtain ⟨k, hk, rfl⟩ := z_ix c_1 c_9 (by omega)
      refine lv_iload_n hx hb dX7_at_12 rfl (lv_at hl 1 rfl) ?_
      refine lv_aload_n hx hb dX7_at_13 rfl (lv_at hl 0 rfl) ?_
      refine z_get (C := RX7) (T := TX7) (N := 7) (ci := 7) (v := .ref (za G 3)) hx hb hts hin7 hown hK hI (zo1 hG) rfl 0 (by decide) wF11 (fun _ h9 => h9) rfl dX7_at_14 ?_
      refine z_alen (v := nI 8) hx hb hK hI 4 (zo3 hG).1 ((zo3 hG).2 _) rfl rfl dX7_at_17 ?_
      refine lv_icmp_ge (tgt := 30) hx hb dX7_at_18 (by decide) (fun c_18 => ?_) (fun c_18 => ?_)
      · skip
        rw [zqG (by omega) (by omega)] at c_18
        exact absurd c_18 (by omega)
      · skip
        rw [zqG (by omega) (by omega)] at c_18
        refine lv_aload_n hx hb dX7_at_21 rfl (lv_at hl 0 rfl) ?_
        refine z_get (C := RX7) (T := TX7) (N := 7) (ci := 7) (v := .ref (za G 3)) hx hb hts hin7 hown hK hI (zo1 hG) rfl 0 (by decide) wF11 (fun _ h9 => h9) rfl dX7_at_22 ?_
        refine lv_iload_n hx hb dX7_at_25 rfl (lv_at hl 1 rfl) ?_
        refine z_pald (o := (x.2.2 3 k)) hx hb hK hI (zo3 hG) k rfl (by omega) (by decide) rfl dX7_at_26 ?_
        refine lv_goto (tgt := 31) hx hb dX7_at_27 (by decide) ?_
        exact z_qret (o := (x.2.2 3 k)) hx hb hr (Or.inl ⟨_, rfl⟩) hlocks hI (⟨rfl, by simp [zat, c_1, c_9, c_18, nI_clamp (show k < 2 ^ 31 by omega)]⟩) dX7_at_31
set_option maxHeartbeats 4000000 in
set_option maxRecDepth 100000 in
theorem c_X7_arePupils (l : Launch) {G : zG} (hG : zOK G) (x : zX) (N : Nat) (q : Int32) (hn : zNow G x N) : zMi l yX7_arePupils wsX7_arePupils { frames := 0, cells := 0, slots := 0, locals := 0 } G [.ref (za G 1), .int q] x (fun (r : Int32) (u : zX) => x = u ∧ (if ¬ q < 0 ∧ ¬ nI (2 ^ N) ≤ q then nI 1 else nI 0) = r) := by
  intro A
  refine zBody (cc := cX7_arePupils) (maxL := 2) (ret := (some .boolean)) (by decide) rfl (Nat.le_of_ble_eq_true rfl) ?_
  intro p e s m below meth c hx hb hml hown hts hr hlocks hK hN hI ls hl
  have hown : s.vm.findClass RX7 = some m.cls := hown
  have hl : lv_has ls 2 [(0, .ref (za G 1)), (1, .int q)] := hl
  have hin7 : ∀ w ∈ wsX70, w ∈ wsX7_arePupils := (fun _ h => List.mem_cons_of_mem _ (List.mem_append_right _ (h)))
  have wF28 := hts (.fieldLink RX7 28 "WhoSitsBy$Standing" "size" "I") (z_mem 1 rfl)
  have h8 := hn.1
  refine lv_iload_n hx hb dX7_arePupils_0 rfl (lv_at hl 1 rfl) ?_
  refine lv_if_lt (tgt := 18) hx hb dX7_arePupils_1 (by decide) (fun c_1 => ?_) (fun c_1 => ?_)
  · skip
    refine lv_iconst (v := (nI 0)) hx hb dX7_arePupils_18 rfl ?_
    exact z_zret hx hb hr hlocks hI (Or.inl rfl) (⟨rfl, by simp [zbit, c_1]⟩) dX7_arePupils_19
  · skip
    refine lv_iload_n hx hb dX7_arePupils_4 rfl (lv_at hl 1 rfl) ?_
    refine lv_iconst (v := (nI 1)) hx hb dX7_arePupils_5 rfl ?_
    refine lv_aload_n hx hb dX7_arePupils_6 rfl (lv_at hl 0 rfl) ?_
    refine z_get (C := RX7) (T := TX7) (N := 7) (ci := 7) (v := .int (nI N)) hx hb hts hin7 hown hK hI (zo1 hG) rfl 3 (by decide) wF28 (fun _ h9 => h9) (congrArg (fun q => some (Value.int q)) hn.2.1) dX7_arePupils_7 ?_
    refine z_ishl (v := (nI (2 ^ N))) hx hb (zp2 (by omega)) dX7_arePupils_10 ?_
    refine lv_icmp_ge (tgt := 18) hx hb dX7_arePupils_11 (by decide) (fun c_11 => ?_) (fun c_11 => ?_)
    · skip
      refine lv_iconst (v := (nI 0)) hx hb dX7_arePupils_18 rfl ?_
      exact z_zret hx hb hr hlocks hI (Or.inl rfl) (⟨rfl, by simp [zbit, c_1, c_11]⟩) dX7_arePupils_19
    · skip
      refine lv_iconst (v := (nI 1)) hx hb dX7_arePupils_14 rfl ?_
      refine lv_goto (tgt := 19) hx hb dX7_arePupils_15 (by decide) ?_
      exact z_zret hx hb hr hlocks hI (Or.inr rfl) (⟨rfl, by simp [zbit, c_1, c_11]⟩) dX7_arePupils_19
set_option maxHeartbeats 4000000 in
set_option maxRecDepth 100000 in
theorem c_X7_needsFront (l : Launch) {G : zG} (hG : zOK G) (x : zX) (q : Int32)  : zMi l yX7_needsFront wsX7_needsFront { frames := 1, cells := 0, slots := 0, locals := 21 } G [.ref (za G 1), .int q] x (fun (r : Int32) (u : zX) => x = u ∧ (if zbit (x.1 1 4) q then nI 1 else nI 0) = r) := by
  intro A
  refine zBody (cc := cX7_needsFront) (maxL := 2) (ret := (some .boolean)) (by decide) rfl (Nat.le_of_ble_eq_true rfl) ?_
  intro p e s m below meth c hx hb hml hown hts hr hlocks hK hN hI ls hl
  have hown : s.vm.findClass RX7 = some m.cls := hown
  have hl : lv_has ls 2 [(0, .ref (za G 1)), (1, .int q)] := hl
  have hin7 : ∀ w ∈ wsX70, w ∈ wsX7_needsFront := (fun _ h => List.mem_cons_of_mem _ (List.mem_append_right _ (h)))
  have wF31 := hts (.fieldLink RX7 31 "WhoSitsBy$Standing" "fronts" "I") (z_mem 1 rfl)
  refine lv_aload_n hx hb dX7_needsFront_0 rfl (lv_at hl 0 rfl) ?_
  refine z_get (C := RX7) (T := TX7) (N := 7) (ci := 7) (v := .int (x.1 1 4)) hx hb hts hin7 hown hK hI (zo1 hG) rfl 4 (by decide) wF31 (fun _ h9 => h9) rfl dX7_needsFront_1 ?_
  refine lv_iload_n hx hb dX7_needsFront_4 rfl (lv_at hl 1 rfl) ?_
  refine z_calli (va_runSN (As := [.int (x.1 1 4), .int q]) (rest := []) ⟨hx, hb, hml, hown, hts⟩ ((c_X11_hasBit l hG x (x.1 1 4) q) A) ⟨va_cnB 2 hts gX7_needsFront_X11_hasBit_n42 rfl rfl rfl (hN.1 _ (z_mem 1 rfl)) (hts (.initialized RX11) (z_mem 3 rfl)) (by decide +kernel) ⟨Nat.le_of_ble_eq_true rfl, Nat.le_of_ble_eq_true rfl⟩, hts (.static yX11_hasBit) (z_mem 2 rfl), trivial⟩ (z_pS hI hK hN) rfl rfl hl.1 rfl (lv_room (Nat.le_of_ble_eq_true rfl)) dX7_needsFront_5 ⟨Nat.zero_le _, Nat.zero_le _⟩) hI (fun r_5 u H locs hw hI => ?_)
  obtain ⟨rfl, rfl⟩ := hw
  exact z_zret hx hb hr hlocks hI (zb01 _) (⟨rfl, rfl⟩) dX7_needsFront_8
set_option maxHeartbeats 4000000 in
set_option maxRecDepth 100000 in
theorem c_X7_setFront (l : Launch) {G : zG} (hG : zOK G) (x : zX) (q b : Int32)  : zMv l yX7_setFront wsX7_setFront { frames := 0, cells := 0, slots := 0, locals := 0 } G [.ref (za G 1), .int q, .int b] x (fun (u : zX) => zsI x 1 4 (if b = 0 then (x.1 1 4) &&& ((nI 1 <<< (q &&& 31)) ^^^ (-1)) else (x.1 1 4) ||| (nI 1 <<< (q &&& 31))) = u) := by
  intro A
  refine zBody (cc := cX7_setFront) (maxL := 3) (ret := none) (by decide) rfl (Nat.le_of_ble_eq_true rfl) ?_
  intro p e s m below meth c hx hb hml hown hts hr hlocks hK hN hI ls hl
  have hown : s.vm.findClass RX7 = some m.cls := hown
  have hl : lv_has ls 3 [(0, .ref (za G 1)), (1, .int q), (2, .int b)] := hl
  have hin7 : ∀ w ∈ wsX70, w ∈ wsX7_setFront := (fun _ h => List.mem_cons_of_mem _ (List.mem_append_right _ (h)))
  have wF31 := hts (.fieldLink RX7 31 "WhoSitsBy$Standing" "fronts" "I") (z_mem 1 rfl)
  refine lv_aload_n hx hb dX7_setFront_0 rfl (lv_at hl 0 rfl) ?_
  refine lv_iload_n hx hb dX7_setFront_1 rfl (lv_at hl 2 rfl) ?_
  refine lv_if_eq (tgt := 16) hx hb dX7_setFront_2 (by decide) (fun c_2 => ?_) (fun c_2 => ?_)
  · skip
    refine lv_aload_n hx hb dX7_setFront_16 rfl (lv_at hl 0 rfl) ?_
    refine z_get (C := RX7) (T := TX7) (N := 7) (ci := 7) (v := .int (x.1 1 4)) hx hb hts hin7 hown hK hI (zo1 hG) rfl 4 (by decide) wF31 (fun _ h9 => h9) rfl dX7_setFront_17 ?_
    refine lv_iconst (v := (nI 1)) hx hb dX7_setFront_20 rfl ?_
    refine lv_iload_n hx hb dX7_setFront_21 rfl (lv_at hl 1 rfl) ?_
    refine lv_ishl hx hb dX7_setFront_22 ?_
    refine lv_iconst (v := (-1)) hx hb dX7_setFront_23 rfl ?_
    refine lv_ixor hx hb dX7_setFront_24 ?_
    refine lv_iand hx hb dX7_setFront_25 ?_
    refine z_putI (C := RX7) (T := TX7) (N := 7) (ci := 7) (ty := .int) hx hb hts hin7 tyX7 tyX7_ok nmX7 hown hK hI (zo1 hG) rfl 4 (by decide) wF31 (fun _ h9 => h9) rfl (fun _ _ => rfl) (by decide +kernel) rfl rfl (fun _ _ => Nat.le_of_ble_eq_true rfl) dX7_setFront_26 (fun H locs hI => ?_)
    exact z_vret hx hb hr hlocks hI (by rw [if_pos c_2]) dX7_setFront_29
  · skip
    refine lv_aload_n hx hb dX7_setFront_5 rfl (lv_at hl 0 rfl) ?_
    refine z_get (C := RX7) (T := TX7) (N := 7) (ci := 7) (v := .int (x.1 1 4)) hx hb hts hin7 hown hK hI (zo1 hG) rfl 4 (by decide) wF31 (fun _ h9 => h9) rfl dX7_setFront_6 ?_
    refine lv_iconst (v := (nI 1)) hx hb dX7_setFront_9 rfl ?_
    refine lv_iload_n hx hb dX7_setFront_10 rfl (lv_at hl 1 rfl) ?_
    refine lv_ishl hx hb dX7_setFront_11 ?_
    refine lv_ior hx hb dX7_setFront_12 ?_
    refine lv_goto (tgt := 26) hx hb dX7_setFront_13 (by decide) ?_
    refine z_putI (C := RX7) (T := TX7) (N := 7) (ci := 7) (ty := .int) hx hb hts hin7 tyX7 tyX7_ok nmX7 hown hK hI (zo1 hG) rfl 4 (by decide) wF31 (fun _ h9 => h9) rfl (fun _ _ => rfl) (by decide +kernel) rfl rfl (fun _ _ => Nat.le_of_ble_eq_true rfl) dX7_setFront_26 (fun H locs hI => ?_)
    exact z_vret hx hb hr hlocks hI (by rw [if_neg c_2]) dX7_setFront_29
set_option maxHeartbeats 4000000 in
set_option maxRecDepth 100000 in
theorem c_X7_whomNames (l : Launch) {G : zG} (hG : zOK G) (x : zX) (N q : Nat) (hn : zNow G x N) (hq : q < N) : zMi l yX7_whomNames wsX7_whomNames { frames := 0, cells := 0, slots := 0, locals := 0 } G [.ref (za G 1), .int (nI q)] x (fun (r : Int32) (u : zX) => x = u ∧ x.1 5 q = r) := by
  intro A
  refine zBody (cc := cX7_whomNames) (maxL := 2) (ret := (some .int)) (by decide) rfl (Nat.le_of_ble_eq_true rfl) ?_
  intro p e s m below meth c hx hb hml hown hts hr hlocks hK hN hI ls hl
  have hown : s.vm.findClass RX7 = some m.cls := hown
  have hl : lv_has ls 2 [(0, .ref (za G 1)), (1, .int (nI q))] := hl
  have hin7 : ∀ w ∈ wsX70, w ∈ wsX7_whomNames := (fun _ h => List.mem_cons_of_mem _ (List.mem_append_right _ (h)))
  have wF28 := hts (.fieldLink RX7 28 "WhoSitsBy$Standing" "size" "I") (z_mem 1 rfl)
  have wF21 := hts (.fieldLink RX7 21 "WhoSitsBy$Standing" "slipOf" "[I") (z_mem 2 rfl)
  have h8 := hn.1
  refine lv_iload_n hx hb dX7_whomNames_0 rfl (lv_at hl 1 rfl) ?_
  refine lv_if_lt (tgt := 30) hx hb dX7_whomNames_1 (by decide) (fun c_1 => ?_) (fun c_1 => ?_)
  · skip
    rw [show (0 : Int32) = nI 0 from rfl] at c_1; rw [zqL (by omega) (by omega)] at c_1
    exact absurd c_1 (by omega)
  · skip
    rw [show (0 : Int32) = nI 0 from rfl] at c_1; rw [zqL (by omega) (by omega)] at c_1
    refine lv_iload_n hx hb dX7_whomNames_4 rfl (lv_at hl 1 rfl) ?_
    refine lv_aload_n hx hb dX7_whomNames_5 rfl (lv_at hl 0 rfl) ?_
    refine z_get (C := RX7) (T := TX7) (N := 7) (ci := 7) (v := .int (nI N)) hx hb hts hin7 hown hK hI (zo1 hG) rfl 3 (by decide) wF28 (fun _ h9 => h9) (congrArg (fun q => some (Value.int q)) hn.2.1) dX7_whomNames_6 ?_
    refine lv_icmp_ge (tgt := 30) hx hb dX7_whomNames_9 (by decide) (fun c_9 => ?_) (fun c_9 => ?_)
    · skip
      rw [zqG (by omega) (by omega)] at c_9
      exact absurd c_9 (by omega)
    · skip
      rw [zqG (by omega) (by omega)] at c_9
      refine lv_iload_n hx hb dX7_whomNames_12 rfl (lv_at hl 1 rfl) ?_
      refine lv_aload_n hx hb dX7_whomNames_13 rfl (lv_at hl 0 rfl) ?_
      refine z_get (C := RX7) (T := TX7) (N := 7) (ci := 7) (v := .ref (za G 5)) hx hb hts hin7 hown hK hI (zo1 hG) rfl 2 (by decide) wF21 (fun _ h9 => h9) rfl dX7_whomNames_14 ?_
      refine z_alen (v := nI 8) hx hb hK hI 0 (zo5 hG).1 ((zo5 hG).2 _) rfl rfl dX7_whomNames_17 ?_
      refine lv_icmp_ge (tgt := 30) hx hb dX7_whomNames_18 (by decide) (fun c_18 => ?_) (fun c_18 => ?_)
      · skip
        rw [zqG (by omega) (by omega)] at c_18
        exact absurd c_18 (by omega)
      · skip
        rw [zqG (by omega) (by omega)] at c_18
        refine lv_aload_n hx hb dX7_whomNames_21 rfl (lv_at hl 0 rfl) ?_
        refine z_get (C := RX7) (T := TX7) (N := 7) (ci := 7) (v := .ref (za G 5)) hx hb hts hin7 hown hK hI (zo1 hG) rfl 2 (by decide) wF21 (fun _ h9 => h9) rfl dX7_whomNames_22 ?_
        refine lv_iload_n hx hb dX7_whomNames_25 rfl (lv_at hl 1 rfl) ?_
        refine z_iald (v := (x.1 5 q)) hx hb hK hI (zo5 hG) q rfl (by omega) (by decide) rfl dX7_whomNames_26 ?_
        refine lv_goto (tgt := 31) hx hb dX7_whomNames_27 (by decide) ?_
        exact z_iret hx hb hr hlocks hI (⟨rfl, rfl⟩) dX7_whomNames_31
set_option maxHeartbeats 4000000 in
set_option maxRecDepth 100000 in
theorem c_X7_setSlip (l : Launch) {G : zG} (hG : zOK G) (x : zX) (q : Nat) (y : Int32) (hq : q < 8) : zMv l yX7_setSlip wsX7_setSlip { frames := 0, cells := 0, slots := 0, locals := 0 } G [.ref (za G 1), .int (nI q), .int y] x (fun (u : zX) => zsI x 5 q y = u) := by
  intro A
  refine zBody (cc := cX7_setSlip) (maxL := 3) (ret := none) (by decide) rfl (Nat.le_of_ble_eq_true rfl) ?_
  intro p e s m below meth c hx hb hml hown hts hr hlocks hK hN hI ls hl
  have hown : s.vm.findClass RX7 = some m.cls := hown
  have hl : lv_has ls 3 [(0, .ref (za G 1)), (1, .int (nI q)), (2, .int y)] := hl
  have hin7 : ∀ w ∈ wsX70, w ∈ wsX7_setSlip := (fun _ h => List.mem_cons_of_mem _ (List.mem_append_right _ (h)))
  have wF21 := hts (.fieldLink RX7 21 "WhoSitsBy$Standing" "slipOf" "[I") (z_mem 1 rfl)
  refine lv_iload_n hx hb dX7_setSlip_0 rfl (lv_at hl 1 rfl) ?_
  refine lv_if_lt (tgt := 20) hx hb dX7_setSlip_1 (by decide) (fun c_1 => ?_) (fun c_1 => ?_)
  · skip
    rw [show (0 : Int32) = nI 0 from rfl] at c_1; rw [zqL (by omega) (by omega)] at c_1
    exact absurd c_1 (by omega)
  · skip
    rw [show (0 : Int32) = nI 0 from rfl] at c_1; rw [zqL (by omega) (by omega)] at c_1
    refine lv_iload_n hx hb dX7_setSlip_4 rfl (lv_at hl 1 rfl) ?_
    refine lv_aload_n hx hb dX7_setSlip_5 rfl (lv_at hl 0 rfl) ?_
    refine z_get (C := RX7) (T := TX7) (N := 7) (ci := 7) (v := .ref (za G 5)) hx hb hts hin7 hown hK hI (zo1 hG) rfl 2 (by decide) wF21 (fun _ h9 => h9) rfl dX7_setSlip_6 ?_
    refine z_alen (v := nI 8) hx hb hK hI 0 (zo5 hG).1 ((zo5 hG).2 _) rfl rfl dX7_setSlip_9 ?_
    refine lv_icmp_ge (tgt := 20) hx hb dX7_setSlip_10 (by decide) (fun c_10 => ?_) (fun c_10 => ?_)
    · skip
      rw [zqG (by omega) (by omega)] at c_10
      exact absurd c_10 (by omega)
    · skip
      rw [zqG (by omega) (by omega)] at c_10
      refine lv_aload_n hx hb dX7_setSlip_13 rfl (lv_at hl 0 rfl) ?_
      refine z_get (C := RX7) (T := TX7) (N := 7) (ci := 7) (v := .ref (za G 5)) hx hb hts hin7 hown hK hI (zo1 hG) rfl 2 (by decide) wF21 (fun _ h9 => h9) rfl dX7_setSlip_14 ?_
      refine lv_iload_n hx hb dX7_setSlip_17 rfl (lv_at hl 1 rfl) ?_
      refine lv_iload_n hx hb dX7_setSlip_18 rfl (lv_at hl 2 rfl) ?_
      refine z_iast (y := y) hx hb hK hI (zo5 hG) q rfl (by omega) (by decide) dX7_setSlip_19 (fun H locs hI => ?_)
      exact z_vret hx hb hr hlocks hI (rfl) dX7_setSlip_20
set_option maxHeartbeats 4000000 in
set_option maxRecDepth 100000 in
theorem c_X7_isNaming (l : Launch) {G : zG} (hG : zOK G) (x : zX) (N q : Nat) (y : Int32) (hn : zNow G x N) (hq : q < N) : zMi l yX7_isNaming wsX7_isNaming { frames := 0, cells := 0, slots := 0, locals := 0 } G [.ref (za G 1), .int (nI q), .int y] x (fun (r : Int32) (u : zX) => x = u ∧ (if ¬ y < 0 ∧ x.1 5 q = y then nI 1 else nI 0) = r) := by
  intro A
  refine zBody (cc := cX7_isNaming) (maxL := 3) (ret := (some .boolean)) (by decide) rfl (Nat.le_of_ble_eq_true rfl) ?_
  intro p e s m below meth c hx hb hml hown hts hr hlocks hK hN hI ls hl
  have hown : s.vm.findClass RX7 = some m.cls := hown
  have hl : lv_has ls 3 [(0, .ref (za G 1)), (1, .int (nI q)), (2, .int y)] := hl
  have hin7 : ∀ w ∈ wsX70, w ∈ wsX7_isNaming := (fun _ h => List.mem_cons_of_mem _ (List.mem_append_right _ (h)))
  have wF28 := hts (.fieldLink RX7 28 "WhoSitsBy$Standing" "size" "I") (z_mem 1 rfl)
  have wF21 := hts (.fieldLink RX7 21 "WhoSitsBy$Standing" "slipOf" "[I") (z_mem 2 rfl)
  have h8 := hn.1
  refine lv_iload_n hx hb dX7_isNaming_0 rfl (lv_at hl 1 rfl) ?_
  refine lv_if_lt (tgt := 39) hx hb dX7_isNaming_1 (by decide) (fun c_1 => ?_) (fun c_1 => ?_)
  · skip
    rw [show (0 : Int32) = nI 0 from rfl] at c_1; rw [zqL (by omega) (by omega)] at c_1
    exact absurd c_1 (by omega)
  · skip
    rw [show (0 : Int32) = nI 0 from rfl] at c_1; rw [zqL (by omega) (by omega)] at c_1
    refine lv_iload_n hx hb dX7_isNaming_4 rfl (lv_at hl 1 rfl) ?_
    refine lv_aload_n hx hb dX7_isNaming_5 rfl (lv_at hl 0 rfl) ?_
    refine z_get (C := RX7) (T := TX7) (N := 7) (ci := 7) (v := .int (nI N)) hx hb hts hin7 hown hK hI (zo1 hG) rfl 3 (by decide) wF28 (fun _ h9 => h9) (congrArg (fun q => some (Value.int q)) hn.2.1) dX7_isNaming_6 ?_
    refine lv_icmp_ge (tgt := 39) hx hb dX7_isNaming_9 (by decide) (fun c_9 => ?_) (fun c_9 => ?_)
    · skip
      rw [zqG (by omega) (by omega)] at c_9
      exact absurd c_9 (by omega)
    · skip
      rw [zqG (by omega) (by omega)] at c_9
      refine lv_iload_n hx hb dX7_isNaming_12 rfl (lv_at hl 1 rfl) ?_
      refine lv_aload_n hx hb dX7_isNaming_13 rfl (lv_at hl 0 rfl) ?_
      refine z_get (C := RX7) (T := TX7) (N := 7) (ci := 7) (v := .ref (za G 5)) hx hb hts hin7 hown hK hI (zo1 hG) rfl 2 (by decide) wF21 (fun _ h9 => h9) rfl dX7_isNaming_14 ?_
      refine z_alen (v := nI 8) hx hb hK hI 0 (zo5 hG).1 ((zo5 hG).2 _) rfl rfl dX7_isNaming_17 ?_
      refine lv_icmp_ge (tgt := 39) hx hb dX7_isNaming_18 (by decide) (fun c_18 => ?_) (fun c_18 => ?_)
      · skip
        rw [zqG (by omega) (by omega)] at c_18
        exact absurd c_18 (by omega)
      · skip
        rw [zqG (by omega) (by omega)] at c_18
        refine lv_iload_n hx hb dX7_isNaming_21 rfl (lv_at hl 2 rfl) ?_
        refine lv_if_lt (tgt := 39) hx hb dX7_isNaming_22 (by decide) (fun c_22 => ?_) (fun c_22 => ?_)
        · skip
          refine lv_iconst (v := (nI 0)) hx hb dX7_isNaming_39 rfl ?_
          exact z_zret hx hb hr hlocks hI (Or.inl rfl) (⟨rfl, by simp [c_22]⟩) dX7_isNaming_40
        · skip
          refine lv_aload_n hx hb dX7_isNaming_25 rfl (lv_at hl 0 rfl) ?_
          refine z_get (C := RX7) (T := TX7) (N := 7) (ci := 7) (v := .ref (za G 5)) hx hb hts hin7 hown hK hI (zo1 hG) rfl 2 (by decide) wF21 (fun _ h9 => h9) rfl dX7_isNaming_26 ?_
          refine lv_iload_n hx hb dX7_isNaming_29 rfl (lv_at hl 1 rfl) ?_
          refine z_iald (v := (x.1 5 q)) hx hb hK hI (zo5 hG) q rfl (by omega) (by decide) rfl dX7_isNaming_30 ?_
          refine lv_iload_n hx hb dX7_isNaming_31 rfl (lv_at hl 2 rfl) ?_
          refine lv_icmp_ne (tgt := 39) hx hb dX7_isNaming_32 (by decide) (fun c_32 => ?_) (fun c_32 => ?_)
          · skip
            refine lv_iconst (v := (nI 0)) hx hb dX7_isNaming_39 rfl ?_
            exact z_zret hx hb hr hlocks hI (Or.inl rfl) (⟨rfl, by simp [c_22, c_32]⟩) dX7_isNaming_40
          · skip
            refine lv_iconst (v := (nI 1)) hx hb dX7_isNaming_35 rfl ?_
            refine lv_goto (tgt := 40) hx hb dX7_isNaming_36 (by decide) ?_
            exact z_zret hx hb hr hlocks hI (Or.inr rfl) (⟨rfl, by simp [c_22, c_32]⟩) dX7_isNaming_40
set_option maxHeartbeats 4000000 in
set_option maxRecDepth 100000 in
theorem c_X7_namersOf (l : Launch) {G : zG} (hG : zOK G) (x : zX) (N : Nat) (y : Int32) (hn : zNow G x N) : zMi l yX7_namersOf wsX7_namersOf { frames := 1, cells := 0, slots := 0, locals := 22 } G [.ref (za G 1), .int y] x (fun (r : Int32) (u : zX) => x = u ∧ zsum (fun qq => if ¬ y < 0 ∧ x.1 5 qq = y then 1 else 0) N = r) := by
  intro A
  refine zBody (cc := cX7_namersOf) (maxL := 4) (ret := (some .int)) (by decide) rfl (Nat.le_of_ble_eq_true rfl) ?_
  intro p e s m below meth c hx hb hml hown hts hr hlocks hK hN hI ls hl
  have hown : s.vm.findClass RX7 = some m.cls := hown
  have hl : lv_has ls 4 [(0, .ref (za G 1)), (1, .int y)] := hl
  have hin7 : ∀ w ∈ wsX70, w ∈ wsX7_namersOf := (fun _ h => List.mem_cons_of_mem _ (List.mem_append_right _ (h)))
  have wF28 := hts (.fieldLink RX7 28 "WhoSitsBy$Standing" "size" "I") (z_mem 1 rfl)
  have h8 := hn.1
  refine lv_iconst (v := (nI 0)) hx hb dX7_namersOf_0 rfl ?_
  refine lv_istore_n (lv' := [(2, .int (nI 0)), (0, .ref (za G 1)), (1, .int y)]) hx hb dX7_namersOf_1 rfl hl (by decide) rfl (fun ls hl => ?_)
  refine lv_iconst (v := (nI 0)) hx hb dX7_namersOf_2 rfl ?_
  refine lv_istore_n (lv' := [(3, .int (nI 0)), (2, .int (nI 0)), (0, .ref (za G 1)), (1, .int y)]) hx hb dX7_namersOf_3 rfl hl (by decide) rfl (fun ls hl => ?_)
  have L4 : ∀ (f : Nat) (j : Nat) (a : Int32), (j ≤ N) → (a = zsum (fun qq => if ¬ y < 0 ∧ x.1 5 qq = y then 1 else 0) j) → N + 1 ≤ j + f → ∀ (H : Heap) (locs : List Loc), zI G x A s.heap H locs → ∀ ls : Array Slot, lv_has ls 4 [(0, .ref (za G 1)), (1, .int y), (2, .int a), (3, .int (nI j))] → W p l e { frames := 1, cells := 0, slots := 0, locals := 22 } s m ([.ref (za G 1), .int y] : List Value).toArray below meth c H locs 0 0 (MQ below (va_Qi (fun (r : Int32) (u : zX) => x = u ∧ zsum (fun qq => if ¬ y < 0 ∧ x.1 5 qq = y then 1 else 0) N = r) (fun u t => zJ G u A t.heap) A) ([.ref (za G 1), .int y] : List Value).toArray s 0 0 A) (F0 m 4 ls []) := by
    intro f
    induction f with
    | zero =>
      intro j a h1 h2 hf
      exact absurd hf (by omega)
    | succ f ih =>
      intro j a h1 h2 hf H locs hI ls hl
      have ih4 := ih
      refine lv_iload_n hx hb dX7_namersOf_4 rfl (lv_at hl 3 rfl) ?_
      refine lv_aload_n hx hb dX7_namersOf_5 rfl (lv_at hl 0 rfl) ?_
      refine z_get (C := RX7) (T := TX7) (N := 7) (ci := 7) (v := .int (nI N)) hx hb hts hin7 hown hK hI (zo1 hG) rfl 3 (by decide) wF28 (fun _ h9 => h9) (congrArg (fun q => some (Value.int q)) hn.2.1) dX7_namersOf_6 ?_
      refine lv_icmp_ge (tgt := 30) hx hb dX7_namersOf_9 (by decide) (fun c_9 => ?_) (fun c_9 => ?_)
      · skip
        rw [zqG (by omega) (by omega)] at c_9
        refine lv_iload_n hx hb dX7_namersOf_30 rfl (lv_at hl 2 rfl) ?_
        exact z_iret hx hb hr hlocks hI (⟨rfl, by rw [h2, show j = N by omega]⟩) dX7_namersOf_31
      · skip
        rw [zqG (by omega) (by omega)] at c_9
        refine lv_aload_n hx hb dX7_namersOf_12 rfl (lv_at hl 0 rfl) ?_
        refine lv_iload_n hx hb dX7_namersOf_13 rfl (lv_at hl 3 rfl) ?_
        refine lv_iload_n hx hb dX7_namersOf_14 rfl (lv_at hl 1 rfl) ?_
        refine z_calli (va_runV (As := [.int (nI j), .int y]) (rest := []) ⟨hx, hb, hml, hown, hts⟩ ((c_X7_isNaming l hG x N j y hn (by omega)) A) (cwV 2 hts gX7_namersOf_X7_isNaming rfl rfl rfl (by decide +kernel) ⟨Nat.le_of_ble_eq_true rfl, Nat.le_of_ble_eq_true rfl⟩) (z_pV hI hK hN (z_recv hK hI (zo1 hG) rfl)) rfl rfl hl.1 rfl (lv_room (Nat.le_of_ble_eq_true rfl)) dX7_namersOf_15 ⟨Nat.zero_le _, Nat.zero_le _⟩) hI (fun r_15 u H locs hw hI => ?_)
        obtain ⟨rfl, rfl⟩ := hw
        refine lv_if_eq (tgt := 24) hx hb dX7_namersOf_18 (by decide) (fun c_18 => ?_) (fun c_18 => ?_)
        · skip
          rw [zb_0] at c_18
          refine lv_iinc (v := (nI (j + 1))) (lv' := [(3, .int (nI (j + 1))), (0, .ref (za G 1)), (1, .int y), (2, .int a)]) hx hb dX7_namersOf_24 hl (k := 3) rfl (zinc j) (by decide) rfl (fun ls hl => ?_)
          refine lv_goto (tgt := 4) hx hb dX7_namersOf_27 (by decide) ?_
          exact ih4 (j + 1) a (by omega) (zsum_f h2 (if_neg c_18)) (by omega) _ _ hI ls (lv_sub hl [1, 2, 3, 0] rfl)
        · skip
          rw [zb_0, Classical.not_not] at c_18
          refine lv_iinc (v := (a + Int32.ofInt (1))) (lv' := [(2, .int (a + Int32.ofInt (1))), (0, .ref (za G 1)), (1, .int y), (3, .int (nI j))]) hx hb dX7_namersOf_21 hl (k := 2) rfl rfl (by decide) rfl (fun ls hl => ?_)
          refine lv_iinc (v := (nI (j + 1))) (lv' := [(3, .int (nI (j + 1))), (2, .int (a + Int32.ofInt (1))), (0, .ref (za G 1)), (1, .int y)]) hx hb dX7_namersOf_24 hl (k := 3) rfl (zinc j) (by decide) rfl (fun ls hl => ?_)
          refine lv_goto (tgt := 4) hx hb dX7_namersOf_27 (by decide) ?_
          exact ih4 (j + 1) (a + Int32.ofInt (1)) (by omega) (zsum_t h2 (if_pos c_18)) (by omega) _ _ hI ls (lv_sub hl [2, 3, 1, 0] rfl)
  exact L4 (N + 1) 0 (nI 0) (by omega) rfl (by omega) _ _ hI ls (lv_sub hl [2, 3, 1, 0] rfl)
set_option maxHeartbeats 4000000 in
set_option maxRecDepth 100000 in
theorem c_X7_aloneBits (l : Launch) {G : zG} (hG : zOK G) (x : zX) (N : Nat) (hn : zNow G x N) : zMi l yX7_aloneBits wsX7_aloneBits { frames := 2, cells := 0, slots := 0, locals := 45 } G [.ref (za G 1)] x (fun (r : Int32) (u : zX) => x = u ∧ zors (fun qq => if zsum (fun k => if ¬ (nI qq) < 0 ∧ x.1 5 k = (nI qq) then 1 else 0) N = 0 then nI 1 <<< (nI qq &&& 31) else 0) N = r) := by
  intro A
  refine zBody (cc := cX7_aloneBits) (maxL := 3) (ret := (some .int)) (by decide) rfl (Nat.le_of_ble_eq_true rfl) ?_
  intro p e s m below meth c hx hb hml hown hts hr hlocks hK hN hI ls hl
  have hown : s.vm.findClass RX7 = some m.cls := hown
  have hl : lv_has ls 3 [(0, .ref (za G 1))] := hl
  have hin7 : ∀ w ∈ wsX70, w ∈ wsX7_aloneBits := (fun _ h => List.mem_cons_of_mem _ (List.mem_append_right _ (h)))
  have wF28 := hts (.fieldLink RX7 28 "WhoSitsBy$Standing" "size" "I") (z_mem 1 rfl)
  have h8 := hn.1
  refine lv_iconst (v := (nI 0)) hx hb dX7_aloneBits_0 rfl ?_
  refine lv_istore_n (lv' := [(1, .int (nI 0)), (0, .ref (za G 1))]) hx hb dX7_aloneBits_1 rfl hl (by decide) rfl (fun ls hl => ?_)
  refine lv_iconst (v := (nI 0)) hx hb dX7_aloneBits_2 rfl ?_
  refine lv_istore_n (lv' := [(2, .int (nI 0)), (1, .int (nI 0)), (0, .ref (za G 1))]) hx hb dX7_aloneBits_3 rfl hl (by decide) rfl (fun ls hl => ?_)
  have L4 : ∀ (f : Nat) (j : Nat) (a : Int32), (j ≤ N) → (a = zors (fun qq => if zsum (fun k => if ¬ (nI qq) < 0 ∧ x.1 5 k = (nI qq) then 1 else 0) N = 0 then nI 1 <<< (nI qq &&& 31) else 0) j) → N + 1 ≤ j + f → ∀ (H : Heap) (locs : List Loc), zI G x A s.heap H locs → ∀ ls : Array Slot, lv_has ls 3 [(0, .ref (za G 1)), (1, .int a), (2, .int (nI j))] → W p l e { frames := 2, cells := 0, slots := 0, locals := 45 } s m ([.ref (za G 1)] : List Value).toArray below meth c H locs 0 0 (MQ below (va_Qi (fun (r : Int32) (u : zX) => x = u ∧ zors (fun qq => if zsum (fun k => if ¬ (nI qq) < 0 ∧ x.1 5 k = (nI qq) then 1 else 0) N = 0 then nI 1 <<< (nI qq &&& 31) else 0) N = r) (fun u t => zJ G u A t.heap) A) ([.ref (za G 1)] : List Value).toArray s 0 0 A) (F0 m 4 ls []) := by
    intro f
    induction f with
    | zero =>
      intro j a h1 h2 hf
      exact absurd hf (by omega)
    | succ f ih =>
      intro j a h1 h2 hf H locs hI ls hl
      have ih4 := ih
      refine lv_iload_n hx hb dX7_aloneBits_4 rfl (lv_at hl 2 rfl) ?_
      refine lv_aload_n hx hb dX7_aloneBits_5 rfl (lv_at hl 0 rfl) ?_
      refine z_get (C := RX7) (T := TX7) (N := 7) (ci := 7) (v := .int (nI N)) hx hb hts hin7 hown hK hI (zo1 hG) rfl 3 (by decide) wF28 (fun _ h9 => h9) (congrArg (fun q => some (Value.int q)) hn.2.1) dX7_aloneBits_6 ?_
      refine lv_icmp_ge (tgt := 32) hx hb dX7_aloneBits_9 (by decide) (fun c_9 => ?_) (fun c_9 => ?_)
      · skip
        rw [zqG (by omega) (by omega)] at c_9
        refine lv_iload_n hx hb dX7_aloneBits_32 rfl (lv_at hl 1 rfl) ?_
        exact z_iret hx hb hr hlocks hI (⟨rfl, by rw [h2, show j = N by omega]⟩) dX7_aloneBits_33
      · skip
        rw [zqG (by omega) (by omega)] at c_9
        refine lv_aload_n hx hb dX7_aloneBits_12 rfl (lv_at hl 0 rfl) ?_
        refine lv_iload_n hx hb dX7_aloneBits_13 rfl (lv_at hl 2 rfl) ?_
        refine z_calli (va_runV (As := [.int (nI j)]) (rest := []) ⟨hx, hb, hml, hown, hts⟩ ((c_X7_namersOf l hG x N (nI j) hn) A) (cwV 1 hts gX7_aloneBits_X7_namersOf rfl rfl rfl (by decide +kernel) ⟨Nat.le_of_ble_eq_true rfl, Nat.le_of_ble_eq_true rfl⟩) (z_pV hI hK hN (z_recv hK hI (zo1 hG) rfl)) rfl rfl hl.1 rfl (lv_room (Nat.le_of_ble_eq_true rfl)) dX7_aloneBits_14 ⟨Nat.zero_le _, Nat.zero_le _⟩) hI (fun r_14 u H locs hw hI => ?_)
        obtain ⟨rfl, rfl⟩ := hw
        refine lv_if_ne (tgt := 26) hx hb dX7_aloneBits_17 (by decide) (fun c_17 => ?_) (fun c_17 => ?_)
        · skip
          refine lv_iinc (v := (nI (j + 1))) (lv' := [(2, .int (nI (j + 1))), (0, .ref (za G 1)), (1, .int a)]) hx hb dX7_aloneBits_26 hl (k := 2) rfl (zinc j) (by decide) rfl (fun ls hl => ?_)
          refine lv_goto (tgt := 4) hx hb dX7_aloneBits_29 (by decide) ?_
          exact ih4 (j + 1) a (by omega) (zors_f h2 (if_neg c_17)) (by omega) _ _ hI ls (lv_sub hl [1, 2, 0] rfl)
        · skip
          refine lv_iload_n hx hb dX7_aloneBits_20 rfl (lv_at hl 1 rfl) ?_
          refine lv_iconst (v := (nI 1)) hx hb dX7_aloneBits_21 rfl ?_
          refine lv_iload_n hx hb dX7_aloneBits_22 rfl (lv_at hl 2 rfl) ?_
          refine lv_ishl hx hb dX7_aloneBits_23 ?_
          refine lv_ior hx hb dX7_aloneBits_24 ?_
          refine lv_istore_n (lv' := [(1, .int (a ||| ((nI 1) <<< ((nI j) &&& 31)))), (0, .ref (za G 1)), (2, .int (nI j))]) hx hb dX7_aloneBits_25 rfl hl (by decide) rfl (fun ls hl => ?_)
          refine lv_iinc (v := (nI (j + 1))) (lv' := [(2, .int (nI (j + 1))), (1, .int (a ||| ((nI 1) <<< ((nI j) &&& 31)))), (0, .ref (za G 1))]) hx hb dX7_aloneBits_26 hl (k := 2) rfl (zinc j) (by decide) rfl (fun ls hl => ?_)
          refine lv_goto (tgt := 4) hx hb dX7_aloneBits_29 (by decide) ?_
          exact ih4 (j + 1) (a ||| ((nI 1) <<< ((nI j) &&& 31))) (by omega) (zors_t h2 (if_pos c_17)) (by omega) _ _ hI ls (lv_sub hl [2, 1, 0] rfl)
  exact L4 (N + 1) 0 (nI 0) (by omega) rfl (by omega) _ _ hI ls (lv_sub hl [2, 1, 0] rfl)
set_option maxHeartbeats 4000000 in
set_option maxRecDepth 100000 in
theorem c_X7_besideOf (l : Launch) {G : zG} (hG : zOK G) (x : zX) (q t : Nat) (ht : t < 8) (hs : zfind (x.1 4) (nI q) 0 8 = nI t) : zMi l yX7_besideOf wsX7_besideOf { frames := 1, cells := 0, slots := 0, locals := 22 } G [.ref (za G 1), .int (nI q)] x (fun (r : Int32) (u : zX) => x = u ∧ x.1 4 (t ^^^ 1) = r) := by
  intro A
  refine zBody (cc := cX7_besideOf) (maxL := 4) (ret := (some .int)) (by decide) rfl (Nat.le_of_ble_eq_true rfl) ?_
  intro p e s m below meth c hx hb hml hown hts hr hlocks hK hN hI ls hl
  have hown : s.vm.findClass RX7 = some m.cls := hown
  have hl : lv_has ls 4 [(0, .ref (za G 1)), (1, .int (nI q))] := hl
  have hin7 : ∀ w ∈ wsX70, w ∈ wsX7_besideOf := (fun _ h => List.mem_cons_of_mem _ (List.mem_append_right _ (h)))
  have wF17 := hts (.fieldLink RX7 17 "WhoSitsBy$Standing" "sitters" "[I") (z_mem 1 rfl)
  have hz := zxor8 ht
  refine lv_aload_n hx hb dX7_besideOf_0 rfl (lv_at hl 0 rfl) ?_
  refine z_get (C := RX7) (T := TX7) (N := 7) (ci := 7) (v := .ref (za G 4)) hx hb hts hin7 hown hK hI (zo1 hG) rfl 1 (by decide) wF17 (fun _ h9 => h9) rfl dX7_besideOf_1 ?_
  refine lv_iload_n hx hb dX7_besideOf_4 rfl (lv_at hl 1 rfl) ?_
  refine z_calli (va_runSN (As := [.ref (za G 4), .int (nI q)]) (rest := []) ⟨hx, hb, hml, hown, hts⟩ ((c_X11_seatIn l hG x 4 (nI q) (zo4 hG)) A) ⟨va_cnB 2 hts gX7_besideOf_X11_seatIn_n38 rfl rfl rfl (hN.1 _ (z_mem 0 rfl)) (hts (.initialized RX11) (z_mem 3 rfl)) (by decide +kernel) ⟨Nat.le_of_ble_eq_true rfl, Nat.le_of_ble_eq_true rfl⟩, hts (.static yX11_seatIn) (z_mem 2 rfl), trivial⟩ (z_pS hI hK hN) rfl rfl hl.1 rfl (lv_room (Nat.le_of_ble_eq_true rfl)) dX7_besideOf_5 ⟨Nat.zero_le _, Nat.zero_le _⟩) hI (fun r_5 u H locs hw hI => ?_)
  obtain ⟨rfl, rfl⟩ := hw
  rw [hs]
  refine lv_istore_n (lv' := [(2, .int (nI t)), (0, .ref (za G 1)), (1, .int (nI q))]) hx hb dX7_besideOf_8 rfl hl (by decide) rfl (fun ls hl => ?_)
  refine lv_iload_n hx hb dX7_besideOf_9 rfl (lv_at hl 0 rfl) ?_
  refine lv_iconst (v := (nI 1)) hx hb dX7_besideOf_10 rfl ?_
  refine z_ixor (v := (nI (t ^^^ 1))) hx hb (zxor1 ht) dX7_besideOf_11 ?_
  refine lv_istore_n (lv' := [(3, .int (nI (t ^^^ 1))), (2, .int (nI t)), (0, .ref (za G 1)), (1, .int (nI q))]) hx hb dX7_besideOf_12 rfl hl (by decide) rfl (fun ls hl => ?_)
  refine lv_iload_n hx hb dX7_besideOf_13 rfl (lv_at hl 1 rfl) ?_
  refine lv_if_lt (tgt := 36) hx hb dX7_besideOf_14 (by decide) (fun c_14 => ?_) (fun c_14 => ?_)
  · skip
    rw [show (0 : Int32) = nI 0 from rfl] at c_14; rw [zqL (by omega) (by omega)] at c_14
    exact absurd c_14 (by omega)
  · skip
    rw [show (0 : Int32) = nI 0 from rfl] at c_14; rw [zqL (by omega) (by omega)] at c_14
    refine lv_iload_n hx hb dX7_besideOf_17 rfl (lv_at hl 0 rfl) ?_
    refine lv_if_lt (tgt := 36) hx hb dX7_besideOf_18 (by decide) (fun c_18 => ?_) (fun c_18 => ?_)
    · skip
      rw [show (0 : Int32) = nI 0 from rfl] at c_18; rw [zqL (by omega) (by omega)] at c_18
      exact absurd c_18 (by omega)
    · skip
      rw [show (0 : Int32) = nI 0 from rfl] at c_18; rw [zqL (by omega) (by omega)] at c_18
      refine lv_iload_n hx hb dX7_besideOf_21 rfl (lv_at hl 0 rfl) ?_
      refine lv_bipush (v := (nI 8)) hx hb dX7_besideOf_22 rfl ?_
      refine lv_icmp_ge (tgt := 36) hx hb dX7_besideOf_24 (by decide) (fun c_24 => ?_) (fun c_24 => ?_)
      · skip
        rw [zqG (by omega) (by omega)] at c_24
        exact absurd c_24 (by have := zxor8 ht; omega)
      · skip
        rw [zqG (by omega) (by omega)] at c_24
        refine lv_aload_n hx hb dX7_besideOf_27 rfl (lv_at hl 2 rfl) ?_
        refine z_get (C := RX7) (T := TX7) (N := 7) (ci := 7) (v := .ref (za G 4)) hx hb hts hin7 hown hK hI (zo1 hG) rfl 1 (by decide) wF17 (fun _ h9 => h9) rfl dX7_besideOf_28 ?_
        refine lv_iload_n hx hb dX7_besideOf_31 rfl (lv_at hl 0 rfl) ?_
        refine z_iald (v := (x.1 4 (t ^^^ 1))) hx hb hK hI (zo4 hG) (t ^^^ 1) rfl (zxor8 ht) (by decide) rfl dX7_besideOf_32 ?_
        refine lv_goto (tgt := 37) hx hb dX7_besideOf_33 (by decide) ?_
        exact z_iret hx hb hr hlocks hI (⟨rfl, rfl⟩) dX7_besideOf_37
set_option maxHeartbeats 4000000 in
set_option maxRecDepth 100000 in
theorem c_X7_talksOf (l : Launch) {G : zG} (hG : zOK G) (x : zX) (N q : Nat) (hn : zNow G x N) (hq : q < N) : zMi l yX7_talksOf wsX7_talksOf { frames := 1, cells := 0, slots := 0, locals := 21 } G [.ref (za G 1), .int (nI q)] x (fun (r : Int32) (u : zX) => x = u ∧ x.1 (zob x q) 2 = r) := by
  intro A
  refine zBody (cc := cX7_talksOf) (maxL := 3) (ret := (some .int)) (by decide) rfl (Nat.le_of_ble_eq_true rfl) ?_
  intro p e s m below meth c hx hb hml hown hts hr hlocks hK hN hI ls hl
  have hown : s.vm.findClass RX7 = some m.cls := hown
  have hl : lv_has ls 3 [(0, .ref (za G 1)), (1, .int (nI q))] := hl
  have hin0 : ∀ w ∈ wsX00, w ∈ wsX7_talksOf := (fun _ h => List.mem_cons_of_mem _ (List.mem_append_left _ (List.mem_append_left _ (List.mem_append_left _ (List.mem_append_left _ (List.mem_append_left _ (List.mem_append_left _ (List.mem_append_left _ (List.mem_append_right _ (h))))))))))
  have hin1 : ∀ w ∈ wsX10, w ∈ wsX7_talksOf := (fun _ h => List.mem_cons_of_mem _ (List.mem_append_left _ (List.mem_append_left _ (List.mem_append_left _ (List.mem_append_left _ (List.mem_append_left _ (List.mem_append_left _ (List.mem_append_right _ (h)))))))))
  have hin2 : ∀ w ∈ wsX20, w ∈ wsX7_talksOf := (fun _ h => List.mem_cons_of_mem _ (List.mem_append_left _ (List.mem_append_left _ (List.mem_append_left _ (List.mem_append_left _ (List.mem_append_left _ (List.mem_append_right _ (h))))))))
  have hin3 : ∀ w ∈ wsX30, w ∈ wsX7_talksOf := (fun _ h => List.mem_cons_of_mem _ (List.mem_append_left _ (List.mem_append_left _ (List.mem_append_left _ (List.mem_append_left _ (List.mem_append_right _ (h)))))))
  have hin4 : ∀ w ∈ wsX40, w ∈ wsX7_talksOf := (fun _ h => List.mem_cons_of_mem _ (List.mem_append_left _ (List.mem_append_left _ (List.mem_append_left _ (List.mem_append_right _ (h))))))
  have hin8 : ∀ w ∈ wsX80, w ∈ wsX7_talksOf := (fun _ h => List.mem_cons_of_mem _ (List.mem_append_left _ (List.mem_append_left _ (List.mem_append_right _ (h)))))
  have hin10 : ∀ w ∈ wsX100, w ∈ wsX7_talksOf := (fun _ h => List.mem_cons_of_mem _ (List.mem_append_left _ (List.mem_append_right _ (h))))
  have wF96 := hts (.fieldLink RX7 96 "WhoSitsBy$Pupil" "talkative" "I") (z_mem 1 rfl)
  refine lv_aload_n hx hb dX7_talksOf_0 rfl (lv_at hl 0 rfl) ?_
  refine lv_iload_n hx hb dX7_talksOf_1 rfl (lv_at hl 1 rfl) ?_
  refine z_callq (va_runV (As := [.int (nI q)]) (rest := []) ⟨hx, hb, hml, hown, hts⟩ ((c_X7_at l hG x N (nI q) hn) A) (cwV 1 hts gX7_talksOf_X7_at rfl rfl rfl (by decide +kernel) ⟨Nat.le_of_ble_eq_true rfl, Nat.le_of_ble_eq_true rfl⟩) (z_pV hI hK hN (z_recv hK hI (zo1 hG) rfl)) rfl rfl hl.1 rfl (lv_room (Nat.le_of_ble_eq_true rfl)) dX7_talksOf_2 ⟨Nat.zero_le _, Nat.zero_le _⟩) hI (fun r_2 u H locs hw hI => ?_)
  obtain ⟨rfl, rfl⟩ := hw
  rw [show (zat x N (nI q)) = some (zob x q) from zat_in hn hq]
  refine lv_astore_n (lv' := [(2, .ref (za G (zob x q))), (0, .ref (za G 1)), (1, .int (nI q))]) hx hb dX7_talksOf_5 rfl hl (by decide) rfl (fun ls hl => ?_)
  refine lv_aload_n hx hb dX7_talksOf_6 rfl (lv_at hl 0 rfl) ?_
  refine lv_ifnonnull (tgt := 14) hx hb dX7_talksOf_7 (by decide) ?_
  refine lv_aload_n hx hb dX7_talksOf_14 rfl (lv_at hl 0 rfl) ?_
  refine z_getP hx hb hts ⟨hin0, hin1, hin2, hin3, hin4, hin8, hin10⟩ hown hK hG hI (hn.2.2.1 q hq).2.1 (hn.2.2.1 q hq).2.2.1 2 (by decide) wF96 (fun _ h9 => h9) dX7_talksOf_15 ?_
  exact z_iret hx hb hr hlocks hI (⟨rfl, rfl⟩) dX7_talksOf_18
set_option maxHeartbeats 4000000 in
set_option maxRecDepth 100000 in
theorem c_X7_loudness (l : Launch) {G : zG} (hG : zOK G) (x : zX) (N : Nat) (b : Int32) (hn : zNow G x N) : zMi l yX7_loudness wsX7_loudness { frames := 2, cells := 0, slots := 0, locals := 43 } G [.ref (za G 1), .int b] x (fun (r : Int32) (u : zX) => x = u ∧ zsum (fun qq => if zbit b (nI qq) then x.1 (zob x qq) 2 else 0) N = r) := by
  intro A
  refine zBody (cc := cX7_loudness) (maxL := 4) (ret := (some .int)) (by decide) rfl (Nat.le_of_ble_eq_true rfl) ?_
  intro p e s m below meth c hx hb hml hown hts hr hlocks hK hN hI ls hl
  have hown : s.vm.findClass RX7 = some m.cls := hown
  have hl : lv_has ls 4 [(0, .ref (za G 1)), (1, .int b)] := hl
  have hin7 : ∀ w ∈ wsX70, w ∈ wsX7_loudness := (fun _ h => List.mem_cons_of_mem _ (List.mem_append_left _ (List.mem_append_left _ (List.mem_append_left _ (List.mem_append_left _ (List.mem_append_left _ (List.mem_append_left _ (List.mem_append_left _ (List.mem_append_right _ (h))))))))))
  have wF28 := hts (.fieldLink RX7 28 "WhoSitsBy$Standing" "size" "I") (z_mem 1 rfl)
  have h8 := hn.1
  refine lv_iconst (v := (nI 0)) hx hb dX7_loudness_0 rfl ?_
  refine lv_istore_n (lv' := [(2, .int (nI 0)), (0, .ref (za G 1)), (1, .int b)]) hx hb dX7_loudness_1 rfl hl (by decide) rfl (fun ls hl => ?_)
  refine lv_iconst (v := (nI 0)) hx hb dX7_loudness_2 rfl ?_
  refine lv_istore_n (lv' := [(3, .int (nI 0)), (2, .int (nI 0)), (0, .ref (za G 1)), (1, .int b)]) hx hb dX7_loudness_3 rfl hl (by decide) rfl (fun ls hl => ?_)
  have L4 : ∀ (f : Nat) (j : Nat) (a : Int32), (j ≤ N) → (a = zsum (fun qq => if zbit b (nI qq) then x.1 (zob x qq) 2 else 0) j) → N + 1 ≤ j + f → ∀ (H : Heap) (locs : List Loc), zI G x A s.heap H locs → ∀ ls : Array Slot, lv_has ls 4 [(0, .ref (za G 1)), (1, .int b), (2, .int a), (3, .int (nI j))] → W p l e { frames := 2, cells := 0, slots := 0, locals := 43 } s m ([.ref (za G 1), .int b] : List Value).toArray below meth c H locs 0 0 (MQ below (va_Qi (fun (r : Int32) (u : zX) => x = u ∧ zsum (fun qq => if zbit b (nI qq) then x.1 (zob x qq) 2 else 0) N = r) (fun u t => zJ G u A t.heap) A) ([.ref (za G 1), .int b] : List Value).toArray s 0 0 A) (F0 m 4 ls []) := by
    intro f
    induction f with
    | zero =>
      intro j a h1 h2 hf
      exact absurd hf (by omega)
    | succ f ih =>
      intro j a h1 h2 hf H locs hI ls hl
      have ih4 := ih
      refine lv_iload_n hx hb dX7_loudness_4 rfl (lv_at hl 3 rfl) ?_
      refine lv_aload_n hx hb dX7_loudness_5 rfl (lv_at hl 0 rfl) ?_
      refine z_get (C := RX7) (T := TX7) (N := 7) (ci := 7) (v := .int (nI N)) hx hb hts hin7 hown hK hI (zo1 hG) rfl 3 (by decide) wF28 (fun _ h9 => h9) (congrArg (fun q => some (Value.int q)) hn.2.1) dX7_loudness_6 ?_
      refine lv_icmp_ge (tgt := 34) hx hb dX7_loudness_9 (by decide) (fun c_9 => ?_) (fun c_9 => ?_)
      · skip
        rw [zqG (by omega) (by omega)] at c_9
        refine lv_iload_n hx hb dX7_loudness_34 rfl (lv_at hl 2 rfl) ?_
        exact z_iret hx hb hr hlocks hI (⟨rfl, by rw [h2, show j = N by omega]⟩) dX7_loudness_35
      · skip
        rw [zqG (by omega) (by omega)] at c_9
        refine lv_iload_n hx hb dX7_loudness_12 rfl (lv_at hl 1 rfl) ?_
        refine lv_iload_n hx hb dX7_loudness_13 rfl (lv_at hl 3 rfl) ?_
        refine z_calli (va_runSN (As := [.int b, .int (nI j)]) (rest := []) ⟨hx, hb, hml, hown, hts⟩ ((c_X11_hasBit l hG x b (nI j)) A) ⟨va_cnB 2 hts gX7_loudness_X11_hasBit_n42 rfl rfl rfl (hN.1 _ (z_mem 1 rfl)) (hts (.initialized RX11) (z_mem 3 rfl)) (by decide +kernel) ⟨Nat.le_of_ble_eq_true rfl, Nat.le_of_ble_eq_true rfl⟩, hts (.static yX11_hasBit) (z_mem 2 rfl), trivial⟩ (z_pS hI hK hN) rfl rfl hl.1 rfl (lv_room (Nat.le_of_ble_eq_true rfl)) dX7_loudness_14 ⟨Nat.zero_le _, Nat.zero_le _⟩) hI (fun r_14 u H locs hw hI => ?_)
        obtain ⟨rfl, rfl⟩ := hw
        refine lv_if_eq (tgt := 28) hx hb dX7_loudness_17 (by decide) (fun c_17 => ?_) (fun c_17 => ?_)
        · skip
          rw [zb_0] at c_17
          refine lv_iinc (v := (nI (j + 1))) (lv' := [(3, .int (nI (j + 1))), (0, .ref (za G 1)), (1, .int b), (2, .int a)]) hx hb dX7_loudness_28 hl (k := 3) rfl (zinc j) (by decide) rfl (fun ls hl => ?_)
          refine lv_goto (tgt := 4) hx hb dX7_loudness_31 (by decide) ?_
          exact ih4 (j + 1) a (by omega) (zsum_f h2 (if_neg c_17)) (by omega) _ _ hI ls (lv_sub hl [1, 2, 3, 0] rfl)
        · skip
          rw [zb_0, Classical.not_not] at c_17
          refine lv_iload_n hx hb dX7_loudness_20 rfl (lv_at hl 2 rfl) ?_
          refine lv_aload_n hx hb dX7_loudness_21 rfl (lv_at hl 0 rfl) ?_
          refine lv_iload_n hx hb dX7_loudness_22 rfl (lv_at hl 3 rfl) ?_
          refine z_calli (va_runV (As := [.int (nI j)]) (rest := [.int a]) ⟨hx, hb, hml, hown, hts⟩ ((c_X7_talksOf l hG x N j hn (by omega)) A) (cwV 1 hts gX7_loudness_X7_talksOf rfl rfl rfl (by decide +kernel) ⟨Nat.le_of_ble_eq_true rfl, Nat.le_of_ble_eq_true rfl⟩) (z_pV hI hK hN (z_recv hK hI (zo1 hG) rfl)) rfl rfl hl.1 rfl (lv_room (Nat.le_of_ble_eq_true rfl)) dX7_loudness_23 ⟨Nat.zero_le _, Nat.zero_le _⟩) hI (fun r_23 u H locs hw hI => ?_)
          obtain ⟨rfl, rfl⟩ := hw
          refine lv_iadd hx hb dX7_loudness_26 ?_
          refine lv_istore_n (lv' := [(2, .int (a + (x.1 (zob x j) 2))), (0, .ref (za G 1)), (1, .int b), (3, .int (nI j))]) hx hb dX7_loudness_27 rfl hl (by decide) rfl (fun ls hl => ?_)
          refine lv_iinc (v := (nI (j + 1))) (lv' := [(3, .int (nI (j + 1))), (2, .int (a + (x.1 (zob x j) 2))), (0, .ref (za G 1)), (1, .int b)]) hx hb dX7_loudness_28 hl (k := 3) rfl (zinc j) (by decide) rfl (fun ls hl => ?_)
          refine lv_goto (tgt := 4) hx hb dX7_loudness_31 (by decide) ?_
          exact ih4 (j + 1) (a + (x.1 (zob x j) 2)) (by omega) (zsum_t h2 (if_pos c_17)) (by omega) _ _ hI ls (lv_sub hl [2, 3, 1, 0] rfl)
  exact L4 (N + 1) 0 (nI 0) (by omega) rfl (by omega) _ _ hI ls (lv_sub hl [2, 3, 1, 0] rfl)
set_option maxHeartbeats 4000000 in
set_option maxRecDepth 100000 in
theorem c_X7_pairsOf (l : Launch) {G : zG} (hG : zOK G) (x : zX) (i : Nat) (ha : zIA G i 8) : zMl l yX7_pairsOf wsX7_pairsOf { frames := 1, cells := 0, slots := 0, locals := 40 } G [.ref (za G i)] x (fun (r : Int64) (u : zX) => x = u ∧ zpairs (x.1 i) = r) := by
  intro A
  refine zBody (cc := cX7_pairsOf) (maxL := 6) (ret := (some .long)) (by decide) rfl (Nat.le_of_ble_eq_true rfl) ?_
  intro p e s m below meth c hx hb hml hown hts hr hlocks hK hN hI ls hl
  have hown : s.vm.findClass RX7 = some m.cls := hown
  have hl : lv_has ls 6 [(0, .ref (za G i))] := hl
  have wM80 := hts (.methodLink RX7 80 Lib.Math.min.name) (z_mem 1 rfl)
  have wMs80 := hts (.static Lib.Math.min.name) (z_mem 2 rfl)
  have wMi := hts (.initialized "java/lang/Math") (z_mem 3 rfl)
  have wMc80 := hts (.code Lib.Math.min.name Lib.Math.min.code 2 (some .int)) (z_mem 4 rfl)
  have wM86 := hts (.methodLink RX7 86 Lib.Math.max.name) (z_mem 5 rfl)
  have wMs86 := hts (.static Lib.Math.max.name) (z_mem 6 rfl)
  have wMc86 := hts (.code Lib.Math.max.name Lib.Math.max.code 2 (some .int)) (z_mem 7 rfl)
  refine lv_lconst (v := 0) hx hb dX7_pairsOf_0 rfl ?_
  refine lv_lstore_n (lv' := [(1, .long 0), (0, .ref (za G i))]) hx hb dX7_pairsOf_1 rfl hl (by decide) rfl (fun ls hl => ?_)
  refine lv_iconst (v := (nI 0)) hx hb dX7_pairsOf_2 rfl ?_
  refine lv_istore_n (lv' := [(3, .int (nI 0)), (1, .long 0), (0, .ref (za G i))]) hx hb dX7_pairsOf_3 rfl hl (by decide) rfl (fun ls hl => ?_)
  have L4 : ∀ (f : Nat) (j : Nat) (d : Nat) (a : Int64), (j = 2 * d) → (d ≤ 4) → (a = zorl (fun d => zpair (x.1 i (2 * d)) (x.1 i (2 * d + 1))) d) → 5 ≤ d + f → ∀ (H : Heap) (locs : List Loc), zI G x A s.heap H locs → ∀ ls : Array Slot, lv_has ls 6 [(0, .ref (za G i)), (1, .long a), (3, .int (nI j))] → W p l e { frames := 1, cells := 0, slots := 0, locals := 40 } s m ([.ref (za G i)] : List Value).toArray below meth c H locs 0 0 (MQ below (va_Ql (fun (r : Int64) (u : zX) => x = u ∧ zpairs (x.1 i) = r) (fun u t => zJ G u A t.heap) A) ([.ref (za G i)] : List Value).toArray s 0 0 A) (F0 m 4 ls []) := by
    intro f
    induction f with
    | zero =>
      intro j d a h0 h1 h2 hf
      exact absurd hf (by omega)
    | succ f ih =>
      intro j d a h0 h1 h2 hf H locs hI ls hl
      have ih4 := ih
      refine lv_iload_n hx hb dX7_pairsOf_4 rfl (lv_at hl 2 rfl) ?_
      refine lv_iconst (v := (nI 1)) hx hb dX7_pairsOf_5 rfl ?_
      refine z_iadd (v := (nI (j + 1))) hx hb (nI_add _ _) dX7_pairsOf_6 ?_
      refine lv_aload_n hx hb dX7_pairsOf_7 rfl (lv_at hl 0 rfl) ?_
      refine z_alen (v := nI 8) hx hb hK hI 0 ha.1 (ha.2 _) rfl rfl dX7_pairsOf_8 ?_
      refine lv_icmp_ge (tgt := 62) hx hb dX7_pairsOf_9 (by decide) (fun c_9 => ?_) (fun c_9 => ?_)
      · skip
        rw [zqG (by omega) (by omega)] at c_9
        refine lv_lload_n hx hb dX7_pairsOf_62 rfl (lv_at hl 1 rfl) ?_
        exact z_lret hx hb hr hlocks hI (⟨rfl, by rw [h2, show d = 4 by omega]; rfl⟩) dX7_pairsOf_63
      · skip
        rw [zqG (by omega) (by omega)] at c_9
        refine lv_aload_n hx hb dX7_pairsOf_12 rfl (lv_at hl 0 rfl) ?_
        refine lv_iload_n hx hb dX7_pairsOf_13 rfl (lv_at hl 2 rfl) ?_
        refine z_iald (v := (x.1 i j)) hx hb hK hI ha j rfl (by omega) (by decide) rfl dX7_pairsOf_14 ?_
        refine lv_aload_n hx hb dX7_pairsOf_15 rfl (lv_at hl 0 rfl) ?_
        refine lv_iload_n hx hb dX7_pairsOf_16 rfl (lv_at hl 2 rfl) ?_
        refine lv_iconst (v := (nI 1)) hx hb dX7_pairsOf_17 rfl ?_
        refine z_iadd (v := (nI (j + 1))) hx hb (nI_add _ _) dX7_pairsOf_18 ?_
        refine z_iald (v := (x.1 i (j + 1))) hx hb hK hI ha (j + 1) rfl (by omega) (by decide) rfl dX7_pairsOf_19 ?_
        refine va_mmin hx hb (hml.trans hl.1.symm) hown wM80 wMs80 wMi wMc80 (Nat.le_of_ble_eq_true rfl) (Nat.le_of_ble_eq_true rfl) (Nat.zero_le _) (Nat.zero_le _) dX7_pairsOf_20 ?_
        refine lv_istore (lv' := [(4, .int (if (x.1 i (j + 1)) < (x.1 i j) then (x.1 i (j + 1)) else (x.1 i j))), (0, .ref (za G i)), (1, .long a), (3, .int (nI j))]) hx hb dX7_pairsOf_23 hl (by decide) rfl (fun ls hl => ?_)
        refine lv_aload_n hx hb dX7_pairsOf_25 rfl (lv_at hl 1 rfl) ?_
        refine lv_iload_n hx hb dX7_pairsOf_26 rfl (lv_at hl 3 rfl) ?_
        refine z_iald (v := (x.1 i j)) hx hb hK hI ha j rfl (by omega) (by decide) rfl dX7_pairsOf_27 ?_
        refine lv_aload_n hx hb dX7_pairsOf_28 rfl (lv_at hl 1 rfl) ?_
        refine lv_iload_n hx hb dX7_pairsOf_29 rfl (lv_at hl 3 rfl) ?_
        refine lv_iconst (v := (nI 1)) hx hb dX7_pairsOf_30 rfl ?_
        refine z_iadd (v := (nI (j + 1))) hx hb (nI_add _ _) dX7_pairsOf_31 ?_
        refine z_iald (v := (x.1 i (j + 1))) hx hb hK hI ha (j + 1) rfl (by omega) (by decide) rfl dX7_pairsOf_32 ?_
        refine va_mmax hx hb (hml.trans hl.1.symm) hown wM86 wMs86 wMi wMc86 (Nat.le_of_ble_eq_true rfl) (Nat.le_of_ble_eq_true rfl) (Nat.zero_le _) (Nat.zero_le _) dX7_pairsOf_33 ?_
        refine lv_istore (lv' := [(5, .int (if (x.1 i j) < (x.1 i (j + 1)) then (x.1 i (j + 1)) else (x.1 i j))), (4, .int (if (x.1 i (j + 1)) < (x.1 i j) then (x.1 i (j + 1)) else (x.1 i j))), (0, .ref (za G i)), (1, .long a), (3, .int (nI j))]) hx hb dX7_pairsOf_36 hl (by decide) rfl (fun ls hl => ?_)
        refine lv_iload hx hb dX7_pairsOf_38 (lv_at hl 1 rfl) ?_
        refine lv_if_lt (tgt := 56) hx hb dX7_pairsOf_40 (by decide) (fun c_40 => ?_) (fun c_40 => ?_)
        · skip
          refine lv_iinc (v := (nI (j + 2))) (lv' := [(3, .int (nI (j + 2))), (5, .int (if (x.1 i j) < (x.1 i (j + 1)) then (x.1 i (j + 1)) else (x.1 i j))), (4, .int (if (x.1 i (j + 1)) < (x.1 i j) then (x.1 i (j + 1)) else (x.1 i j))), (0, .ref (za G i)), (1, .long a)]) hx hb dX7_pairsOf_56 hl (k := 4) rfl (zincN j 2) (by decide) rfl (fun ls hl => ?_)
          refine lv_goto (tgt := 4) hx hb dX7_pairsOf_59 (by decide) ?_
          exact ih4 (j + 2) (d + 1) a (by omega) (by omega) (zorl_f h2 (by subst h0; unfold zpair; exact if_pos c_40)) (by omega) _ _ hI ls (lv_sub hl [3, 4, 0] rfl)
        · skip
          refine lv_lload_n hx hb dX7_pairsOf_43 rfl (lv_at hl 3 rfl) ?_
          refine lv_lconst (v := 1) hx hb dX7_pairsOf_44 rfl ?_
          refine lv_bipush (v := (nI 8)) hx hb dX7_pairsOf_45 rfl ?_
          refine lv_iload hx hb dX7_pairsOf_47 (lv_at hl 1 rfl) ?_
          refine lv_imul hx hb dX7_pairsOf_49 ?_
          refine lv_iload hx hb dX7_pairsOf_50 (lv_at hl 0 rfl) ?_
          refine lv_iadd hx hb dX7_pairsOf_52 ?_
          refine lv_lshl hx hb dX7_pairsOf_53 rfl ?_
          refine lv_lor hx hb dX7_pairsOf_54 ?_
          refine lv_lstore_n (lv' := [(1, .long (a ||| (1 <<< ((((nI 8) * (if (x.1 i (j + 1)) < (x.1 i j) then (x.1 i (j + 1)) else (x.1 i j))) + (if (x.1 i j) < (x.1 i (j + 1)) then (x.1 i (j + 1)) else (x.1 i j))).toInt64 &&& 63)))), (5, .int (if (x.1 i j) < (x.1 i (j + 1)) then (x.1 i (j + 1)) else (x.1 i j))), (4, .int (if (x.1 i (j + 1)) < (x.1 i j) then (x.1 i (j + 1)) else (x.1 i j))), (0, .ref (za G i)), (3, .int (nI j))]) hx hb dX7_pairsOf_55 rfl hl (by decide) rfl (fun ls hl => ?_)
          refine lv_iinc (v := (nI (j + 2))) (lv' := [(3, .int (nI (j + 2))), (1, .long (a ||| (1 <<< ((((nI 8) * (if (x.1 i (j + 1)) < (x.1 i j) then (x.1 i (j + 1)) else (x.1 i j))) + (if (x.1 i j) < (x.1 i (j + 1)) then (x.1 i (j + 1)) else (x.1 i j))).toInt64 &&& 63)))), (5, .int (if (x.1 i j) < (x.1 i (j + 1)) then (x.1 i (j + 1)) else (x.1 i j))), (4, .int (if (x.1 i (j + 1)) < (x.1 i j) then (x.1 i (j + 1)) else (x.1 i j))), (0, .ref (za G i))]) hx hb dX7_pairsOf_56 hl (k := 4) rfl (zincN j 2) (by decide) rfl (fun ls hl => ?_)
          refine lv_goto (tgt := 4) hx hb dX7_pairsOf_59 (by decide) ?_
          exact ih4 (j + 2) (d + 1) (a ||| (1 <<< ((((nI 8) * (if (x.1 i (j + 1)) < (x.1 i j) then (x.1 i (j + 1)) else (x.1 i j))) + (if (x.1 i j) < (x.1 i (j + 1)) then (x.1 i (j + 1)) else (x.1 i j))).toInt64 &&& 63))) (by omega) (by omega) (zorl_t h2 (by subst h0; unfold zpair; exact if_neg c_40)) (by omega) _ _ hI ls (lv_sub hl [4, 1, 0] rfl)
  exact L4 (5) 0 0 0 (by omega) (by omega) rfl (by omega) _ _ hI ls (lv_sub hl [2, 1, 0] rfl)
