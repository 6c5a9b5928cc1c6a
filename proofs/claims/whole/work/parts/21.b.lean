set_option maxHeartbeats 4000000 in
set_option maxRecDepth 100000 in
theorem c_X0_kind (l : Launch) {G : zG} (hG : zOK G) (x : zX) (i : Nat) (hp1 : 112 ≤ i) (hp2 : i < zn G) : zMi l yX0_kind wsX0_kind { frames := 0, cells := 0, slots := 0, locals := 0 } G [.ref (za G i)] x (fun (r : Int32) (u : zX) => x = u ∧ nI 5 = r) := by
  intro A
  refine zBody (cc := cX0_kind) (maxL := 1) (ret := (some .int)) (by decide) rfl (Nat.le_of_ble_eq_true rfl) ?_
  intro p e s m below meth c hx hb hml hown hts hr hlocks hK hN hI ls hl
  have hown : s.vm.findClass RX0 = some m.cls := hown
  have hl : lv_has ls 1 [(0, .ref (za G i))] := hl
  refine lv_iconst (v := (nI 5)) hx hb dX0_kind_0 rfl ?_
  exact z_iret hx hb hr hlocks hI (⟨rfl, rfl⟩) dX0_kind_1
set_option maxHeartbeats 4000000 in
set_option maxRecDepth 100000 in
theorem c_X1_kind (l : Launch) {G : zG} (hG : zOK G) (x : zX) (i : Nat) (hp1 : 112 ≤ i) (hp2 : i < zn G) : zMi l yX1_kind wsX1_kind { frames := 0, cells := 0, slots := 0, locals := 0 } G [.ref (za G i)] x (fun (r : Int32) (u : zX) => x = u ∧ nI 1 = r) := by
  intro A
  refine zBody (cc := cX1_kind) (maxL := 1) (ret := (some .int)) (by decide) rfl (Nat.le_of_ble_eq_true rfl) ?_
  intro p e s m below meth c hx hb hml hown hts hr hlocks hK hN hI ls hl
  have hown : s.vm.findClass RX1 = some m.cls := hown
  have hl : lv_has ls 1 [(0, .ref (za G i))] := hl
  refine lv_iconst (v := (nI 1)) hx hb dX1_kind_0 rfl ?_
  exact z_iret hx hb hr hlocks hI (⟨rfl, rfl⟩) dX1_kind_1
set_option maxHeartbeats 4000000 in
set_option maxRecDepth 100000 in
theorem c_X2_kind (l : Launch) {G : zG} (hG : zOK G) (x : zX) (i : Nat) (hp1 : 112 ≤ i) (hp2 : i < zn G) : zMi l yX2_kind wsX2_kind { frames := 0, cells := 0, slots := 0, locals := 0 } G [.ref (za G i)] x (fun (r : Int32) (u : zX) => x = u ∧ nI 6 = r) := by
  intro A
  refine zBody (cc := cX2_kind) (maxL := 1) (ret := (some .int)) (by decide) rfl (Nat.le_of_ble_eq_true rfl) ?_
  intro p e s m below meth c hx hb hml hown hts hr hlocks hK hN hI ls hl
  have hown : s.vm.findClass RX2 = some m.cls := hown
  have hl : lv_has ls 1 [(0, .ref (za G i))] := hl
  refine lv_bipush (v := (nI 6)) hx hb dX2_kind_0 rfl ?_
  exact z_iret hx hb hr hlocks hI (⟨rfl, rfl⟩) dX2_kind_2
set_option maxHeartbeats 4000000 in
set_option maxRecDepth 100000 in
theorem c_X3_kind (l : Launch) {G : zG} (hG : zOK G) (x : zX) (i : Nat) (hp1 : 112 ≤ i) (hp2 : i < zn G) : zMi l yX3_kind wsX3_kind { frames := 0, cells := 0, slots := 0, locals := 0 } G [.ref (za G i)] x (fun (r : Int32) (u : zX) => x = u ∧ nI 4 = r) := by
  intro A
  refine zBody (cc := cX3_kind) (maxL := 1) (ret := (some .int)) (by decide) rfl (Nat.le_of_ble_eq_true rfl) ?_
  intro p e s m below meth c hx hb hml hown hts hr hlocks hK hN hI ls hl
  have hown : s.vm.findClass RX3 = some m.cls := hown
  have hl : lv_has ls 1 [(0, .ref (za G i))] := hl
  refine lv_iconst (v := (nI 4)) hx hb dX3_kind_0 rfl ?_
  exact z_iret hx hb hr hlocks hI (⟨rfl, rfl⟩) dX3_kind_1
set_option maxHeartbeats 4000000 in
set_option maxRecDepth 100000 in
theorem c_X4_kind (l : Launch) {G : zG} (hG : zOK G) (x : zX) (i : Nat) (hp1 : 112 ≤ i) (hp2 : i < zn G) : zMi l yX4_kind wsX4_kind { frames := 0, cells := 0, slots := 0, locals := 0 } G [.ref (za G i)] x (fun (r : Int32) (u : zX) => x = u ∧ nI 0 = r) := by
  intro A
  refine zBody (cc := cX4_kind) (maxL := 1) (ret := (some .int)) (by decide) rfl (Nat.le_of_ble_eq_true rfl) ?_
  intro p e s m below meth c hx hb hml hown hts hr hlocks hK hN hI ls hl
  have hown : s.vm.findClass RX4 = some m.cls := hown
  have hl : lv_has ls 1 [(0, .ref (za G i))] := hl
  refine lv_iconst (v := (nI 0)) hx hb dX4_kind_0 rfl ?_
  exact z_iret hx hb hr hlocks hI (⟨rfl, rfl⟩) dX4_kind_1
set_option maxHeartbeats 4000000 in
set_option maxRecDepth 100000 in
theorem c_X8_kind (l : Launch) {G : zG} (hG : zOK G) (x : zX) (i : Nat) (hp1 : 112 ≤ i) (hp2 : i < zn G) : zMi l yX8_kind wsX8_kind { frames := 0, cells := 0, slots := 0, locals := 0 } G [.ref (za G i)] x (fun (r : Int32) (u : zX) => x = u ∧ nI 2 = r) := by
  intro A
  refine zBody (cc := cX8_kind) (maxL := 1) (ret := (some .int)) (by decide) rfl (Nat.le_of_ble_eq_true rfl) ?_
  intro p e s m below meth c hx hb hml hown hts hr hlocks hK hN hI ls hl
  have hown : s.vm.findClass RX8 = some m.cls := hown
  have hl : lv_has ls 1 [(0, .ref (za G i))] := hl
  refine lv_iconst (v := (nI 2)) hx hb dX8_kind_0 rfl ?_
  exact z_iret hx hb hr hlocks hI (⟨rfl, rfl⟩) dX8_kind_1
set_option maxHeartbeats 4000000 in
set_option maxRecDepth 100000 in
theorem c_X10_kind (l : Launch) {G : zG} (hG : zOK G) (x : zX) (i : Nat) (hp1 : 112 ≤ i) (hp2 : i < zn G) : zMi l yX10_kind wsX10_kind { frames := 0, cells := 0, slots := 0, locals := 0 } G [.ref (za G i)] x (fun (r : Int32) (u : zX) => x = u ∧ nI 3 = r) := by
  intro A
  refine zBody (cc := cX10_kind) (maxL := 1) (ret := (some .int)) (by decide) rfl (Nat.le_of_ble_eq_true rfl) ?_
  intro p e s m below meth c hx hb hml hown hts hr hlocks hK hN hI ls hl
  have hown : s.vm.findClass RX10 = some m.cls := hown
  have hl : lv_has ls 1 [(0, .ref (za G i))] := hl
  refine lv_iconst (v := (nI 3)) hx hb dX10_kind_0 rfl ?_
  exact z_iret hx hb hr hlocks hI (⟨rfl, rfl⟩) dX10_kind_1
set_option maxHeartbeats 4000000 in
set_option maxRecDepth 100000 in
theorem c_X4_goesOn (l : Launch) {G : zG} (hG : zOK G) (x : zX) (i : Nat) (hp1 : 112 ≤ i) (hp2 : i < zn G) : zMi l yX4_goesOn wsX4_goesOn { frames := 0, cells := 0, slots := 0, locals := 0 } G [.ref (za G i)] x (fun (r : Int32) (u : zX) => x = u ∧ nI 0 = r) := by
  intro A
  refine zBody (cc := cX4_goesOn) (maxL := 1) (ret := (some .boolean)) (by decide) rfl (Nat.le_of_ble_eq_true rfl) ?_
  intro p e s m below meth c hx hb hml hown hts hr hlocks hK hN hI ls hl
  have hown : s.vm.findClass RX4 = some m.cls := hown
  have hl : lv_has ls 1 [(0, .ref (za G i))] := hl
  refine lv_iconst (v := (nI 0)) hx hb dX4_goesOn_0 rfl ?_
  exact z_zret hx hb hr hlocks hI (Or.inl rfl) (⟨rfl, rfl⟩) dX4_goesOn_1
set_option maxHeartbeats 4000000 in
set_option maxRecDepth 100000 in
theorem c_X8_goesOn (l : Launch) {G : zG} (hG : zOK G) (x : zX) (i : Nat) (hp1 : 112 ≤ i) (hp2 : i < zn G) : zMi l yX8_goesOn wsX8_goesOn { frames := 0, cells := 0, slots := 0, locals := 0 } G [.ref (za G i)] x (fun (r : Int32) (u : zX) => x = u ∧ nI 1 = r) := by
  intro A
  refine zBody (cc := cX8_goesOn) (maxL := 1) (ret := (some .boolean)) (by decide) rfl (Nat.le_of_ble_eq_true rfl) ?_
  intro p e s m below meth c hx hb hml hown hts hr hlocks hK hN hI ls hl
  have hown : s.vm.findClass RX8 = some m.cls := hown
  have hl : lv_has ls 1 [(0, .ref (za G i))] := hl
  refine lv_iconst (v := (nI 1)) hx hb dX8_goesOn_0 rfl ?_
  exact z_zret hx hb hr hlocks hI (Or.inr rfl) (⟨rfl, rfl⟩) dX8_goesOn_1
set_option maxHeartbeats 4000000 in
set_option maxRecDepth 100000 in
theorem c_X4_burden (l : Launch) {G : zG} (hG : zOK G) (x : zX) (i : Nat) (hp1 : 112 ≤ i) (hp2 : i < zn G) : zMi l yX4_burden wsX4_burden { frames := 0, cells := 0, slots := 0, locals := 0 } G [.ref (za G i)] x (fun (r : Int32) (u : zX) => x = u ∧ nI 0 = r) := by
  intro A
  refine zBody (cc := cX4_burden) (maxL := 1) (ret := (some .int)) (by decide) rfl (Nat.le_of_ble_eq_true rfl) ?_
  intro p e s m below meth c hx hb hml hown hts hr hlocks hK hN hI ls hl
  have hown : s.vm.findClass RX4 = some m.cls := hown
  have hl : lv_has ls 1 [(0, .ref (za G i))] := hl
  refine lv_iconst (v := (nI 0)) hx hb dX4_burden_0 rfl ?_
  exact z_iret hx hb hr hlocks hI (⟨rfl, rfl⟩) dX4_burden_1
set_option maxHeartbeats 4000000 in
set_option maxRecDepth 100000 in
theorem c_X0_burden (l : Launch) {G : zG} (hG : zOK G) (x : zX) (i : Nat) (hp1 : 112 ≤ i) (hp2 : i < zn G) : zMi l yX0_burden wsX0_burden { frames := 0, cells := 0, slots := 0, locals := 0 } G [.ref (za G i)] x (fun (r : Int32) (u : zX) => x = u ∧ x.1 i 1 = r) := by
  intro A
  refine zBody (cc := cX0_burden) (maxL := 1) (ret := (some .int)) (by decide) rfl (Nat.le_of_ble_eq_true rfl) ?_
  intro p e s m below meth c hx hb hml hown hts hr hlocks hK hN hI ls hl
  have hown : s.vm.findClass RX0 = some m.cls := hown
  have hl : lv_has ls 1 [(0, .ref (za G i))] := hl
  have hin0 : ∀ w ∈ wsX00, w ∈ wsX0_burden := (fun _ h => List.mem_cons_of_mem _ (List.mem_append_left _ (List.mem_append_left _ (List.mem_append_left _ (List.mem_append_left _ (List.mem_append_left _ (List.mem_append_left _ (List.mem_append_right _ (h)))))))))
  have hin1 : ∀ w ∈ wsX10, w ∈ wsX0_burden := (fun _ h => List.mem_cons_of_mem _ (List.mem_append_left _ (List.mem_append_left _ (List.mem_append_left _ (List.mem_append_left _ (List.mem_append_left _ (List.mem_append_right _ (h))))))))
  have hin2 : ∀ w ∈ wsX20, w ∈ wsX0_burden := (fun _ h => List.mem_cons_of_mem _ (List.mem_append_left _ (List.mem_append_left _ (List.mem_append_left _ (List.mem_append_left _ (List.mem_append_right _ (h)))))))
  have hin3 : ∀ w ∈ wsX30, w ∈ wsX0_burden := (fun _ h => List.mem_cons_of_mem _ (List.mem_append_left _ (List.mem_append_left _ (List.mem_append_left _ (List.mem_append_right _ (h))))))
  have hin4 : ∀ w ∈ wsX40, w ∈ wsX0_burden := (fun _ h => List.mem_cons_of_mem _ (List.mem_append_left _ (List.mem_append_left _ (List.mem_append_right _ (h)))))
  have hin8 : ∀ w ∈ wsX80, w ∈ wsX0_burden := (fun _ h => List.mem_cons_of_mem _ (List.mem_append_left _ (List.mem_append_right _ (h))))
  have hin10 : ∀ w ∈ wsX100, w ∈ wsX0_burden := (fun _ h => List.mem_cons_of_mem _ (List.mem_append_right _ (h)))
  have wS7 := hts (.sameField "WhoSitsBy$Carrier" "WhoSitsBy$Pupil" "v" "I") (z_mem 2 rfl)
  have wF7 := hts (.fieldLink RX0 7 "WhoSitsBy$Carrier" "v" "I") (z_mem 1 rfl)
  refine lv_aload_n hx hb dX0_burden_0 rfl (lv_at hl 0 rfl) ?_
  refine z_getP hx hb hts ⟨hin0, hin1, hin2, hin3, hin4, hin8, hin10⟩ hown hK hG hI hp1 hp2 1 (by decide) wF7 (fun x9 h9 => u_same wS7 x9 h9) dX0_burden_1 ?_
  exact z_iret hx hb hr hlocks hI (⟨rfl, rfl⟩) dX0_burden_4
set_option maxHeartbeats 4000000 in
set_option maxRecDepth 100000 in
theorem c_X7_isClosed (l : Launch) {G : zG} (hG : zOK G) (x : zX) (N : Nat) (y : Int32) (hn : zNow G x N) : zMi l yX7_isClosed wsX7_isClosed { frames := 1, cells := 0, slots := 0, locals := 21 } G [.ref (za G 1), .int y] x (fun (r : Int32) (u : zX) => x = u ∧ (if zcl x N y then nI 1 else nI 0) = r) := by
  intro A
  refine zBody (cc := cX7_isClosed) (maxL := 3) (ret := (some .boolean)) (by decide) rfl (Nat.le_of_ble_eq_true rfl) ?_
  intro p e s m below meth c hx hb hml hown hts hr hlocks hK hN hI ls hl
  have hown : s.vm.findClass RX7 = some m.cls := hown
  have hl : lv_has ls 3 [(0, .ref (za G 1)), (1, .int y)] := hl
  have hin7 : ∀ w ∈ wsX70, w ∈ wsX7_isClosed := (fun _ h => List.mem_cons_of_mem _ (List.mem_append_right _ (h)))
  have wF28 := hts (.fieldLink RX7 28 "WhoSitsBy$Standing" "size" "I") (z_mem 1 rfl)
  have h8 := hn.1
  refine lv_iconst (v := (nI 0)) hx hb dX7_isClosed_0 rfl ?_
  refine lv_istore_n (lv' := [(2, .int (nI 0)), (0, .ref (za G 1)), (1, .int y)]) hx hb dX7_isClosed_1 rfl hl (by decide) rfl (fun ls hl => ?_)
  have L2 : ∀ (f : Nat) (j : Nat), (j ≤ N) → (∀ q, q < j → (zbit y (nI q) ↔ zbit y (x.1 5 q))) → N + 1 ≤ j + f → ∀ (H : Heap) (locs : List Loc), zI G x A s.heap H locs → ∀ ls : Array Slot, lv_has ls 3 [(0, .ref (za G 1)), (1, .int y), (2, .int (nI j))] → W p l e { frames := 1, cells := 0, slots := 0, locals := 21 } s m ([.ref (za G 1), .int y] : List Value).toArray below meth c H locs 0 0 (MQ below (va_Qi (fun (r : Int32) (u : zX) => x = u ∧ (if zcl x N y then nI 1 else nI 0) = r) (fun u t => zJ G u A t.heap) A) ([.ref (za G 1), .int y] : List Value).toArray s 0 0 A) (F0 m 2 ls []) := by
    intro f
    induction f with
    | zero =>
      intro j h1 h2 hf
      exact absurd hf (by omega)
    | succ f ih =>
      intro j h1 h2 hf H locs hI ls hl
      have ih2 := ih
      refine lv_iload_n hx hb dX7_isClosed_2 rfl (lv_at hl 2 rfl) ?_
      refine lv_aload_n hx hb dX7_isClosed_3 rfl (lv_at hl 0 rfl) ?_
      refine z_get (C := RX7) (T := TX7) (N := 7) (ci := 7) (v := .int (nI N)) hx hb hts hin7 hown hK hI (zo1 hG) rfl 3 (by decide) wF28 (fun _ h9 => h9) (congrArg (fun q => some (Value.int q)) hn.2.1) dX7_isClosed_4 ?_
      refine lv_icmp_ge (tgt := 35) hx hb dX7_isClosed_7 (by decide) (fun c_7 => ?_) (fun c_7 => ?_)
      · skip
        rw [zqG (by omega) (by omega)] at c_7
        refine lv_iconst (v := (nI 1)) hx hb dX7_isClosed_35 rfl ?_
        exact z_zret hx hb hr hlocks hI (Or.inr rfl) (⟨rfl, if_pos (fun q hq => h2 q (by omega))⟩) dX7_isClosed_36
      · skip
        rw [zqG (by omega) (by omega)] at c_7
        refine lv_iload_n hx hb dX7_isClosed_10 rfl (lv_at hl 1 rfl) ?_
        refine lv_iload_n hx hb dX7_isClosed_11 rfl (lv_at hl 2 rfl) ?_
        refine z_calli (va_runSN (As := [.int y, .int (nI j)]) (rest := []) ⟨hx, hb, hml, hown, hts⟩ ((c_X11_hasBit l hG x y (nI j)) A) ⟨va_cnB 2 hts gX7_isClosed_X11_hasBit_n42 rfl rfl rfl (hN.1 _ (z_mem 1 rfl)) (hts (.initialized RX11) (z_mem 3 rfl)) (by decide +kernel) ⟨Nat.le_of_ble_eq_true rfl, Nat.le_of_ble_eq_true rfl⟩, hts (.static yX11_hasBit) (z_mem 2 rfl), trivial⟩ (z_pS hI hK hN) rfl rfl hl.1 rfl (lv_room (Nat.le_of_ble_eq_true rfl)) dX7_isClosed_12 ⟨Nat.zero_le _, Nat.zero_le _⟩) hI (fun r_12 u H locs hw hI => ?_)
        obtain ⟨rfl, rfl⟩ := hw
        refine lv_iload_n hx hb dX7_isClosed_15 rfl (lv_at hl 1 rfl) ?_
        refine lv_aload_n hx hb dX7_isClosed_16 rfl (lv_at hl 0 rfl) ?_
        refine lv_iload_n hx hb dX7_isClosed_17 rfl (lv_at hl 2 rfl) ?_
        refine z_calli (va_runV (As := [.int (nI j)]) (rest := [.int y, .int (if zbit y (nI j) then nI 1 else nI 0)]) ⟨hx, hb, hml, hown, hts⟩ ((c_X7_whomNames l hG x N j hn (by omega)) A) (cwV 1 hts gX7_isClosed_X7_whomNames rfl rfl rfl (by decide +kernel) ⟨Nat.le_of_ble_eq_true rfl, Nat.le_of_ble_eq_true rfl⟩) (z_pV hI hK hN (z_recv hK hI (zo1 hG) rfl)) rfl rfl hl.1 rfl (lv_room (Nat.le_of_ble_eq_true rfl)) dX7_isClosed_18 ⟨Nat.zero_le _, Nat.zero_le _⟩) hI (fun r_18 u H locs hw hI => ?_)
        obtain ⟨rfl, rfl⟩ := hw
        refine z_calli (va_runSN (As := [.int y, .int (x.1 5 j)]) (rest := [.int (if zbit y (nI j) then nI 1 else nI 0)]) ⟨hx, hb, hml, hown, hts⟩ ((c_X11_hasBit l hG x y (x.1 5 j)) A) ⟨va_cnB 2 hts gX7_isClosed_X11_hasBit_n42 rfl rfl rfl (hN.1 _ (z_mem 1 rfl)) (hts (.initialized RX11) (z_mem 3 rfl)) (by decide +kernel) ⟨Nat.le_of_ble_eq_true rfl, Nat.le_of_ble_eq_true rfl⟩, hts (.static yX11_hasBit) (z_mem 2 rfl), trivial⟩ (z_pS hI hK hN) rfl rfl hl.1 rfl (lv_room (Nat.le_of_ble_eq_true rfl)) dX7_isClosed_21 ⟨Nat.zero_le _, Nat.zero_le _⟩) hI (fun r_21 u H locs hw hI => ?_)
        obtain ⟨rfl, rfl⟩ := hw
        refine lv_icmp_eq (tgt := 29) hx hb dX7_isClosed_24 (by decide) (fun c_24 => ?_) (fun c_24 => ?_)
        · skip
          rw [zb_e] at c_24
          refine lv_iinc (v := (nI (j + 1))) (lv' := [(2, .int (nI (j + 1))), (0, .ref (za G 1)), (1, .int y)]) hx hb dX7_isClosed_29 hl (k := 2) rfl (zinc j) (by decide) rfl (fun ls hl => ?_)
          refine lv_goto (tgt := 2) hx hb dX7_isClosed_32 (by decide) ?_
          exact ih2 (j + 1) (by omega) (fun q hq => by rcases Nat.lt_or_ge q j with h | h; exact h2 q h; rw [show q = j by omega]; exact c_24) (by omega) _ _ hI ls (lv_sub hl [1, 2, 0] rfl)
        · skip
          rw [zb_e] at c_24
          refine lv_iconst (v := (nI 0)) hx hb dX7_isClosed_27 rfl ?_
          exact z_zret hx hb hr hlocks hI (Or.inl rfl) (⟨rfl, if_neg (fun h => c_24 (h j (by omega)))⟩) dX7_isClosed_28
  exact L2 (N + 1) 0 (by omega) (fun q hq => absurd hq (by omega)) (by omega) _ _ hI ls (lv_sub hl [1, 2, 0] rfl)
set_option maxHeartbeats 4000000 in
set_option maxRecDepth 100000 in
theorem c_X7_talksAfter (l : Launch) {G : zG} (hG : zOK G) (x : zX) (N t k : Nat) (b hu : Int32) (hn : zNow G x N) (ht : t < 8) (hk : k < N) (hs : x.1 4 t = nI k) : zMi l yX7_talksAfter wsX7_talksAfter { frames := 2, cells := 0, slots := 0, locals := 43 } G [.ref (za G 1), .int (nI t), .int b, .int hu] x (fun (r : Int32) (u : zX) => x = u ∧ (if ztk G x b hu t k then nI 1 else nI 0) = r) := by
  intro A
  refine zBody (cc := cX7_talksAfter) (maxL := 9) (ret := (some .boolean)) (by decide) rfl (Nat.le_of_ble_eq_true rfl) ?_
  intro p e s m below meth c hx hb hml hown hts hr hlocks hK hN hI ls hl
  have hown : s.vm.findClass RX7 = some m.cls := hown
  have hl : lv_has ls 9 [(0, .ref (za G 1)), (1, .int (nI t)), (2, .int b), (3, .int hu)] := hl
  have hin0 : ∀ w ∈ wsX00, w ∈ wsX7_talksAfter := (fun _ h => List.mem_cons_of_mem _ (List.mem_append_left _ (List.mem_append_left _ (List.mem_append_left _ (List.mem_append_left _ (List.mem_append_left _ (List.mem_append_left _ (List.mem_append_right _ (h)))))))))
  have hin1 : ∀ w ∈ wsX10, w ∈ wsX7_talksAfter := (fun _ h => List.mem_cons_of_mem _ (List.mem_append_left _ (List.mem_append_left _ (List.mem_append_left _ (List.mem_append_left _ (List.mem_append_left _ (List.mem_append_right _ (h))))))))
  have hin2 : ∀ w ∈ wsX20, w ∈ wsX7_talksAfter := (fun _ h => List.mem_cons_of_mem _ (List.mem_append_left _ (List.mem_append_left _ (List.mem_append_left _ (List.mem_append_left _ (List.mem_append_right _ (h)))))))
  have hin3 : ∀ w ∈ wsX30, w ∈ wsX7_talksAfter := (fun _ h => List.mem_cons_of_mem _ (List.mem_append_left _ (List.mem_append_left _ (List.mem_append_left _ (List.mem_append_right _ (h))))))
  have hin4 : ∀ w ∈ wsX40, w ∈ wsX7_talksAfter := (fun _ h => List.mem_cons_of_mem _ (List.mem_append_left _ (List.mem_append_left _ (List.mem_append_right _ (h)))))
  have hin7 : ∀ w ∈ wsX70, w ∈ wsX7_talksAfter := (fun _ h => List.mem_cons_of_mem _ (List.mem_append_left _ (List.mem_append_left _ (List.mem_append_left _ (List.mem_append_left _ (List.mem_append_left _ (List.mem_append_left _ (List.mem_append_left _ (List.mem_append_right _ (h))))))))))
  have hin8 : ∀ w ∈ wsX80, w ∈ wsX7_talksAfter := (fun _ h => List.mem_cons_of_mem _ (List.mem_append_left _ (List.mem_append_right _ (h))))
  have hin10 : ∀ w ∈ wsX100, w ∈ wsX7_talksAfter := (fun _ h => List.mem_cons_of_mem _ (List.mem_append_right _ (h)))
  have wF17 := hts (.fieldLink RX7 17 "WhoSitsBy$Standing" "sitters" "[I") (z_mem 1 rfl)
  have wF96 := hts (.fieldLink RX7 96 "WhoSitsBy$Pupil" "talkative" "I") (z_mem 3 rfl)
  have wF107 := hts (.fieldLink RX7 107 "WhoSitsBy$Pupil" "number" "I") (z_mem 2 rfl)
  have h8 := hn.1
  refine lv_iload_n hx hb dX7_talksAfter_0 rfl (lv_at hl 1 rfl) ?_
  refine lv_if_lt (tgt := 23) hx hb dX7_talksAfter_1 (by decide) (fun c_1 => ?_) (fun c_1 => ?_)
  · skip
    rw [show (0 : Int32) = nI 0 from rfl] at c_1; rw [zqL (by omega) (by omega)] at c_1
    exact absurd c_1 (by omega)
  · skip
    rw [show (0 : Int32) = nI 0 from rfl] at c_1; rw [zqL (by omega) (by omega)] at c_1
    refine lv_iload_n hx hb dX7_talksAfter_4 rfl (lv_at hl 1 rfl) ?_
    refine lv_bipush (v := (nI 8)) hx hb dX7_talksAfter_5 rfl ?_
    refine lv_icmp_ge (tgt := 23) hx hb dX7_talksAfter_7 (by decide) (fun c_7 => ?_) (fun c_7 => ?_)
    · skip
      rw [zqG (by omega) (by omega)] at c_7
      exact absurd c_7 (by omega)
    · skip
      rw [zqG (by omega) (by omega)] at c_7
      refine lv_aload_n hx hb dX7_talksAfter_10 rfl (lv_at hl 0 rfl) ?_
      refine lv_aload_n hx hb dX7_talksAfter_11 rfl (lv_at hl 0 rfl) ?_
      refine z_get (C := RX7) (T := TX7) (N := 7) (ci := 7) (v := .ref (za G 4)) hx hb hts hin7 hown hK hI (zo1 hG) rfl 1 (by decide) wF17 (fun _ h9 => h9) rfl dX7_talksAfter_12 ?_
      refine lv_iload_n hx hb dX7_talksAfter_15 rfl (lv_at hl 1 rfl) ?_
      refine z_iald (v := (nI k)) hx hb hK hI (zo4 hG) t rfl (by omega) (by decide) hs dX7_talksAfter_16 ?_
      refine z_callq (va_runV (As := [.int (nI k)]) (rest := []) ⟨hx, hb, hml, hown, hts⟩ ((c_X7_at l hG x N (nI k) hn) A) (cwV 1 hts gX7_talksAfter_X7_at rfl rfl rfl (by decide +kernel) ⟨Nat.le_of_ble_eq_true rfl, Nat.le_of_ble_eq_true rfl⟩) (z_pV hI hK hN (z_recv hK hI (zo1 hG) rfl)) rfl rfl hl.1 rfl (lv_room (Nat.le_of_ble_eq_true rfl)) dX7_talksAfter_17 ⟨Nat.zero_le _, Nat.zero_le _⟩) hI (fun r_17 u H locs hw hI => ?_)
      obtain ⟨rfl, rfl⟩ := hw
      rw [show (zat x N (nI k)) = some (zob x k) from zat_in hn hk]
      refine lv_goto (tgt := 24) hx hb dX7_talksAfter_20 (by decide) ?_
      refine lv_astore (lv' := [(4, .ref (za G (zob x k))), (0, .ref (za G 1)), (1, .int (nI t)), (2, .int b), (3, .int hu)]) hx hb dX7_talksAfter_24 hl (by decide) rfl (fun ls hl => ?_)
      refine lv_aload hx hb dX7_talksAfter_26 (lv_at hl 0 rfl) ?_
      refine lv_ifnonnull (tgt := 33) hx hb dX7_talksAfter_28 (by decide) ?_
      refine lv_aload hx hb dX7_talksAfter_33 (lv_at hl 0 rfl) ?_
      have hrun : va_Run p l e { frames := 2, cells := 0, slots := 0, locals := 43 } s m ([.ref (za G 1), .int (nI t), .int b, .int hu] : List Value).toArray below meth c H locs 0 0 0 0 (F0 m 35 ls [.ref (za G (zob x k))]) [] (va_Qi (fun (r : Int32) (u : zX) => x = u ∧ (if zgo (zk G (zob x k)) then nI 1 else nI 0) = r) (fun u t => zJ G u A t.heap) A (Value.ref (za G (zob x k)) :: []).toArray) A := by
        have ho := zop (G := G) (hn.2.2.1 k hk).2.1 (hn.2.2.1 k hk).2.2.1
        rcases hG.2 (zob x k) (hn.2.2.1 k hk).2.1 (hn.2.2.1 k hk).2.2.1 with h | h | h | h | h | h | h <;> rw [h] at ho
        · rw [h]
          exact va_runU (As := []) (rest := []) ⟨hx, hb, hml, hown, hts⟩ ((c_X8_goesOn l hG x (zob x k) (hn.2.2.1 k hk).2.1 (hn.2.2.1 k hk).2.2.1) A) (va_cwO 0 hts gX7_talksAfter_X8_goesOn_u103X0 rfl rfl rfl (z_mem 18 rfl) (by decide +kernel) ⟨Nat.le_of_ble_eq_true rfl, Nat.le_of_ble_eq_true rfl⟩) (z_pV hI hK hN (z_recv hK hI ho rfl)) rfl rfl hl.1 rfl (lv_room (Nat.le_of_ble_eq_true rfl)) dX7_talksAfter_35 ⟨Nat.zero_le _, Nat.zero_le _⟩
        · rw [h]
          exact va_runU (As := []) (rest := []) ⟨hx, hb, hml, hown, hts⟩ ((c_X4_goesOn l hG x (zob x k) (hn.2.2.1 k hk).2.1 (hn.2.2.1 k hk).2.2.1) A) (va_cwU 0 hts gX7_talksAfter_X4_goesOn_u103X1 rfl rfl rfl rfl (by decide +kernel) ⟨Nat.le_of_ble_eq_true rfl, Nat.le_of_ble_eq_true rfl⟩) (z_pV hI hK hN (z_recv hK hI ho rfl)) rfl rfl hl.1 rfl (lv_room (Nat.le_of_ble_eq_true rfl)) dX7_talksAfter_35 ⟨Nat.zero_le _, Nat.zero_le _⟩
        · rw [h]
          exact va_runU (As := []) (rest := []) ⟨hx, hb, hml, hown, hts⟩ ((c_X4_goesOn l hG x (zob x k) (hn.2.2.1 k hk).2.1 (hn.2.2.1 k hk).2.2.1) A) (va_cwU 0 hts gX7_talksAfter_X4_goesOn_u103X2 rfl rfl rfl rfl (by decide +kernel) ⟨Nat.le_of_ble_eq_true rfl, Nat.le_of_ble_eq_true rfl⟩) (z_pV hI hK hN (z_recv hK hI ho rfl)) rfl rfl hl.1 rfl (lv_room (Nat.le_of_ble_eq_true rfl)) dX7_talksAfter_35 ⟨Nat.zero_le _, Nat.zero_le _⟩
        · rw [h]
          exact va_runU (As := []) (rest := []) ⟨hx, hb, hml, hown, hts⟩ ((c_X4_goesOn l hG x (zob x k) (hn.2.2.1 k hk).2.1 (hn.2.2.1 k hk).2.2.1) A) (va_cwU 0 hts gX7_talksAfter_X4_goesOn_u103X3 rfl rfl rfl rfl (by decide +kernel) ⟨Nat.le_of_ble_eq_true rfl, Nat.le_of_ble_eq_true rfl⟩) (z_pV hI hK hN (z_recv hK hI ho rfl)) rfl rfl hl.1 rfl (lv_room (Nat.le_of_ble_eq_true rfl)) dX7_talksAfter_35 ⟨Nat.zero_le _, Nat.zero_le _⟩
        · rw [h]
          exact va_runV (As := []) (rest := []) ⟨hx, hb, hml, hown, hts⟩ ((c_X4_goesOn l hG x (zob x k) (hn.2.2.1 k hk).2.1 (hn.2.2.1 k hk).2.2.1) A) (cwV 0 hts gX7_talksAfter_X4_goesOn rfl rfl rfl (by decide +kernel) ⟨Nat.le_of_ble_eq_true rfl, Nat.le_of_ble_eq_true rfl⟩) (z_pV hI hK hN (z_recv hK hI ho rfl)) rfl rfl hl.1 rfl (lv_room (Nat.le_of_ble_eq_true rfl)) dX7_talksAfter_35 ⟨Nat.zero_le _, Nat.zero_le _⟩
        · rw [h]
          exact va_runU (As := []) (rest := []) ⟨hx, hb, hml, hown, hts⟩ ((c_X8_goesOn l hG x (zob x k) (hn.2.2.1 k hk).2.1 (hn.2.2.1 k hk).2.2.1) A) (va_cwO 0 hts gX7_talksAfter_X8_goesOn_u103X8 rfl rfl rfl (z_mem 18 rfl) (by decide +kernel) ⟨Nat.le_of_ble_eq_true rfl, Nat.le_of_ble_eq_true rfl⟩) (z_pV hI hK hN (z_recv hK hI ho rfl)) rfl rfl hl.1 rfl (lv_room (Nat.le_of_ble_eq_true rfl)) dX7_talksAfter_35 ⟨Nat.zero_le _, Nat.zero_le _⟩
        · rw [h]
          exact va_runU (As := []) (rest := []) ⟨hx, hb, hml, hown, hts⟩ ((c_X4_goesOn l hG x (zob x k) (hn.2.2.1 k hk).2.1 (hn.2.2.1 k hk).2.2.1) A) (va_cwU 0 hts gX7_talksAfter_X4_goesOn_u103X10 rfl rfl rfl rfl (by decide +kernel) ⟨Nat.le_of_ble_eq_true rfl, Nat.le_of_ble_eq_true rfl⟩) (z_pV hI hK hN (z_recv hK hI ho rfl)) rfl rfl hl.1 rfl (lv_room (Nat.le_of_ble_eq_true rfl)) dX7_talksAfter_35 ⟨Nat.zero_le _, Nat.zero_le _⟩
      refine z_calli hrun hI (fun r_35 u H locs hw hI => ?_)
      obtain ⟨rfl, rfl⟩ := hw
      refine lv_if_eq (tgt := 55) hx hb dX7_talksAfter_38 (by decide) (fun c_38 => ?_) (fun c_38 => ?_)
      · skip
        rw [zb_0] at c_38
        refine lv_iconst (v := (nI 0)) hx hb dX7_talksAfter_55 rfl ?_
        refine lv_istore (lv' := [(5, .int (nI 0)), (4, .ref (za G (zob x k))), (0, .ref (za G 1)), (1, .int (nI t)), (2, .int b), (3, .int hu)]) hx hb dX7_talksAfter_56 hl (by decide) rfl (fun ls hl => ?_)
        refine lv_iconst (v := (nI 0)) hx hb dX7_talksAfter_58 rfl ?_
        refine lv_istore (lv' := [(6, .int (nI 0)), (5, .int (nI 0)), (4, .ref (za G (zob x k))), (0, .ref (za G 1)), (1, .int (nI t)), (2, .int b), (3, .int hu)]) hx hb dX7_talksAfter_59 hl (by decide) rfl (fun ls hl => ?_)
        refine lv_iconst (v := (nI 0)) hx hb dX7_talksAfter_61 rfl ?_
        refine lv_istore (lv' := [(7, .int (nI 0)), (6, .int (nI 0)), (5, .int (nI 0)), (4, .ref (za G (zob x k))), (0, .ref (za G 1)), (1, .int (nI t)), (2, .int b), (3, .int hu)]) hx hb dX7_talksAfter_62 hl (by decide) rfl (fun ls hl => ?_)
        have L64 : ∀ (f : Nat) (j : Nat) (a : Int32) (z : Int32), (j ≤ 8) → (a = if (∃ o, o < j ∧ znb x b t o) then nI 1 else nI 0) → (z = znoise x b t j) → 9 ≤ j + f → ∀ (H : Heap) (locs : List Loc), zI G x A s.heap H locs → ∀ ls : Array Slot, lv_has ls 9 [(0, .ref (za G 1)), (1, .int (nI t)), (2, .int b), (3, .int hu), (4, .ref (za G (zob x k))), (5, .int a), (6, .int z), (7, .int (nI j))] → W p l e { frames := 2, cells := 0, slots := 0, locals := 43 } s m ([.ref (za G 1), .int (nI t), .int b, .int hu] : List Value).toArray below meth c H locs 0 0 (MQ below (va_Qi (fun (r : Int32) (u : zX) => x = u ∧ (if ztk G x b hu t k then nI 1 else nI 0) = r) (fun u t => zJ G u A t.heap) A) ([.ref (za G 1), .int (nI t), .int b, .int hu] : List Value).toArray s 0 0 A) (F0 m 64 ls []) := by
          intro f
          induction f with
          | zero =>
            intro j a z h1 h2 h3 hf
            exact absurd hf (by omega)
          | succ f ih =>
            intro j a z h1 h2 h3 hf H locs hI ls hl
            have ih64 := ih
            refine lv_iload hx hb dX7_talksAfter_64 (lv_at hl 7 rfl) ?_
            refine lv_bipush (v := (nI 8)) hx hb dX7_talksAfter_66 rfl ?_
            refine lv_icmp_ge (tgt := 124) hx hb dX7_talksAfter_68 (by decide) (fun c_68 => ?_) (fun c_68 => ?_)
            · skip
              rw [zqG (by omega) (by omega)] at c_68
              refine lv_iload hx hb dX7_talksAfter_124 (lv_at hl 5 rfl) ?_
              refine lv_if_eq (tgt := 147) hx hb dX7_talksAfter_126 (by decide) (fun c_126 => ?_) (fun c_126 => ?_)
              · skip
                rw [h2] at c_126; rw [zb_0] at c_126
                refine lv_iconst (v := (nI 0)) hx hb dX7_talksAfter_147 rfl ?_
                exact z_zret hx hb hr hlocks hI (Or.inl rfl) (⟨rfl, if_neg (fun h => h.elim (fun h => c_38 h.1) (fun h => c_126 (by rw [show j = 8 by omega]; exact h.1)))⟩) dX7_talksAfter_148
              · skip
                rw [h2] at c_126; rw [zb_0, Classical.not_not] at c_126
                refine lv_iload hx hb dX7_talksAfter_129 (lv_at hl 6 rfl) ?_
                refine lv_iconst (v := (nI 2)) hx hb dX7_talksAfter_131 rfl ?_
                refine lv_idiv hx hb dX7_talksAfter_132 (by decide) ?_
                refine lv_aload hx hb dX7_talksAfter_133 (lv_at hl 4 rfl) ?_
                refine z_getP hx hb hts ⟨hin0, hin1, hin2, hin3, hin4, hin8, hin10⟩ hown hK hG hI (hn.2.2.1 k hk).2.1 (hn.2.2.1 k hk).2.2.1 2 (by decide) wF96 (fun _ h9 => h9) dX7_talksAfter_135 ?_
                refine lv_iadd hx hb dX7_talksAfter_138 ?_
                refine lv_iload_n hx hb dX7_talksAfter_139 rfl (lv_at hl 3 rfl) ?_
                refine lv_icmp_le (tgt := 147) hx hb dX7_talksAfter_140 (by decide) (fun c_140 => ?_) (fun c_140 => ?_)
                · skip
                  refine lv_iconst (v := (nI 0)) hx hb dX7_talksAfter_147 rfl ?_
                  exact z_zret hx hb hr hlocks hI (Or.inl rfl) (⟨rfl, if_neg (fun h => h.elim (fun h => c_38 h.1) (fun h => h.2 (by rw [show (8 : Nat) = j by omega, ← h3]; exact c_140)))⟩) dX7_talksAfter_148
                · skip
                  refine lv_iconst (v := (nI 1)) hx hb dX7_talksAfter_143 rfl ?_
                  refine lv_goto (tgt := 148) hx hb dX7_talksAfter_144 (by decide) ?_
                  exact z_zret hx hb hr hlocks hI (Or.inr rfl) (⟨rfl, if_pos (Or.inr ⟨(by rw [show (8 : Nat) = j by omega]; exact c_126), (by rw [show (8 : Nat) = j by omega, ← h3]; exact c_140)⟩)⟩) dX7_talksAfter_148
            · skip
              rw [zqG (by omega) (by omega)] at c_68
              refine lv_aload_n hx hb dX7_talksAfter_71 rfl (lv_at hl 0 rfl) ?_
              refine z_get (C := RX7) (T := TX7) (N := 7) (ci := 7) (v := .ref (za G 4)) hx hb hts hin7 hown hK hI (zo1 hG) rfl 1 (by decide) wF17 (fun _ h9 => h9) rfl dX7_talksAfter_72 ?_
              refine lv_iload hx hb dX7_talksAfter_75 (lv_at hl 7 rfl) ?_
              refine z_iald (v := (x.1 4 j)) hx hb hK hI (zo4 hG) j rfl (by omega) (by decide) rfl dX7_talksAfter_77 ?_
              refine lv_istore (lv' := [(8, .int (x.1 4 j)), (0, .ref (za G 1)), (1, .int (nI t)), (2, .int b), (3, .int hu), (4, .ref (za G (zob x k))), (5, .int a), (6, .int z), (7, .int (nI j))]) hx hb dX7_talksAfter_78 hl (by decide) rfl (fun ls hl => ?_)
              refine lv_iload hx hb dX7_talksAfter_80 (lv_at hl 8 rfl) ?_
              refine lv_iload_n hx hb dX7_talksAfter_82 rfl (lv_at hl 2 rfl) ?_
              refine lv_icmp_eq (tgt := 118) hx hb dX7_talksAfter_83 (by decide) (fun c_83 => ?_) (fun c_83 => ?_)
              · skip
                rw [zqE (by omega) (by omega)] at c_83
                refine lv_iinc (v := (nI (j + 1))) (lv' := [(7, .int (nI (j + 1))), (8, .int (x.1 4 j)), (0, .ref (za G 1)), (1, .int (nI t)), (2, .int b), (3, .int hu), (4, .ref (za G (zob x k))), (5, .int a), (6, .int z)]) hx hb dX7_talksAfter_118 hl (k := 8) rfl (zinc j) (by decide) rfl (fun ls hl => ?_)
                refine lv_goto (tgt := 64) hx hb dX7_talksAfter_121 (by decide) ?_
                exact ih64 (j + 1) a z (by omega) (zex_f h2 (fun h => h.1 c_83)) (zsum_f h3 (if_neg (fun h => h.1 c_83))) (by omega) _ _ hI ls (lv_sub hl [2, 3, 4, 5, 6, 7, 8, 0] rfl)
              · skip
                rw [zqE (by omega) (by omega)] at c_83
                refine lv_iload_n hx hb dX7_talksAfter_86 rfl (lv_at hl 3 rfl) ?_
                refine lv_iload hx hb dX7_talksAfter_87 (lv_at hl 0 rfl) ?_
                refine z_calli (va_runSN (As := [.int b, .int (x.1 4 j)]) (rest := []) ⟨hx, hb, hml, hown, hts⟩ ((c_X11_hasBit l hG x b (x.1 4 j)) A) ⟨va_cnB 2 hts gX7_talksAfter_X11_hasBit_n42 rfl rfl rfl (hN.1 _ (z_mem 1 rfl)) (hts (.initialized RX11) (z_mem 29 rfl)) (by decide +kernel) ⟨Nat.le_of_ble_eq_true rfl, Nat.le_of_ble_eq_true rfl⟩, hts (.static yX11_hasBit) (z_mem 28 rfl), trivial⟩ (z_pS hI hK hN) rfl rfl hl.1 rfl (lv_room (Nat.le_of_ble_eq_true rfl)) dX7_talksAfter_89 ⟨Nat.zero_le _, Nat.zero_le _⟩) hI (fun r_89 u H locs hw hI => ?_)
                obtain ⟨rfl, rfl⟩ := hw
                refine lv_if_eq (tgt := 118) hx hb dX7_talksAfter_92 (by decide) (fun c_92 => ?_) (fun c_92 => ?_)
                · skip
                  rw [zb_0] at c_92
                  refine lv_iinc (v := (nI (j + 1))) (lv' := [(7, .int (nI (j + 1))), (8, .int (x.1 4 j)), (0, .ref (za G 1)), (1, .int (nI t)), (2, .int b), (3, .int hu), (4, .ref (za G (zob x k))), (5, .int a), (6, .int z)]) hx hb dX7_talksAfter_118 hl (k := 8) rfl (zinc j) (by decide) rfl (fun ls hl => ?_)
                  refine lv_goto (tgt := 64) hx hb dX7_talksAfter_121 (by decide) ?_
                  exact ih64 (j + 1) a z (by omega) (zex_f h2 (fun h => c_92 h.2.1)) (zsum_f h3 (if_neg (fun h => c_92 h.2.1))) (by omega) _ _ hI ls (lv_sub hl [2, 3, 4, 5, 6, 7, 8, 0] rfl)
                · skip
                  rw [zb_0, Classical.not_not] at c_92
                  refine lv_iload_n hx hb dX7_talksAfter_95 rfl (lv_at hl 2 rfl) ?_
                  refine lv_iload hx hb dX7_talksAfter_96 (lv_at hl 8 rfl) ?_
                  refine z_calli (va_runS (As := [.int (nI t), .int (nI j)]) (rest := []) ⟨hx, hb, hml, hown, hts⟩ ((c_X7_isNear l hG x t j (by omega) (by omega)) A) (va_cwS 2 hts gX7_talksAfter_X7_isNear rfl rfl rfl (by decide +kernel) ⟨Nat.le_of_ble_eq_true rfl, Nat.le_of_ble_eq_true rfl⟩) (z_pS hI hK hN) rfl rfl hl.1 rfl (lv_room (Nat.le_of_ble_eq_true rfl)) dX7_talksAfter_98 ⟨Nat.zero_le _, Nat.zero_le _⟩) hI (fun r_98 u H locs hw hI => ?_)
                  obtain ⟨rfl, rfl⟩ := hw
                  refine lv_if_eq (tgt := 118) hx hb dX7_talksAfter_101 (by decide) (fun c_101 => ?_) (fun c_101 => ?_)
                  · skip
                    rw [zb_0] at c_101
                    refine lv_iinc (v := (nI (j + 1))) (lv' := [(7, .int (nI (j + 1))), (8, .int (x.1 4 j)), (0, .ref (za G 1)), (1, .int (nI t)), (2, .int b), (3, .int hu), (4, .ref (za G (zob x k))), (5, .int a), (6, .int z)]) hx hb dX7_talksAfter_118 hl (k := 8) rfl (zinc j) (by decide) rfl (fun ls hl => ?_)
                    refine lv_goto (tgt := 64) hx hb dX7_talksAfter_121 (by decide) ?_
                    exact ih64 (j + 1) a z (by omega) (zex_f h2 (fun h => c_101 h.2.2)) (zsum_f h3 (if_neg (fun h => c_101 h.2.2))) (by omega) _ _ hI ls (lv_sub hl [2, 3, 4, 5, 6, 7, 8, 0] rfl)
                  · skip
                    rw [zb_0, Classical.not_not] at c_101
                    have hnb : znb x b t j := ⟨c_83, c_92, c_101⟩
                    obtain ⟨q, hq, hqk⟩ := zsitN hn (by omega) c_92
                    rw [hqk] at hl
                    refine lv_iconst (v := (nI 1)) hx hb dX7_talksAfter_104 rfl ?_
                    refine lv_istore (lv' := [(5, .int (nI 1)), (8, .int (nI q)), (0, .ref (za G 1)), (1, .int (nI t)), (2, .int b), (3, .int hu), (4, .ref (za G (zob x k))), (6, .int z), (7, .int (nI j))]) hx hb dX7_talksAfter_105 hl (by decide) rfl (fun ls hl => ?_)
                    refine lv_iload hx hb dX7_talksAfter_107 (lv_at hl 7 rfl) ?_
                    refine lv_aload_n hx hb dX7_talksAfter_109 rfl (lv_at hl 2 rfl) ?_
                    refine lv_iload hx hb dX7_talksAfter_110 (lv_at hl 1 rfl) ?_
                    refine z_calli (va_runV (As := [.int (nI q)]) (rest := [.int z]) ⟨hx, hb, hml, hown, hts⟩ ((c_X7_talksOf l hG x N q hn (by omega)) A) (cwV 1 hts gX7_talksAfter_X7_talksOf rfl rfl rfl (by decide +kernel) ⟨Nat.le_of_ble_eq_true rfl, Nat.le_of_ble_eq_true rfl⟩) (z_pV hI hK hN (z_recv hK hI (zo1 hG) rfl)) rfl rfl hl.1 rfl (lv_room (Nat.le_of_ble_eq_true rfl)) dX7_talksAfter_112 ⟨Nat.zero_le _, Nat.zero_le _⟩) hI (fun r_112 u H locs hw hI => ?_)
                    obtain ⟨rfl, rfl⟩ := hw
                    refine lv_iadd hx hb dX7_talksAfter_115 ?_
                    refine lv_istore (lv' := [(6, .int (z + (x.1 (zob x q) 2))), (5, .int (nI 1)), (8, .int (nI q)), (0, .ref (za G 1)), (1, .int (nI t)), (2, .int b), (3, .int hu), (4, .ref (za G (zob x k))), (7, .int (nI j))]) hx hb dX7_talksAfter_116 hl (by decide) rfl (fun ls hl => ?_)
                    refine lv_iinc (v := (nI (j + 1))) (lv' := [(7, .int (nI (j + 1))), (6, .int (z + (x.1 (zob x q) 2))), (5, .int (nI 1)), (8, .int (nI q)), (0, .ref (za G 1)), (1, .int (nI t)), (2, .int b), (3, .int hu), (4, .ref (za G (zob x k)))]) hx hb dX7_talksAfter_118 hl (k := 8) rfl (zinc j) (by decide) rfl (fun ls hl => ?_)
                    refine lv_goto (tgt := 64) hx hb dX7_talksAfter_121 (by decide) ?_
                    exact ih64 (j + 1) (nI 1) (z + (x.1 (zob x q) 2)) (by omega) (zex_t hnb) (zsum_t h3 (by rw [if_pos hnb, hqk, nI_clamp (by omega)])) (by omega) _ _ hI ls (lv_sub hl [4, 5, 6, 7, 8, 2, 1, 0] rfl)
        exact L64 (9) 0 (nI 0) (nI 0) (by omega) (by rw [if_neg (by rintro ⟨o, h, -⟩; omega)]) rfl (by omega) _ _ hI ls (lv_sub hl [4, 5, 6, 7, 3, 2, 1, 0] rfl)
      · skip
        rw [zb_0, Classical.not_not] at c_38
        refine lv_iload_n hx hb dX7_talksAfter_41 rfl (lv_at hl 3 rfl) ?_
        refine lv_aload hx hb dX7_talksAfter_42 (lv_at hl 0 rfl) ?_
        refine z_getP hx hb hts ⟨hin0, hin1, hin2, hin3, hin4, hin8, hin10⟩ hown hK hG hI (hn.2.2.1 k hk).2.1 (hn.2.2.1 k hk).2.2.1 0 (by decide) wF107 (fun _ h9 => h9) dX7_talksAfter_44 ?_
        rw [(hn.2.2.1 k hk).2.2.2]
        refine z_calli (va_runSN (As := [.int b, .int (nI k)]) (rest := []) ⟨hx, hb, hml, hown, hts⟩ ((c_X11_hasBit l hG x b (nI k)) A) ⟨va_cnB 2 hts gX7_talksAfter_X11_hasBit_n42 rfl rfl rfl (hN.1 _ (z_mem 1 rfl)) (hts (.initialized RX11) (z_mem 29 rfl)) (by decide +kernel) ⟨Nat.le_of_ble_eq_true rfl, Nat.le_of_ble_eq_true rfl⟩, hts (.static yX11_hasBit) (z_mem 28 rfl), trivial⟩ (z_pS hI hK hN) rfl rfl hl.1 rfl (lv_room (Nat.le_of_ble_eq_true rfl)) dX7_talksAfter_47 ⟨Nat.zero_le _, Nat.zero_le _⟩) hI (fun r_47 u H locs hw hI => ?_)
        obtain ⟨rfl, rfl⟩ := hw
        refine lv_if_eq (tgt := 55) hx hb dX7_talksAfter_50 (by decide) (fun c_50 => ?_) (fun c_50 => ?_)
        · skip
          rw [zb_0] at c_50
          refine lv_iconst (v := (nI 0)) hx hb dX7_talksAfter_55 rfl ?_
          refine lv_istore (lv' := [(5, .int (nI 0)), (4, .ref (za G (zob x k))), (0, .ref (za G 1)), (1, .int (nI t)), (2, .int b), (3, .int hu)]) hx hb dX7_talksAfter_56 hl (by decide) rfl (fun ls hl => ?_)
          refine lv_iconst (v := (nI 0)) hx hb dX7_talksAfter_58 rfl ?_
          refine lv_istore (lv' := [(6, .int (nI 0)), (5, .int (nI 0)), (4, .ref (za G (zob x k))), (0, .ref (za G 1)), (1, .int (nI t)), (2, .int b), (3, .int hu)]) hx hb dX7_talksAfter_59 hl (by decide) rfl (fun ls hl => ?_)
          refine lv_iconst (v := (nI 0)) hx hb dX7_talksAfter_61 rfl ?_
          refine lv_istore (lv' := [(7, .int (nI 0)), (6, .int (nI 0)), (5, .int (nI 0)), (4, .ref (za G (zob x k))), (0, .ref (za G 1)), (1, .int (nI t)), (2, .int b), (3, .int hu)]) hx hb dX7_talksAfter_62 hl (by decide) rfl (fun ls hl => ?_)
          have L64 : ∀ (f : Nat) (j : Nat) (a : Int32) (z : Int32), (j ≤ 8) → (a = if (∃ o, o < j ∧ znb x b t o) then nI 1 else nI 0) → (z = znoise x b t j) → 9 ≤ j + f → ∀ (H : Heap) (locs : List Loc), zI G x A s.heap H locs → ∀ ls : Array Slot, lv_has ls 9 [(0, .ref (za G 1)), (1, .int (nI t)), (2, .int b), (3, .int hu), (4, .ref (za G (zob x k))), (5, .int a), (6, .int z), (7, .int (nI j))] → W p l e { frames := 2, cells := 0, slots := 0, locals := 43 } s m ([.ref (za G 1), .int (nI t), .int b, .int hu] : List Value).toArray below meth c H locs 0 0 (MQ below (va_Qi (fun (r : Int32) (u : zX) => x = u ∧ (if ztk G x b hu t k then nI 1 else nI 0) = r) (fun u t => zJ G u A t.heap) A) ([.ref (za G 1), .int (nI t), .int b, .int hu] : List Value).toArray s 0 0 A) (F0 m 64 ls []) := by
            intro f
            induction f with
            | zero =>
              intro j a z h1 h2 h3 hf
              exact absurd hf (by omega)
            | succ f ih =>
              intro j a z h1 h2 h3 hf H locs hI ls hl
              have ih64 := ih
              refine lv_iload hx hb dX7_talksAfter_64 (lv_at hl 7 rfl) ?_
              refine lv_bipush (v := (nI 8)) hx hb dX7_talksAfter_66 rfl ?_
              refine lv_icmp_ge (tgt := 124) hx hb dX7_talksAfter_68 (by decide) (fun c_68 => ?_) (fun c_68 => ?_)
              · skip
                rw [zqG (by omega) (by omega)] at c_68
                refine lv_iload hx hb dX7_talksAfter_124 (lv_at hl 5 rfl) ?_
                refine lv_if_eq (tgt := 147) hx hb dX7_talksAfter_126 (by decide) (fun c_126 => ?_) (fun c_126 => ?_)
                · skip
                  rw [h2] at c_126; rw [zb_0] at c_126
                  refine lv_iconst (v := (nI 0)) hx hb dX7_talksAfter_147 rfl ?_
                  exact z_zret hx hb hr hlocks hI (Or.inl rfl) (⟨rfl, if_neg (fun h => h.elim (fun h => c_50 h.2) (fun h => c_126 (by rw [show j = 8 by omega]; exact h.1)))⟩) dX7_talksAfter_148
                · skip
                  rw [h2] at c_126; rw [zb_0, Classical.not_not] at c_126
                  refine lv_iload hx hb dX7_talksAfter_129 (lv_at hl 6 rfl) ?_
                  refine lv_iconst (v := (nI 2)) hx hb dX7_talksAfter_131 rfl ?_
                  refine lv_idiv hx hb dX7_talksAfter_132 (by decide) ?_
                  refine lv_aload hx hb dX7_talksAfter_133 (lv_at hl 4 rfl) ?_
                  refine z_getP hx hb hts ⟨hin0, hin1, hin2, hin3, hin4, hin8, hin10⟩ hown hK hG hI (hn.2.2.1 k hk).2.1 (hn.2.2.1 k hk).2.2.1 2 (by decide) wF96 (fun _ h9 => h9) dX7_talksAfter_135 ?_
                  refine lv_iadd hx hb dX7_talksAfter_138 ?_
                  refine lv_iload_n hx hb dX7_talksAfter_139 rfl (lv_at hl 3 rfl) ?_
                  refine lv_icmp_le (tgt := 147) hx hb dX7_talksAfter_140 (by decide) (fun c_140 => ?_) (fun c_140 => ?_)
                  · skip
                    refine lv_iconst (v := (nI 0)) hx hb dX7_talksAfter_147 rfl ?_
                    exact z_zret hx hb hr hlocks hI (Or.inl rfl) (⟨rfl, if_neg (fun h => h.elim (fun h => c_50 h.2) (fun h => h.2 (by rw [show (8 : Nat) = j by omega, ← h3]; exact c_140)))⟩) dX7_talksAfter_148
                  · skip
                    refine lv_iconst (v := (nI 1)) hx hb dX7_talksAfter_143 rfl ?_
                    refine lv_goto (tgt := 148) hx hb dX7_talksAfter_144 (by decide) ?_
                    exact z_zret hx hb hr hlocks hI (Or.inr rfl) (⟨rfl, if_pos (Or.inr ⟨(by rw [show (8 : Nat) = j by omega]; exact c_126), (by rw [show (8 : Nat) = j by omega, ← h3]; exact c_140)⟩)⟩) dX7_talksAfter_148
              · skip
                rw [zqG (by omega) (by omega)] at c_68
                refine lv_aload_n hx hb dX7_talksAfter_71 rfl (lv_at hl 0 rfl) ?_
                refine z_get (C := RX7) (T := TX7) (N := 7) (ci := 7) (v := .ref (za G 4)) hx hb hts hin7 hown hK hI (zo1 hG) rfl 1 (by decide) wF17 (fun _ h9 => h9) rfl dX7_talksAfter_72 ?_
                refine lv_iload hx hb dX7_talksAfter_75 (lv_at hl 7 rfl) ?_
                refine z_iald (v := (x.1 4 j)) hx hb hK hI (zo4 hG) j rfl (by omega) (by decide) rfl dX7_talksAfter_77 ?_
                refine lv_istore (lv' := [(8, .int (x.1 4 j)), (0, .ref (za G 1)), (1, .int (nI t)), (2, .int b), (3, .int hu), (4, .ref (za G (zob x k))), (5, .int a), (6, .int z), (7, .int (nI j))]) hx hb dX7_talksAfter_78 hl (by decide) rfl (fun ls hl => ?_)
                refine lv_iload hx hb dX7_talksAfter_80 (lv_at hl 8 rfl) ?_
                refine lv_iload_n hx hb dX7_talksAfter_82 rfl (lv_at hl 2 rfl) ?_
                refine lv_icmp_eq (tgt := 118) hx hb dX7_talksAfter_83 (by decide) (fun c_83 => ?_) (fun c_83 => ?_)
                · skip
                  rw [zqE (by omega) (by omega)] at c_83
                  refine lv_iinc (v := (nI (j + 1))) (lv' := [(7, .int (nI (j + 1))), (8, .int (x.1 4 j)), (0, .ref (za G 1)), (1, .int (nI t)), (2, .int b), (3, .int hu), (4, .ref (za G (zob x k))), (5, .int a), (6, .int z)]) hx hb dX7_talksAfter_118 hl (k := 8) rfl (zinc j) (by decide) rfl (fun ls hl => ?_)
                  refine lv_goto (tgt := 64) hx hb dX7_talksAfter_121 (by decide) ?_
                  exact ih64 (j + 1) a z (by omega) (zex_f h2 (fun h => h.1 c_83)) (zsum_f h3 (if_neg (fun h => h.1 c_83))) (by omega) _ _ hI ls (lv_sub hl [2, 3, 4, 5, 6, 7, 8, 0] rfl)
                · skip
                  rw [zqE (by omega) (by omega)] at c_83
                  refine lv_iload_n hx hb dX7_talksAfter_86 rfl (lv_at hl 3 rfl) ?_
                  refine lv_iload hx hb dX7_talksAfter_87 (lv_at hl 0 rfl) ?_
                  refine z_calli (va_runSN (As := [.int b, .int (x.1 4 j)]) (rest := []) ⟨hx, hb, hml, hown, hts⟩ ((c_X11_hasBit l hG x b (x.1 4 j)) A) ⟨va_cnB 2 hts gX7_talksAfter_X11_hasBit_n42 rfl rfl rfl (hN.1 _ (z_mem 1 rfl)) (hts (.initialized RX11) (z_mem 29 rfl)) (by decide +kernel) ⟨Nat.le_of_ble_eq_true rfl, Nat.le_of_ble_eq_true rfl⟩, hts (.static yX11_hasBit) (z_mem 28 rfl), trivial⟩ (z_pS hI hK hN) rfl rfl hl.1 rfl (lv_room (Nat.le_of_ble_eq_true rfl)) dX7_talksAfter_89 ⟨Nat.zero_le _, Nat.zero_le _⟩) hI (fun r_89 u H locs hw hI => ?_)
                  obtain ⟨rfl, rfl⟩ := hw
                  refine lv_if_eq (tgt := 118) hx hb dX7_talksAfter_92 (by decide) (fun c_92 => ?_) (fun c_92 => ?_)
                  · skip
                    rw [zb_0] at c_92
                    refine lv_iinc (v := (nI (j + 1))) (lv' := [(7, .int (nI (j + 1))), (8, .int (x.1 4 j)), (0, .ref (za G 1)), (1, .int (nI t)), (2, .int b), (3, .int hu), (4, .ref (za G (zob x k))), (5, .int a), (6, .int z)]) hx hb dX7_talksAfter_118 hl (k := 8) rfl (zinc j) (by decide) rfl (fun ls hl => ?_)
                    refine lv_goto (tgt := 64) hx hb dX7_talksAfter_121 (by decide) ?_
                    exact ih64 (j + 1) a z (by omega) (zex_f h2 (fun h => c_92 h.2.1)) (zsum_f h3 (if_neg (fun h => c_92 h.2.1))) (by omega) _ _ hI ls (lv_sub hl [2, 3, 4, 5, 6, 7, 8, 0] rfl)
                  · skip
                    rw [zb_0, Classical.not_not] at c_92
                    refine lv_iload_n hx hb dX7_talksAfter_95 rfl (lv_at hl 2 rfl) ?_
                    refine lv_iload hx hb dX7_talksAfter_96 (lv_at hl 8 rfl) ?_
                    refine z_calli (va_runS (As := [.int (nI t), .int (nI j)]) (rest := []) ⟨hx, hb, hml, hown, hts⟩ ((c_X7_isNear l hG x t j (by omega) (by omega)) A) (va_cwS 2 hts gX7_talksAfter_X7_isNear rfl rfl rfl (by decide +kernel) ⟨Nat.le_of_ble_eq_true rfl, Nat.le_of_ble_eq_true rfl⟩) (z_pS hI hK hN) rfl rfl hl.1 rfl (lv_room (Nat.le_of_ble_eq_true rfl)) dX7_talksAfter_98 ⟨Nat.zero_le _, Nat.zero_le _⟩) hI (fun r_98 u H locs hw hI => ?_)
                    obtain ⟨rfl, rfl⟩ := hw
                    refine lv_if_eq (tgt := 118) hx hb dX7_talksAfter_101 (by decide) (fun c_101 => ?_) (fun c_101 => ?_)
                    · skip
                      rw [zb_0] at c_101
                      refine lv_iinc (v := (nI (j + 1))) (lv' := [(7, .int (nI (j + 1))), (8, .int (x.1 4 j)), (0, .ref (za G 1)), (1, .int (nI t)), (2, .int b), (3, .int hu), (4, .ref (za G (zob x k))), (5, .int a), (6, .int z)]) hx hb dX7_talksAfter_118 hl (k := 8) rfl (zinc j) (by decide) rfl (fun ls hl => ?_)
                      refine lv_goto (tgt := 64) hx hb dX7_talksAfter_121 (by decide) ?_
                      exact ih64 (j + 1) a z (by omega) (zex_f h2 (fun h => c_101 h.2.2)) (zsum_f h3 (if_neg (fun h => c_101 h.2.2))) (by omega) _ _ hI ls (lv_sub hl [2, 3, 4, 5, 6, 7, 8, 0] rfl)
                    · skip
                      rw [zb_0, Classical.not_not] at c_101
                      have hnb : znb x b t j := ⟨c_83, c_92, c_101⟩
                      obtain ⟨q, hq, hqk⟩ := zsitN hn (by omega) c_92
                      rw [hqk] at hl
                      refine lv_iconst (v := (nI 1)) hx hb dX7_talksAfter_104 rfl ?_
                      refine lv_istore (lv' := [(5, .int (nI 1)), (8, .int (nI q)), (0, .ref (za G 1)), (1, .int (nI t)), (2, .int b), (3, .int hu), (4, .ref (za G (zob x k))), (6, .int z), (7, .int (nI j))]) hx hb dX7_talksAfter_105 hl (by decide) rfl (fun ls hl => ?_)
                      refine lv_iload hx hb dX7_talksAfter_107 (lv_at hl 7 rfl) ?_
                      refine lv_aload_n hx hb dX7_talksAfter_109 rfl (lv_at hl 2 rfl) ?_
                      refine lv_iload hx hb dX7_talksAfter_110 (lv_at hl 1 rfl) ?_
                      refine z_calli (va_runV (As := [.int (nI q)]) (rest := [.int z]) ⟨hx, hb, hml, hown, hts⟩ ((c_X7_talksOf l hG x N q hn (by omega)) A) (cwV 1 hts gX7_talksAfter_X7_talksOf rfl rfl rfl (by decide +kernel) ⟨Nat.le_of_ble_eq_true rfl, Nat.le_of_ble_eq_true rfl⟩) (z_pV hI hK hN (z_recv hK hI (zo1 hG) rfl)) rfl rfl hl.1 rfl (lv_room (Nat.le_of_ble_eq_true rfl)) dX7_talksAfter_112 ⟨Nat.zero_le _, Nat.zero_le _⟩) hI (fun r_112 u H locs hw hI => ?_)
                      obtain ⟨rfl, rfl⟩ := hw
                      refine lv_iadd hx hb dX7_talksAfter_115 ?_
                      refine lv_istore (lv' := [(6, .int (z + (x.1 (zob x q) 2))), (5, .int (nI 1)), (8, .int (nI q)), (0, .ref (za G 1)), (1, .int (nI t)), (2, .int b), (3, .int hu), (4, .ref (za G (zob x k))), (7, .int (nI j))]) hx hb dX7_talksAfter_116 hl (by decide) rfl (fun ls hl => ?_)
                      refine lv_iinc (v := (nI (j + 1))) (lv' := [(7, .int (nI (j + 1))), (6, .int (z + (x.1 (zob x q) 2))), (5, .int (nI 1)), (8, .int (nI q)), (0, .ref (za G 1)), (1, .int (nI t)), (2, .int b), (3, .int hu), (4, .ref (za G (zob x k)))]) hx hb dX7_talksAfter_118 hl (k := 8) rfl (zinc j) (by decide) rfl (fun ls hl => ?_)
                      refine lv_goto (tgt := 64) hx hb dX7_talksAfter_121 (by decide) ?_
                      exact ih64 (j + 1) (nI 1) (z + (x.1 (zob x q) 2)) (by omega) (zex_t hnb) (zsum_t h3 (by rw [if_pos hnb, hqk, nI_clamp (by omega)])) (by omega) _ _ hI ls (lv_sub hl [4, 5, 6, 7, 8, 2, 1, 0] rfl)
          exact L64 (9) 0 (nI 0) (nI 0) (by omega) (by rw [if_neg (by rintro ⟨o, h, -⟩; omega)]) rfl (by omega) _ _ hI ls (lv_sub hl [4, 5, 6, 7, 3, 2, 1, 0] rfl)
        · skip
          rw [zb_0, Classical.not_not] at c_50
          refine lv_iconst (v := (nI 1)) hx hb dX7_talksAfter_53 rfl ?_
          exact z_zret hx hb hr hlocks hI (Or.inr rfl) (⟨rfl, if_pos (Or.inl ⟨c_38, c_50⟩)⟩) dX7_talksAfter_54
set_option maxHeartbeats 4000000 in
set_option maxRecDepth 100000 in
theorem c_X7_talkersAfter (l : Launch) {G : zG} (hG : zOK G) (x : zX) (N : Nat) (b hu w : Int32) (hn : zNow G x N) : zMi l yX7_talkersAfter wsX7_talkersAfter { frames := 3, cells := 0, slots := 0, locals := 71 } G [.ref (za G 1), .int b, .int hu, .int w] x (fun (r : Int32) (u : zX) => x = u ∧ zlater G x b hu w = r) := by
  intro A
  refine zBody (cc := cX7_talkersAfter) (maxL := 7) (ret := (some .int)) (by decide) rfl (Nat.le_of_ble_eq_true rfl) ?_
  intro p e s m below meth c hx hb hml hown hts hr hlocks hK hN hI ls hl
  have hown : s.vm.findClass RX7 = some m.cls := hown
  have hl : lv_has ls 7 [(0, .ref (za G 1)), (1, .int b), (2, .int hu), (3, .int w)] := hl
  have hin7 : ∀ w ∈ wsX70, w ∈ wsX7_talkersAfter := (fun _ h => List.mem_cons_of_mem _ (List.mem_append_left _ (List.mem_append_left _ (List.mem_append_left _ (List.mem_append_left _ (List.mem_append_left _ (List.mem_append_left _ (List.mem_append_left _ (List.mem_append_right _ (h))))))))))
  have wF17 := hts (.fieldLink RX7 17 "WhoSitsBy$Standing" "sitters" "[I") (z_mem 1 rfl)
  have h8 := hn.1
  refine lv_iconst (v := (nI 0)) hx hb dX7_talkersAfter_0 rfl ?_
  refine lv_istore (lv' := [(4, .int (nI 0)), (0, .ref (za G 1)), (1, .int b), (2, .int hu), (3, .int w)]) hx hb dX7_talkersAfter_1 hl (by decide) rfl (fun ls hl => ?_)
  refine lv_iconst (v := (nI 0)) hx hb dX7_talkersAfter_3 rfl ?_
  refine lv_istore (lv' := [(5, .int (nI 0)), (4, .int (nI 0)), (0, .ref (za G 1)), (1, .int b), (2, .int hu), (3, .int w)]) hx hb dX7_talkersAfter_4 hl (by decide) rfl (fun ls hl => ?_)
  have L6 : ∀ (f : Nat) (j : Nat) (a : Int32), (j ≤ 8) → (a = zors (fun t => if ¬ x.1 4 t = -1 ∧ ¬ x.1 4 t = w ∧ ztk G x b hu t (x.1 4 t).toNatClampNeg then nI 1 <<< (x.1 4 t &&& 31) else 0) j) → 9 ≤ j + f → ∀ (H : Heap) (locs : List Loc), zI G x A s.heap H locs → ∀ ls : Array Slot, lv_has ls 7 [(0, .ref (za G 1)), (1, .int b), (2, .int hu), (3, .int w), (4, .int a), (5, .int (nI j))] → W p l e { frames := 3, cells := 0, slots := 0, locals := 71 } s m ([.ref (za G 1), .int b, .int hu, .int w] : List Value).toArray below meth c H locs 0 0 (MQ below (va_Qi (fun (r : Int32) (u : zX) => x = u ∧ zlater G x b hu w = r) (fun u t => zJ G u A t.heap) A) ([.ref (za G 1), .int b, .int hu, .int w] : List Value).toArray s 0 0 A) (F0 m 6 ls []) := by
    intro f
    induction f with
    | zero =>
      intro j a h1 h2 hf
      exact absurd hf (by omega)
    | succ f ih =>
      intro j a h1 h2 hf H locs hI ls hl
      have ih6 := ih
      refine lv_iload hx hb dX7_talkersAfter_6 (lv_at hl 5 rfl) ?_
      refine lv_bipush (v := (nI 8)) hx hb dX7_talkersAfter_8 rfl ?_
      refine lv_icmp_ge (tgt := 60) hx hb dX7_talkersAfter_10 (by decide) (fun c_10 => ?_) (fun c_10 => ?_)
      · skip
        rw [zqG (by omega) (by omega)] at c_10
        refine lv_iload hx hb dX7_talkersAfter_60 (lv_at hl 4 rfl) ?_
        exact z_iret hx hb hr hlocks hI (⟨rfl, by rw [h2, show j = 8 by omega]; rfl⟩) dX7_talkersAfter_62
      · skip
        rw [zqG (by omega) (by omega)] at c_10
        refine lv_aload_n hx hb dX7_talkersAfter_13 rfl (lv_at hl 0 rfl) ?_
        refine z_get (C := RX7) (T := TX7) (N := 7) (ci := 7) (v := .ref (za G 4)) hx hb hts hin7 hown hK hI (zo1 hG) rfl 1 (by decide) wF17 (fun _ h9 => h9) rfl dX7_talkersAfter_14 ?_
        refine lv_iload hx hb dX7_talkersAfter_17 (lv_at hl 5 rfl) ?_
        refine z_iald (v := (x.1 4 j)) hx hb hK hI (zo4 hG) j rfl (by omega) (by decide) rfl dX7_talkersAfter_19 ?_
        refine lv_istore (lv' := [(6, .int (x.1 4 j)), (0, .ref (za G 1)), (1, .int b), (2, .int hu), (3, .int w), (4, .int a), (5, .int (nI j))]) hx hb dX7_talkersAfter_20 hl (by decide) rfl (fun ls hl => ?_)
        refine lv_iload hx hb dX7_talkersAfter_22 (lv_at hl 0 rfl) ?_
        refine lv_iconst (v := (-1)) hx hb dX7_talkersAfter_24 rfl ?_
        refine lv_icmp_eq (tgt := 54) hx hb dX7_talkersAfter_25 (by decide) (fun c_25 => ?_) (fun c_25 => ?_)
        · skip
          refine lv_iinc (v := (nI (j + 1))) (lv' := [(5, .int (nI (j + 1))), (6, .int (x.1 4 j)), (0, .ref (za G 1)), (1, .int b), (2, .int hu), (3, .int w), (4, .int a)]) hx hb dX7_talkersAfter_54 hl (k := 6) rfl (zinc j) (by decide) rfl (fun ls hl => ?_)
          refine lv_goto (tgt := 6) hx hb dX7_talkersAfter_57 (by decide) ?_
          exact ih6 (j + 1) a (by omega) (zors_f h2 (if_neg (fun h => h.1 c_25))) (by omega) _ _ hI ls (lv_sub hl [2, 3, 4, 5, 6, 0] rfl)
        · skip
          refine lv_iload hx hb dX7_talkersAfter_28 (lv_at hl 0 rfl) ?_
          refine lv_iload_n hx hb dX7_talkersAfter_30 rfl (lv_at hl 4 rfl) ?_
          refine lv_icmp_eq (tgt := 54) hx hb dX7_talkersAfter_31 (by decide) (fun c_31 => ?_) (fun c_31 => ?_)
          · skip
            refine lv_iinc (v := (nI (j + 1))) (lv' := [(5, .int (nI (j + 1))), (6, .int (x.1 4 j)), (0, .ref (za G 1)), (1, .int b), (2, .int hu), (3, .int w), (4, .int a)]) hx hb dX7_talkersAfter_54 hl (k := 6) rfl (zinc j) (by decide) rfl (fun ls hl => ?_)
            refine lv_goto (tgt := 6) hx hb dX7_talkersAfter_57 (by decide) ?_
            exact ih6 (j + 1) a (by omega) (zors_f h2 (if_neg (fun h => h.2.1 c_31))) (by omega) _ _ hI ls (lv_sub hl [2, 3, 4, 5, 6, 0] rfl)
          · skip
            obtain ⟨q, hq, hqk⟩ := zsitP hn (by omega) c_25
            rw [hqk] at hl
            refine lv_aload_n hx hb dX7_talkersAfter_34 rfl (lv_at hl 1 rfl) ?_
            refine lv_iload hx hb dX7_talkersAfter_35 (lv_at hl 6 rfl) ?_
            refine lv_iload_n hx hb dX7_talkersAfter_37 rfl (lv_at hl 2 rfl) ?_
            refine lv_iload_n hx hb dX7_talkersAfter_38 rfl (lv_at hl 3 rfl) ?_
            refine z_calli (va_runV (As := [.int (nI j), .int b, .int hu]) (rest := []) ⟨hx, hb, hml, hown, hts⟩ ((c_X7_talksAfter l hG x N j q b hu hn (by omega) hq hqk) A) (cwV 3 hts gX7_talkersAfter_X7_talksAfter rfl rfl rfl (by decide +kernel) ⟨Nat.le_of_ble_eq_true rfl, Nat.le_of_ble_eq_true rfl⟩) (z_pV hI hK hN (z_recv hK hI (zo1 hG) rfl)) rfl rfl hl.1 rfl (lv_room (Nat.le_of_ble_eq_true rfl)) dX7_talkersAfter_39 ⟨Nat.zero_le _, Nat.zero_le _⟩) hI (fun r_39 u H locs hw hI => ?_)
            obtain ⟨rfl, rfl⟩ := hw
            refine lv_if_eq (tgt := 54) hx hb dX7_talkersAfter_42 (by decide) (fun c_42 => ?_) (fun c_42 => ?_)
            · skip
              rw [zb_0] at c_42
              refine lv_iinc (v := (nI (j + 1))) (lv' := [(5, .int (nI (j + 1))), (6, .int (nI q)), (0, .ref (za G 1)), (1, .int b), (2, .int hu), (3, .int w), (4, .int a)]) hx hb dX7_talkersAfter_54 hl (k := 6) rfl (zinc j) (by decide) rfl (fun ls hl => ?_)
              refine lv_goto (tgt := 6) hx hb dX7_talkersAfter_57 (by decide) ?_
              exact ih6 (j + 1) a (by omega) (zors_f h2 (if_neg (fun h => c_42 (by have h9 := h.2.2; rw [hqk, nI_clamp (by omega)] at h9; exact h9)))) (by omega) _ _ hI ls (lv_sub hl [2, 3, 4, 5, 6, 0] rfl)
            · skip
              rw [zb_0, Classical.not_not] at c_42
              refine lv_iload hx hb dX7_talkersAfter_45 (lv_at hl 5 rfl) ?_
              refine lv_iconst (v := (nI 1)) hx hb dX7_talkersAfter_47 rfl ?_
              refine lv_iload hx hb dX7_talkersAfter_48 (lv_at hl 0 rfl) ?_
              refine lv_ishl hx hb dX7_talkersAfter_50 ?_
              refine lv_ior hx hb dX7_talkersAfter_51 ?_
              refine lv_istore (lv' := [(4, .int (a ||| ((nI 1) <<< ((nI q) &&& 31)))), (6, .int (nI q)), (0, .ref (za G 1)), (1, .int b), (2, .int hu), (3, .int w), (5, .int (nI j))]) hx hb dX7_talkersAfter_52 hl (by decide) rfl (fun ls hl => ?_)
              refine lv_iinc (v := (nI (j + 1))) (lv' := [(5, .int (nI (j + 1))), (4, .int (a ||| ((nI 1) <<< ((nI q) &&& 31)))), (6, .int (nI q)), (0, .ref (za G 1)), (1, .int b), (2, .int hu), (3, .int w)]) hx hb dX7_talkersAfter_54 hl (k := 6) rfl (zinc j) (by decide) rfl (fun ls hl => ?_)
              refine lv_goto (tgt := 6) hx hb dX7_talkersAfter_57 (by decide) ?_
              exact ih6 (j + 1) (a ||| ((nI 1) <<< ((nI q) &&& 31))) (by omega) (zors_t h2 (by rw [if_pos ⟨c_25, c_31, (by rw [hqk, nI_clamp (by omega)]; exact c_42)⟩, hqk])) (by omega) _ _ hI ls (lv_sub hl [3, 4, 5, 6, 1, 0] rfl)
  exact L6 (9) 0 (nI 0) (by omega) rfl (by omega) _ _ hI ls (lv_sub hl [2, 3, 4, 5, 1, 0] rfl)
