set_option maxHeartbeats 4000000 in
set_option maxRecDepth 100000 in
theorem c_X7_closedBits (l : Launch) {G : zG} (hG : zOK G) (x : zX) (N : Nat) (hn : zNow G x N) : zMi l yX7_closedBits wsX7_closedBits { frames := 2, cells := 0, slots := 0, locals := 43 } G [.ref (za G 1)] x (fun (r : Int32) (u : zX) => x = u ∧ (zclo (fun qq => zcl x N (nI qq)) (2 ^ N)).1 = r) := by
  intro A
  refine zBody (cc := cX7_closedBits) (maxL := 5) (ret := (some .int)) (by decide) rfl (Nat.le_of_ble_eq_true rfl) ?_
  intro p e s m below meth c hx hb hml hown hts hr hlocks hK hN hI ls hl
  have hown : s.vm.findClass RX7 = some m.cls := hown
  have hl : lv_has ls 5 [(0, .ref (za G 1))] := hl
  have hin7 : ∀ w ∈ wsX70, w ∈ wsX7_closedBits := (fun _ h => List.mem_cons_of_mem _ (List.mem_append_right _ (h)))
  have wF28 := hts (.fieldLink RX7 28 "WhoSitsBy$Standing" "size" "I") (z_mem 1 rfl)
  have h8 := hn.1
  have hp2 : 2 ^ N ≤ 256 := Nat.pow_le_pow_right (by decide) h8
  refine lv_bipush (v := (-5)) hx hb dX7_closedBits_0 rfl ?_
  refine lv_istore_n (lv' := [(1, .int (-5)), (0, .ref (za G 1))]) hx hb dX7_closedBits_2 rfl hl (by decide) rfl (fun ls hl => ?_)
  refine lv_bipush (v := (nI 9)) hx hb dX7_closedBits_3 rfl ?_
  refine lv_istore_n (lv' := [(2, .int (nI 9)), (1, .int (-5)), (0, .ref (za G 1))]) hx hb dX7_closedBits_5 rfl hl (by decide) rfl (fun ls hl => ?_)
  refine lv_iconst (v := (nI 1)) hx hb dX7_closedBits_6 rfl ?_
  refine lv_istore_n (lv' := [(3, .int (nI 1)), (2, .int (nI 9)), (1, .int (-5)), (0, .ref (za G 1))]) hx hb dX7_closedBits_7 rfl hl (by decide) rfl (fun ls hl => ?_)
  have L8 : ∀ (f : Nat) (t : Nat) (a : Int32) (b : Nat), (1 ≤ t) → (t ≤ 2 ^ N) → (zclo (fun qq => zcl x N (nI qq)) t = (a, b)) → (b ≤ 9) → 2 ^ N + 1 ≤ t + f → ∀ (H : Heap) (locs : List Loc), zI G x A s.heap H locs → ∀ ls : Array Slot, lv_has ls 5 [(0, .ref (za G 1)), (1, .int a), (2, .int (nI b)), (3, .int (nI t))] → W p l e { frames := 2, cells := 0, slots := 0, locals := 43 } s m ([.ref (za G 1)] : List Value).toArray below meth c H locs 0 0 (MQ below (va_Qi (fun (r : Int32) (u : zX) => x = u ∧ (zclo (fun qq => zcl x N (nI qq)) (2 ^ N)).1 = r) (fun u t => zJ G u A t.heap) A) ([.ref (za G 1)] : List Value).toArray s 0 0 A) (F0 m 8 ls []) := by
    intro f
    induction f with
    | zero =>
      intro t a b h0 h1 h2 h3 hf
      exact absurd hf (by omega)
    | succ f ih =>
      intro t a b h0 h1 h2 h3 hf H locs hI ls hl
      have ih8 := ih
      refine lv_iload_n hx hb dX7_closedBits_8 rfl (lv_at hl 3 rfl) ?_
      refine lv_iconst (v := (nI 1)) hx hb dX7_closedBits_9 rfl ?_
      refine lv_aload_n hx hb dX7_closedBits_10 rfl (lv_at hl 0 rfl) ?_
      refine z_get (C := RX7) (T := TX7) (N := 7) (ci := 7) (v := .int (nI N)) hx hb hts hin7 hown hK hI (zo1 hG) rfl 3 (by decide) wF28 (fun _ h9 => h9) (congrArg (fun q => some (Value.int q)) hn.2.1) dX7_closedBits_11 ?_
      refine z_ishl (v := (nI (2 ^ N))) hx hb (zp2 (by omega)) dX7_closedBits_14 ?_
      refine lv_icmp_ge (tgt := 55) hx hb dX7_closedBits_15 (by decide) (fun c_15 => ?_) (fun c_15 => ?_)
      · skip
        rw [zqG (by omega) (by omega)] at c_15
        refine lv_iload_n hx hb dX7_closedBits_55 rfl (lv_at hl 1 rfl) ?_
        exact z_iret hx hb hr hlocks hI (⟨rfl, by rw [show 2 ^ N = t by omega, h2]⟩) dX7_closedBits_56
      · skip
        rw [zqG (by omega) (by omega)] at c_15
        refine lv_iload_n hx hb dX7_closedBits_18 rfl (lv_at hl 3 rfl) ?_
        refine z_calli (va_runS (As := [.int (nI t)]) (rest := []) ⟨hx, hb, hml, hown, hts⟩ ((c_J6_bitCount_0f7a4 l hG x (nI t)) A) (va_cwS 1 hts gX7_closedBits_J6_bitCount_0f7a4 rfl rfl rfl (by decide +kernel) ⟨Nat.le_of_ble_eq_true rfl, Nat.le_of_ble_eq_true rfl⟩) (z_pS hI hK hN) rfl rfl hl.1 rfl (lv_room (Nat.le_of_ble_eq_true rfl)) dX7_closedBits_19 ⟨Nat.zero_le _, Nat.zero_le _⟩) hI (fun r_19 u H locs hw hI => ?_)
        obtain ⟨rfl, rfl⟩ := hw
        rw [zic_pop (by omega)]
        have hpb := zpop_b 8 t
        refine lv_istore (lv' := [(4, .int (nI (zpop 8 t))), (0, .ref (za G 1)), (1, .int a), (2, .int (nI b)), (3, .int (nI t))]) hx hb dX7_closedBits_22 hl (by decide) rfl (fun ls hl => ?_)
        refine lv_iload hx hb dX7_closedBits_24 (lv_at hl 0 rfl) ?_
        refine lv_iconst (v := (nI 2)) hx hb dX7_closedBits_26 rfl ?_
        refine lv_icmp_lt (tgt := 49) hx hb dX7_closedBits_27 (by decide) (fun c_27 => ?_) (fun c_27 => ?_)
        · skip
          rw [zqL (by omega) (by omega)] at c_27
          refine lv_iinc (v := (nI (t + 1))) (lv' := [(3, .int (nI (t + 1))), (4, .int (nI (zpop 8 t))), (0, .ref (za G 1)), (1, .int a), (2, .int (nI b))]) hx hb dX7_closedBits_49 hl (k := 4) rfl (zinc t) (by decide) rfl (fun ls hl => ?_)
          refine lv_goto (tgt := 8) hx hb dX7_closedBits_52 (by decide) ?_
          exact ih8 (t + 1) a b (by omega) (by omega) (by rw [zclo, h2]; exact if_neg (fun h => absurd h.1 (by omega))) h3 (by omega) _ _ hI ls (lv_sub hl [2, 3, 4, 0] rfl)
        · skip
          rw [zqL (by omega) (by omega)] at c_27
          refine lv_iload hx hb dX7_closedBits_30 (lv_at hl 0 rfl) ?_
          refine lv_iload_n hx hb dX7_closedBits_32 rfl (lv_at hl 3 rfl) ?_
          refine lv_icmp_ge (tgt := 49) hx hb dX7_closedBits_33 (by decide) (fun c_33 => ?_) (fun c_33 => ?_)
          · skip
            rw [zqG (by omega) (by omega)] at c_33
            refine lv_iinc (v := (nI (t + 1))) (lv' := [(3, .int (nI (t + 1))), (4, .int (nI (zpop 8 t))), (0, .ref (za G 1)), (1, .int a), (2, .int (nI b))]) hx hb dX7_closedBits_49 hl (k := 4) rfl (zinc t) (by decide) rfl (fun ls hl => ?_)
            refine lv_goto (tgt := 8) hx hb dX7_closedBits_52 (by decide) ?_
            exact ih8 (t + 1) a b (by omega) (by omega) (by rw [zclo, h2]; exact if_neg (fun h => absurd h.2.1 (by simpa using c_33))) h3 (by omega) _ _ hI ls (lv_sub hl [2, 3, 4, 0] rfl)
          · skip
            rw [zqG (by omega) (by omega)] at c_33
            refine lv_aload_n hx hb dX7_closedBits_36 rfl (lv_at hl 1 rfl) ?_
            refine lv_iload_n hx hb dX7_closedBits_37 rfl (lv_at hl 4 rfl) ?_
            refine z_calli (va_runV (As := [.int (nI t)]) (rest := []) ⟨hx, hb, hml, hown, hts⟩ ((c_X7_isClosed l hG x N (nI t) hn) A) (cwV 1 hts gX7_closedBits_X7_isClosed rfl rfl rfl (by decide +kernel) ⟨Nat.le_of_ble_eq_true rfl, Nat.le_of_ble_eq_true rfl⟩) (z_pV hI hK hN (z_recv hK hI (zo1 hG) rfl)) rfl rfl hl.1 rfl (lv_room (Nat.le_of_ble_eq_true rfl)) dX7_closedBits_38 ⟨Nat.zero_le _, Nat.zero_le _⟩) hI (fun r_38 u H locs hw hI => ?_)
            obtain ⟨rfl, rfl⟩ := hw
            refine lv_if_eq (tgt := 49) hx hb dX7_closedBits_41 (by decide) (fun c_41 => ?_) (fun c_41 => ?_)
            · skip
              rw [zb_0] at c_41
              refine lv_iinc (v := (nI (t + 1))) (lv' := [(3, .int (nI (t + 1))), (4, .int (nI (zpop 8 t))), (0, .ref (za G 1)), (1, .int a), (2, .int (nI b))]) hx hb dX7_closedBits_49 hl (k := 4) rfl (zinc t) (by decide) rfl (fun ls hl => ?_)
              refine lv_goto (tgt := 8) hx hb dX7_closedBits_52 (by decide) ?_
              exact ih8 (t + 1) a b (by omega) (by omega) (by rw [zclo, h2]; exact if_neg (fun h => c_41 h.2.2)) h3 (by omega) _ _ hI ls (lv_sub hl [2, 3, 4, 0] rfl)
            · skip
              rw [zb_0, Classical.not_not] at c_41
              refine lv_iload_n hx hb dX7_closedBits_44 rfl (lv_at hl 4 rfl) ?_
              refine lv_istore_n (lv' := [(1, .int (nI t)), (4, .int (nI (zpop 8 t))), (0, .ref (za G 1)), (2, .int (nI b)), (3, .int (nI t))]) hx hb dX7_closedBits_45 rfl hl (by decide) rfl (fun ls hl => ?_)
              refine lv_iload hx hb dX7_closedBits_46 (lv_at hl 1 rfl) ?_
              refine lv_istore_n (lv' := [(2, .int (nI (zpop 8 t))), (1, .int (nI t)), (4, .int (nI (zpop 8 t))), (0, .ref (za G 1)), (3, .int (nI t))]) hx hb dX7_closedBits_48 rfl hl (by decide) rfl (fun ls hl => ?_)
              refine lv_iinc (v := (nI (t + 1))) (lv' := [(3, .int (nI (t + 1))), (2, .int (nI (zpop 8 t))), (1, .int (nI t)), (4, .int (nI (zpop 8 t))), (0, .ref (za G 1))]) hx hb dX7_closedBits_49 hl (k := 4) rfl (zinc t) (by decide) rfl (fun ls hl => ?_)
              refine lv_goto (tgt := 8) hx hb dX7_closedBits_52 (by decide) ?_
              exact ih8 (t + 1) (nI t) (zpop 8 t) (by omega) (by omega) (by rw [zclo, h2]; exact if_pos ⟨by omega, (by show zpop 8 t < b; omega), c_41⟩) (by omega) (by omega) _ _ hI ls (lv_sub hl [4, 2, 1, 0] rfl)
  exact L8 (2 ^ N + 1) 1 (-5) 9 (by omega) (Nat.one_le_two_pow) rfl (by omega) (by omega) _ _ hI ls (lv_sub hl [3, 2, 1, 0] rfl)
set_option maxHeartbeats 4000000 in
set_option maxRecDepth 100000 in
theorem c_X11_slips (l : Launch) {G : zG} (hG : zOK G) (x : zX) (N : Nat) (w : Int32) (hn : zNow G x N) : zMi l yX11_slips wsX11_slips { frames := 3, cells := 0, slots := 0, locals := 67 } G [.ref (za G 0), .int w] x (fun (r : Int32) (u : zX) => x = u ∧ (if w = nI 0 then zors (fun qq => if zsum (fun k => if ¬ (nI qq) < 0 ∧ x.1 5 k = (nI qq) then 1 else 0) N = 0 then nI 1 <<< (nI qq &&& 31) else 0) N else if w = nI 1 then (zclo (fun qq => zcl x N (nI qq)) (2 ^ N)).1 else -1) = r) := by
  intro A
  refine zBody (cc := cX11_slips) (maxL := 2) (ret := (some .int)) (by decide) rfl (Nat.le_of_ble_eq_true rfl) ?_
  intro p e s m below meth c hx hb hml hown hts hr hlocks hK hN hI ls hl
  have hown : s.vm.findClass RX11 = some m.cls := hown
  have hl : lv_has ls 2 [(0, .ref (za G 0)), (1, .int w)] := hl
  have hin11 : ∀ w ∈ wsX110, w ∈ wsX11_slips := (fun _ h => List.mem_cons_of_mem _ (List.mem_append_left _ (List.mem_append_right _ (h))))
  have wF12 := hts (.fieldLink RX11 12 "WhoSitsBy" "now" "LWhoSitsBy$Standing;") (z_mem 1 rfl)
  refine lv_iload_n hx hb dX11_slips_0 rfl (lv_at hl 1 rfl) ?_
  by_cases q1_0 : w = (nI 0)
  · skip
    refine lv_lookup (off := 27) (tgt := 28) hx hb dX11_slips_1 (by decide) (by rw [q1_0]; decide) (by decide) ?_
    refine lv_aload_n hx hb dX11_slips_28 rfl (lv_at hl 0 rfl) ?_
    refine z_get (C := RX11) (T := TX11) (N := 14) (ci := 11) (v := .ref (za G 1)) hx hb hts hin11 hown hK hI (zo0 hG) rfl 0 (by decide) wF12 (fun _ h9 => h9) rfl dX11_slips_29 ?_
    refine z_calli (va_runV (As := []) (rest := []) ⟨hx, hb, hml, hown, hts⟩ ((c_X7_aloneBits l hG x N hn) A) (cwV 0 hts gX11_slips_X7_aloneBits rfl rfl rfl (by decide +kernel) ⟨Nat.le_of_ble_eq_true rfl, Nat.le_of_ble_eq_true rfl⟩) (z_pV hI hK hN (z_recv hK hI (zo1 hG) rfl)) rfl rfl hl.1 rfl (lv_room (Nat.le_of_ble_eq_true rfl)) dX11_slips_32 ⟨Nat.zero_le _, Nat.zero_le _⟩) hI (fun r_32 u H locs hw hI => ?_)
    obtain ⟨rfl, rfl⟩ := hw
    exact z_iret hx hb hr hlocks hI (⟨rfl, if_pos q1_0⟩) dX11_slips_35
  by_cases q1_1 : w = (nI 1)
  · skip
    refine lv_lookup (off := 35) (tgt := 36) hx hb dX11_slips_1 (by decide) (by rw [q1_1]; decide) (by decide) ?_
    refine lv_aload_n hx hb dX11_slips_36 rfl (lv_at hl 0 rfl) ?_
    refine z_get (C := RX11) (T := TX11) (N := 14) (ci := 11) (v := .ref (za G 1)) hx hb hts hin11 hown hK hI (zo0 hG) rfl 0 (by decide) wF12 (fun _ h9 => h9) rfl dX11_slips_37 ?_
    refine z_calli (va_runV (As := []) (rest := []) ⟨hx, hb, hml, hown, hts⟩ ((c_X7_closedBits l hG x N hn) A) (cwV 0 hts gX11_slips_X7_closedBits rfl rfl rfl (by decide +kernel) ⟨Nat.le_of_ble_eq_true rfl, Nat.le_of_ble_eq_true rfl⟩) (z_pV hI hK hN (z_recv hK hI (zo1 hG) rfl)) rfl rfl hl.1 rfl (lv_room (Nat.le_of_ble_eq_true rfl)) dX11_slips_40 ⟨Nat.zero_le _, Nat.zero_le _⟩) hI (fun r_40 u H locs hw hI => ?_)
    obtain ⟨rfl, rfl⟩ := hw
    exact z_iret hx hb hr hlocks hI (⟨rfl, (if_neg q1_0).trans (if_pos q1_1)⟩) dX11_slips_43
  refine lv_lookup (off := 43) (tgt := 44) hx hb dX11_slips_1 (by decide) ((lv_osw (k := nI 0) q1_0 rfl).trans ((lv_osw (k := nI 1) q1_1 rfl).trans (rfl))) (by decide) ?_
  refine lv_iconst (v := (-1)) hx hb dX11_slips_44 rfl ?_
  exact z_iret hx hb hr hlocks hI (⟨rfl, (if_neg q1_0).trans (if_neg q1_1)⟩) dX11_slips_45
set_option maxHeartbeats 4000000 in
set_option maxRecDepth 100000 in
theorem c_X11_next (l : Launch) {G : zG} (hG : zOK G) (x : zX) (N : Nat) (q : Int32) (hn : zNow G x N) : zMi l yX11_next wsX11_next { frames := 12, cells := 0, slots := 0, locals := 300 } G [.ref (za G 0), .int q] x (fun (r : Int32) (u : zX) => (¬ (¬ q < -1 ∧ q < nI N) ∧ x = u ∧ -100001 = r) ∨ ((¬ q < -1 ∧ q < nI N) ∧ 6 < N ∧ x = u ∧ -9 = r) ∨ ((¬ q < -1 ∧ q < nI N) ∧ N ≤ 6 ∧ (zplc (nI 3) N 0 (zbg x (fun _ => -1))) = u ∧ (if q = -1 then u.1 11 7 else zfind (u.1 16) q 0 8) = r)) := by
  intro A
  refine zBody (cc := cX11_next) (maxL := 2) (ret := (some .int)) (by decide) rfl (Nat.le_of_ble_eq_true rfl) ?_
  intro p e s m below meth c hx hb hml hown hts hr hlocks hK hN hI ls hl
  have hown : s.vm.findClass RX11 = some m.cls := hown
  have hl : lv_has ls 2 [(0, .ref (za G 0)), (1, .int q)] := hl
  have hin6 : ∀ w ∈ wsX60, w ∈ wsX11_next := (fun _ h => List.mem_cons_of_mem _ (List.mem_append_right _ (h)))
  have hin7 : ∀ w ∈ wsX70, w ∈ wsX11_next := (fun _ h => List.mem_cons_of_mem _ (List.mem_append_left _ (List.mem_append_right _ (h))))
  have hin11 : ∀ w ∈ wsX110, w ∈ wsX11_next := (fun _ h => List.mem_cons_of_mem _ (List.mem_append_left _ (List.mem_append_left _ (List.mem_append_right _ (h)))))
  have wK153 := hts (.constant RX11 153 (-100001)) (z_mem 3 rfl)
  have wF12 := hts (.fieldLink RX11 12 "WhoSitsBy" "now" "LWhoSitsBy$Standing;") (z_mem 1 rfl)
  have wF66 := hts (.fieldLink RX11 66 "WhoSitsBy$Standing" "size" "I") (z_mem 2 rfl)
  have wF39 := hts (.fieldLink RX11 39 "WhoSitsBy" "sittings" "LWhoSitsBy$Sittings;") (z_mem 4 rfl)
  have wF204 := hts (.fieldLink RX11 204 "WhoSitsBy$Sittings" "found" "[I") (z_mem 6 rfl)
  have wF201 := hts (.fieldLink RX11 201 "WhoSitsBy$Sittings" "foundWorth" "I") (z_mem 5 rfl)
  have h8 := hn.1
  refine lv_iload_n hx hb dX11_next_0 rfl (lv_at hl 1 rfl) ?_
  refine lv_iconst (v := (-1)) hx hb dX11_next_1 rfl ?_
  refine lv_icmp_lt (tgt := 16) hx hb dX11_next_2 (by decide) (fun c_2 => ?_) (fun c_2 => ?_)
  · skip
    refine lv_ldc (v := (-100001)) hx hb hown wK153 dX11_next_16 ?_
    exact z_iret hx hb hr hlocks hI (Or.inl ⟨fun h => h.1 c_2, rfl, rfl⟩) dX11_next_18
  · skip
    refine lv_iload_n hx hb dX11_next_5 rfl (lv_at hl 1 rfl) ?_
    refine lv_aload_n hx hb dX11_next_6 rfl (lv_at hl 0 rfl) ?_
    refine z_get (C := RX11) (T := TX11) (N := 14) (ci := 11) (v := .ref (za G 1)) hx hb hts hin11 hown hK hI (zo0 hG) rfl 0 (by decide) wF12 (fun _ h9 => h9) rfl dX11_next_7 ?_
    refine z_get (C := RX7) (T := TX7) (N := 7) (ci := 7) (v := .int (nI N)) hx hb hts hin7 hown hK hI (zo1 hG) rfl 3 (by decide) wF66 (fun _ h9 => h9) (congrArg (fun q => some (Value.int q)) hn.2.1) dX11_next_10 ?_
    refine lv_icmp_lt (tgt := 19) hx hb dX11_next_13 (by decide) (fun c_13 => ?_) (fun c_13 => ?_)
    · skip
      refine lv_aload_n hx hb dX11_next_19 rfl (lv_at hl 0 rfl) ?_
      refine z_get (C := RX11) (T := TX11) (N := 14) (ci := 11) (v := .ref (za G 1)) hx hb hts hin11 hown hK hI (zo0 hG) rfl 0 (by decide) wF12 (fun _ h9 => h9) rfl dX11_next_20 ?_
      refine z_get (C := RX7) (T := TX7) (N := 7) (ci := 7) (v := .int (nI N)) hx hb hts hin7 hown hK hI (zo1 hG) rfl 3 (by decide) wF66 (fun _ h9 => h9) (congrArg (fun q => some (Value.int q)) hn.2.1) dX11_next_23 ?_
      refine lv_bipush (v := (nI 6)) hx hb dX11_next_26 rfl ?_
      refine lv_icmp_le (tgt := 34) hx hb dX11_next_28 (by decide) (fun c_28 => ?_) (fun c_28 => ?_)
      · skip
        rw [zqG (by omega) (by omega)] at c_28
        refine lv_aload_n hx hb dX11_next_34 rfl (lv_at hl 0 rfl) ?_
        refine z_get (C := RX11) (T := TX11) (N := 14) (ci := 11) (v := .ref (za G 11)) hx hb hts hin11 hown hK hI (zo0 hG) rfl 8 (by decide) wF39 (fun _ h9 => h9) rfl dX11_next_35 ?_
        refine lv_aload_n hx hb dX11_next_38 rfl (lv_at hl 0 rfl) ?_
        refine z_get (C := RX11) (T := TX11) (N := 14) (ci := 11) (v := .ref (za G 1)) hx hb hts hin11 hown hK hI (zo0 hG) rfl 0 (by decide) wF12 (fun _ h9 => h9) rfl dX11_next_39 ?_
        refine lv_iconst (v := (nI 3)) hx hb dX11_next_42 rfl ?_
        refine z_callv (va_runV (As := [.ref (za G 1), .int (nI 3)]) (rest := []) ⟨hx, hb, hml, hown, hts⟩ ((c_X6_search l hG x N (nI 3) (by omega) hn.2.1) A) (cwV 2 hts gX11_next_X6_search rfl rfl rfl (by decide +kernel) ⟨Nat.le_of_ble_eq_true rfl, Nat.le_of_ble_eq_true rfl⟩) (z_pV hI hK hN (z_recv hK hI (zo11 hG) rfl)) rfl rfl hl.1 rfl (lv_room (Nat.le_of_ble_eq_true rfl)) dX11_next_43 ⟨Nat.zero_le _, Nat.zero_le _⟩) hI (fun u H locs hw hI => ?_)
        obtain rfl := hw
        rw [if_neg (show ¬ 6 < N by omega)] at hI
        refine lv_iload_n hx hb dX11_next_46 rfl (lv_at hl 1 rfl) ?_
        refine lv_iconst (v := (-1)) hx hb dX11_next_47 rfl ?_
        refine lv_icmp_ne (tgt := 61) hx hb dX11_next_48 (by decide) (fun c_48 => ?_) (fun c_48 => ?_)
        · skip
          refine lv_aload_n hx hb dX11_next_61 rfl (lv_at hl 0 rfl) ?_
          refine z_get (C := RX11) (T := TX11) (N := 14) (ci := 11) (v := .ref (za G 11)) hx hb hts hin11 hown hK hI (zo0 hG) rfl 8 (by decide) wF39 (fun _ h9 => h9) rfl dX11_next_62 ?_
          refine z_get (C := RX6) (T := TX6) (N := 8) (ci := 6) (v := .ref (za G 16)) hx hb hts hin6 hown hK hI (zo11 hG) rfl 4 (by decide) wF204 (fun _ h9 => h9) rfl dX11_next_65 ?_
          refine lv_iload_n hx hb dX11_next_68 rfl (lv_at hl 1 rfl) ?_
          refine z_calli (va_runS (As := [.ref (za G 16), .int q]) (rest := []) ⟨hx, hb, hml, hown, hts⟩ ((c_X11_seatIn l hG (zplc (nI 3) N 0 (zbg x (fun _ => -1))) 16 q (zo16 hG)) A) (va_cwS 2 hts gX11_next_X11_seatIn rfl rfl rfl (by decide +kernel) ⟨Nat.le_of_ble_eq_true rfl, Nat.le_of_ble_eq_true rfl⟩) (z_pS hI hK hN) rfl rfl hl.1 rfl (lv_room (Nat.le_of_ble_eq_true rfl)) dX11_next_69 ⟨Nat.zero_le _, Nat.zero_le _⟩) hI (fun r_69 u H locs hw hI => ?_)
          obtain ⟨rfl, rfl⟩ := hw
          exact z_iret hx hb hr hlocks hI (Or.inr (Or.inr ⟨⟨c_2, c_13⟩, by omega, rfl, if_neg c_48⟩)) dX11_next_72
        · skip
          refine lv_aload_n hx hb dX11_next_51 rfl (lv_at hl 0 rfl) ?_
          refine z_get (C := RX11) (T := TX11) (N := 14) (ci := 11) (v := .ref (za G 11)) hx hb hts hin11 hown hK hI (zo0 hG) rfl 8 (by decide) wF39 (fun _ h9 => h9) rfl dX11_next_52 ?_
          refine z_get (C := RX6) (T := TX6) (N := 8) (ci := 6) (v := .int ((zplc (nI 3) N 0 (zbg x (fun _ => -1))).1 11 7)) hx hb hts hin6 hown hK hI (zo11 hG) rfl 7 (by decide) wF201 (fun _ h9 => h9) rfl dX11_next_55 ?_
          refine lv_goto (tgt := 72) hx hb dX11_next_58 (by decide) ?_
          exact z_iret hx hb hr hlocks hI (Or.inr (Or.inr ⟨⟨c_2, c_13⟩, by omega, rfl, if_pos c_48⟩)) dX11_next_72
      · skip
        rw [zqG (by omega) (by omega)] at c_28
        refine lv_bipush (v := (-9)) hx hb dX11_next_31 rfl ?_
        exact z_iret hx hb hr hlocks hI (Or.inr (Or.inl ⟨⟨c_2, c_13⟩, by omega, rfl, rfl⟩)) dX11_next_33
    · skip
      refine lv_ldc (v := (-100001)) hx hb hown wK153 dX11_next_16 ?_
      exact z_iret hx hb hr hlocks hI (Or.inl ⟨fun h => c_13 h.2, rfl, rfl⟩) dX11_next_18
set_option maxHeartbeats 4000000 in
set_option maxRecDepth 100000 in
theorem c_X11_isPair (l : Launch) {G : zG} (hG : zOK G) (x : zX) (N : Nat) (v : Int32) (hn : zNow G x N) : zMi l yX11_isPair wsX11_isPair { frames := 1, cells := 0, slots := 0, locals := 21 } G [.ref (za G 0), .int v] x (fun (r : Int32) (u : zX) => x = u ∧ (if zpr N v then nI 1 else nI 0) = r) := by
  intro A
  refine zBody (cc := cX11_isPair) (maxL := 2) (ret := (some .boolean)) (by decide) rfl (Nat.le_of_ble_eq_true rfl) ?_
  intro p e s m below meth c hx hb hml hown hts hr hlocks hK hN hI ls hl
  have hown : s.vm.findClass RX11 = some m.cls := hown
  have hl : lv_has ls 2 [(0, .ref (za G 0)), (1, .int v)] := hl
  have hin11 : ∀ w ∈ wsX110, w ∈ wsX11_isPair := (fun _ h => List.mem_cons_of_mem _ (List.mem_append_left _ (List.mem_append_right _ (h))))
  have wF12 := hts (.fieldLink RX11 12 "WhoSitsBy" "now" "LWhoSitsBy$Standing;") (z_mem 1 rfl)
  have h8 := hn.1
  refine lv_iload_n hx hb dX11_isPair_0 rfl (lv_at hl 1 rfl) ?_
  refine lv_if_lt (tgt := 47) hx hb dX11_isPair_1 (by decide) (fun c_1 => ?_) (fun c_1 => ?_)
  · skip
    refine lv_iconst (v := (nI 0)) hx hb dX11_isPair_47 rfl ?_
    exact z_zret hx hb hr hlocks hI (Or.inl rfl) (⟨rfl, if_neg (fun h => h.1 c_1)⟩) dX11_isPair_48
  · skip
    obtain ⟨vb, hvb, rfl⟩ := z_nat c_1
    have ec : (nI vb).toNatClampNeg = vb := nI_clamp hvb
    refine lv_aload_n hx hb dX11_isPair_4 rfl (lv_at hl 0 rfl) ?_
    refine z_get (C := RX11) (T := TX11) (N := 14) (ci := 11) (v := .ref (za G 1)) hx hb hts hin11 hown hK hI (zo0 hG) rfl 0 (by decide) wF12 (fun _ h9 => h9) rfl dX11_isPair_5 ?_
    refine lv_iload_n hx hb dX11_isPair_8 rfl (lv_at hl 1 rfl) ?_
    refine lv_bipush (v := (nI 10)) hx hb dX11_isPair_9 rfl ?_
    refine z_idiv (v := (nI (vb / 10))) hx hb (pk_div (by omega) (by omega) (by omega)) dX11_isPair_11 (by decide) ?_
    refine z_callq (va_runV (As := [.int (nI (vb / 10))]) (rest := []) ⟨hx, hb, hml, hown, hts⟩ ((c_X7_at l hG x N (nI (vb / 10)) hn) A) (cwV 1 hts gX11_isPair_X7_at rfl rfl rfl (by decide +kernel) ⟨Nat.le_of_ble_eq_true rfl, Nat.le_of_ble_eq_true rfl⟩) (z_pV hI hK hN (z_recv hK hI (zo1 hG) rfl)) rfl rfl hl.1 rfl (lv_room (Nat.le_of_ble_eq_true rfl)) dX11_isPair_12 ⟨Nat.zero_le _, Nat.zero_le _⟩) hI (fun r_12 u H locs hw hI => ?_)
    obtain ⟨rfl, rfl⟩ := hw
    rcases hq_12 : (zat x N (nI (vb / 10))) with _ | o_12
    · skip
      have hno12 : ¬ vb / 10 < N := fun h => by rcases zat_no hn hq_12 with h1 | h1; exact nI_pos (by omega) h1; exact nI_ge h (by omega) h1
      refine lv_ifnullN (tgt := 47) hx hb dX11_isPair_15 (by decide) ?_
      refine lv_iconst (v := (nI 0)) hx hb dX11_isPair_47 rfl ?_
      exact z_zret hx hb hr hlocks hI (Or.inl rfl) (⟨rfl, if_neg (fun h => hno12 (by have h9 := h.2.1; rw [ec] at h9; exact h9))⟩) dX11_isPair_48
    · skip
      have hy12 : vb / 10 < N := by obtain ⟨k2, hk2, h2, -⟩ := zat_of hn hq_12; rw [nI_eq (by omega) (by omega)] at h2; omega
      refine lv_ifnull hx hb dX11_isPair_15 ?_
      refine lv_aload_n hx hb dX11_isPair_18 rfl (lv_at hl 0 rfl) ?_
      refine z_get (C := RX11) (T := TX11) (N := 14) (ci := 11) (v := .ref (za G 1)) hx hb hts hin11 hown hK hI (zo0 hG) rfl 0 (by decide) wF12 (fun _ h9 => h9) rfl dX11_isPair_19 ?_
      refine lv_iload_n hx hb dX11_isPair_22 rfl (lv_at hl 1 rfl) ?_
      refine lv_bipush (v := (nI 10)) hx hb dX11_isPair_23 rfl ?_
      refine z_irem (v := (nI (vb % 10))) hx hb (pk_rem (by omega) (by omega) (by omega)) dX11_isPair_25 (by decide) ?_
      refine z_callq (va_runV (As := [.int (nI (vb % 10))]) (rest := []) ⟨hx, hb, hml, hown, hts⟩ ((c_X7_at l hG x N (nI (vb % 10)) hn) A) (cwV 1 hts gX11_isPair_X7_at rfl rfl rfl (by decide +kernel) ⟨Nat.le_of_ble_eq_true rfl, Nat.le_of_ble_eq_true rfl⟩) (z_pV hI hK hN (z_recv hK hI (zo1 hG) rfl)) rfl rfl hl.1 rfl (lv_room (Nat.le_of_ble_eq_true rfl)) dX11_isPair_26 ⟨Nat.zero_le _, Nat.zero_le _⟩) hI (fun r_26 u H locs hw hI => ?_)
      obtain ⟨rfl, rfl⟩ := hw
      rcases hq_26 : (zat x N (nI (vb % 10))) with _ | o_26
      · skip
        have hno26 : ¬ vb % 10 < N := fun h => by rcases zat_no hn hq_26 with h1 | h1; exact nI_pos (by omega) h1; exact nI_ge h (by omega) h1
        refine lv_ifnullN (tgt := 47) hx hb dX11_isPair_29 (by decide) ?_
        refine lv_iconst (v := (nI 0)) hx hb dX11_isPair_47 rfl ?_
        exact z_zret hx hb hr hlocks hI (Or.inl rfl) (⟨rfl, if_neg (fun h => hno26 (by have h9 := h.2.2.1; rw [ec] at h9; exact h9))⟩) dX11_isPair_48
      · skip
        have hy26 : vb % 10 < N := by obtain ⟨k2, hk2, h2, -⟩ := zat_of hn hq_26; rw [nI_eq (by omega) (by omega)] at h2; omega
        refine lv_ifnull hx hb dX11_isPair_29 ?_
        refine lv_iload_n hx hb dX11_isPair_32 rfl (lv_at hl 1 rfl) ?_
        refine lv_bipush (v := (nI 10)) hx hb dX11_isPair_33 rfl ?_
        refine z_idiv (v := (nI (vb / 10))) hx hb (pk_div (by omega) (by omega) (by omega)) dX11_isPair_35 (by decide) ?_
        refine lv_iload_n hx hb dX11_isPair_36 rfl (lv_at hl 1 rfl) ?_
        refine lv_bipush (v := (nI 10)) hx hb dX11_isPair_37 rfl ?_
        refine z_irem (v := (nI (vb % 10))) hx hb (pk_rem (by omega) (by omega) (by omega)) dX11_isPair_39 (by decide) ?_
        refine lv_icmp_eq (tgt := 47) hx hb dX11_isPair_40 (by decide) (fun c_40 => ?_) (fun c_40 => ?_)
        · skip
          rw [zqE (by omega) (by omega)] at c_40
          refine lv_iconst (v := (nI 0)) hx hb dX11_isPair_47 rfl ?_
          exact z_zret hx hb hr hlocks hI (Or.inl rfl) (⟨rfl, if_neg (fun h => by have h9 := h.2.2.2; rw [ec] at h9; exact h9 c_40)⟩) dX11_isPair_48
        · skip
          rw [zqE (by omega) (by omega)] at c_40
          refine lv_iconst (v := (nI 1)) hx hb dX11_isPair_43 rfl ?_
          refine lv_goto (tgt := 48) hx hb dX11_isPair_44 (by decide) ?_
          exact z_zret hx hb hr hlocks hI (Or.inr rfl) (⟨rfl, if_pos ⟨nI_pos hvb, by rw [ec]; exact hy12, by rw [ec]; exact hy26, by rw [ec]; exact c_40⟩⟩) dX11_isPair_48
set_option maxHeartbeats 4000000 in
set_option maxRecDepth 100000 in
theorem c_X11_both (l : Launch) {G : zG} (hG : zOK G) (x : zX) (N : Nat) (a b pt : Int32) (hn : zNow G x N) : zMl l yX11_both wsX11_both { frames := 2, cells := 0, slots := 0, locals := 42 } G [.ref (za G 0), .int a, .int b, .int pt] x (fun (r : Int64) (u : zX) => x = u ∧ (if (zpr N a ∧ zpr N b) ∧ (pt = 0 ∨ pt = nI 1) then (if zic (zpb a.toNatClampNeg &&& zpb b.toNatClampNeg) = nI 1 then pt.toInt64 else if pt = 0 then 1 else if zic (zpb a.toNatClampNeg &&& zpb b.toNatClampNeg) = nI 2 then 7 else 35) else -9223372036854775808) = r) := by
  intro A
  refine zBody (cc := cX11_both) (maxL := 6) (ret := (some .long)) (by decide) rfl (Nat.le_of_ble_eq_true rfl) ?_
  intro p e s m below meth c hx hb hml hown hts hr hlocks hK hN hI ls hl
  have hown : s.vm.findClass RX11 = some m.cls := hown
  have hl : lv_has ls 6 [(0, .ref (za G 0)), (1, .int a), (2, .int b), (3, .int pt)] := hl
  have wK244 := hts (.constantLong RX11 244 (-9223372036854775808)) (z_mem 1 rfl)
  have h8 := hn.1
  refine lv_aload_n hx hb dX11_both_0 rfl (lv_at hl 0 rfl) ?_
  refine lv_iload_n hx hb dX11_both_1 rfl (lv_at hl 1 rfl) ?_
  refine z_calli (va_runV (As := [.int a]) (rest := []) ⟨hx, hb, hml, hown, hts⟩ ((c_X11_isPair l hG x N a hn) A) (cwV 1 hts gX11_both_X11_isPair rfl rfl rfl (by decide +kernel) ⟨Nat.le_of_ble_eq_true rfl, Nat.le_of_ble_eq_true rfl⟩) (z_pV hI hK hN (z_recv hK hI (zo0 hG) rfl)) rfl rfl hl.1 rfl (lv_room (Nat.le_of_ble_eq_true rfl)) dX11_both_2 ⟨Nat.zero_le _, Nat.zero_le _⟩) hI (fun r_2 u H locs hw hI => ?_)
  obtain ⟨rfl, rfl⟩ := hw
  refine lv_if_eq (tgt := 25) hx hb dX11_both_5 (by decide) (fun c_5 => ?_) (fun c_5 => ?_)
  · skip
    rw [zb_0] at c_5
    refine lv_ldc2 (v := (-9223372036854775808)) hx hb hown wK244 dX11_both_25 ?_
    exact z_lret hx hb hr hlocks hI (⟨rfl, if_neg (fun h => c_5 h.1.1)⟩) dX11_both_28
  · skip
    rw [zb_0, Classical.not_not] at c_5
    refine lv_aload_n hx hb dX11_both_8 rfl (lv_at hl 0 rfl) ?_
    refine lv_iload_n hx hb dX11_both_9 rfl (lv_at hl 2 rfl) ?_
    refine z_calli (va_runV (As := [.int b]) (rest := []) ⟨hx, hb, hml, hown, hts⟩ ((c_X11_isPair l hG x N b hn) A) (cwV 1 hts gX11_both_X11_isPair rfl rfl rfl (by decide +kernel) ⟨Nat.le_of_ble_eq_true rfl, Nat.le_of_ble_eq_true rfl⟩) (z_pV hI hK hN (z_recv hK hI (zo0 hG) rfl)) rfl rfl hl.1 rfl (lv_room (Nat.le_of_ble_eq_true rfl)) dX11_both_10 ⟨Nat.zero_le _, Nat.zero_le _⟩) hI (fun r_10 u H locs hw hI => ?_)
    obtain ⟨rfl, rfl⟩ := hw
    refine lv_if_eq (tgt := 25) hx hb dX11_both_13 (by decide) (fun c_13 => ?_) (fun c_13 => ?_)
    · skip
      rw [zb_0] at c_13
      refine lv_ldc2 (v := (-9223372036854775808)) hx hb hown wK244 dX11_both_25 ?_
      exact z_lret hx hb hr hlocks hI (⟨rfl, if_neg (fun h => c_13 h.1.2)⟩) dX11_both_28
    · skip
      rw [zb_0, Classical.not_not] at c_13
      refine lv_iload_n hx hb dX11_both_16 rfl (lv_at hl 3 rfl) ?_
      refine lv_if_eq (tgt := 29) hx hb dX11_both_17 (by decide) (fun c_17 => ?_) (fun c_17 => ?_)
      · skip
        obtain ⟨va, hva, rfl⟩ := z_nat c_5.1
        obtain ⟨vo, hvo, rfl⟩ := z_nat c_13.1
        have eca : (nI va).toNatClampNeg = va := nI_clamp hva
        have eco : (nI vo).toNatClampNeg = vo := nI_clamp hvo
        have ha1 := c_5.2.1
        have hb1 := c_13.2.1
        rw [eca] at ha1
        rw [eco] at hb1
        have hok : (zpr N (nI va) ∧ zpr N (nI vo)) ∧ (pt = 0 ∨ pt = nI 1) := ⟨⟨c_5, c_13⟩, Or.inl c_17⟩
        refine lv_iload_n hx hb dX11_both_29 rfl (lv_at hl 1 rfl) ?_
        refine z_calli (va_runS (As := [.int (nI va)]) (rest := []) ⟨hx, hb, hml, hown, hts⟩ ((c_X11_pairBits l hG x va (by omega)) A) (va_cwS 1 hts gX11_both_X11_pairBits rfl rfl rfl (by decide +kernel) ⟨Nat.le_of_ble_eq_true rfl, Nat.le_of_ble_eq_true rfl⟩) (z_pS hI hK hN) rfl rfl hl.1 rfl (lv_room (Nat.le_of_ble_eq_true rfl)) dX11_both_30 ⟨Nat.zero_le _, Nat.zero_le _⟩) hI (fun r_30 u H locs hw hI => ?_)
        obtain ⟨rfl, rfl⟩ := hw
        refine lv_iload_n hx hb dX11_both_33 rfl (lv_at hl 2 rfl) ?_
        refine z_calli (va_runS (As := [.int (nI vo)]) (rest := [.int ((nI 1 <<< (nI (va / 10) &&& 31)) ||| (nI 1 <<< (nI (va % 10) &&& 31)))]) ⟨hx, hb, hml, hown, hts⟩ ((c_X11_pairBits l hG x vo (by omega)) A) (va_cwS 1 hts gX11_both_X11_pairBits rfl rfl rfl (by decide +kernel) ⟨Nat.le_of_ble_eq_true rfl, Nat.le_of_ble_eq_true rfl⟩) (z_pS hI hK hN) rfl rfl hl.1 rfl (lv_room (Nat.le_of_ble_eq_true rfl)) dX11_both_34 ⟨Nat.zero_le _, Nat.zero_le _⟩) hI (fun r_34 u H locs hw hI => ?_)
        obtain ⟨rfl, rfl⟩ := hw
        refine lv_iand hx hb dX11_both_37 ?_
        refine z_calli (va_runS (As := [.int (((nI 1 <<< (nI (va / 10) &&& 31)) ||| (nI 1 <<< (nI (va % 10) &&& 31))) &&& ((nI 1 <<< (nI (vo / 10) &&& 31)) ||| (nI 1 <<< (nI (vo % 10) &&& 31))))]) (rest := []) ⟨hx, hb, hml, hown, hts⟩ ((c_J6_bitCount_0f7a4 l hG x (((nI 1 <<< (nI (va / 10) &&& 31)) ||| (nI 1 <<< (nI (va % 10) &&& 31))) &&& ((nI 1 <<< (nI (vo / 10) &&& 31)) ||| (nI 1 <<< (nI (vo % 10) &&& 31))))) A) (va_cwS 1 hts gX11_both_J6_bitCount_0f7a4 rfl rfl rfl (by decide +kernel) ⟨Nat.le_of_ble_eq_true rfl, Nat.le_of_ble_eq_true rfl⟩) (z_pS hI hK hN) rfl rfl hl.1 rfl (lv_room (Nat.le_of_ble_eq_true rfl)) dX11_both_38 ⟨Nat.zero_le _, Nat.zero_le _⟩) hI (fun r_38 u H locs hw hI => ?_)
        obtain ⟨rfl, rfl⟩ := hw
        change W _ _ _ _ _ _ _ _ _ _ _ _ _ _ _ (F0 m 41 ls (.int (zic (zpb va &&& zpb vo)) :: _))
        refine lv_istore (lv' := [(4, .int (zic (zpb va &&& zpb vo))), (0, .ref (za G 0)), (1, .int (nI va)), (2, .int (nI vo)), (3, .int pt)]) hx hb dX11_both_41 hl (by decide) rfl (fun ls hl => ?_)
        refine lv_iload hx hb dX11_both_43 (lv_at hl 0 rfl) ?_
        refine lv_iconst (v := (nI 1)) hx hb dX11_both_45 rfl ?_
        refine lv_icmp_ne (tgt := 52) hx hb dX11_both_46 (by decide) (fun c_46 => ?_) (fun c_46 => ?_)
        · skip
          refine lv_iload hx hb dX11_both_52 (lv_at hl 0 rfl) ?_
          refine lv_iconst (v := (nI 2)) hx hb dX11_both_54 rfl ?_
          refine lv_icmp_ne (tgt := 63) hx hb dX11_both_55 (by decide) (fun c_55 => ?_) (fun c_55 => ?_)
          · skip
            refine lv_bipush (v := (nI 35)) hx hb dX11_both_63 rfl ?_
            refine lv_istore (lv' := [(5, .int (nI 35)), (4, .int (zic (zpb va &&& zpb vo))), (0, .ref (za G 0)), (1, .int (nI va)), (2, .int (nI vo)), (3, .int pt)]) hx hb dX11_both_65 hl (by decide) rfl (fun ls hl => ?_)
            refine lv_iload_n hx hb dX11_both_67 rfl (lv_at hl 5 rfl) ?_
            refine lv_if_ne (tgt := 75) hx hb dX11_both_68 (by decide) (fun c_68 => ?_) (fun c_68 => ?_)
            · skip
              refine lv_iload hx hb dX11_both_75 (lv_at hl 0 rfl) ?_
              refine lv_i2l hx hb dX11_both_77 rfl ?_
              exact z_lret hx hb hr hlocks hI (⟨rfl, if_pos hok |>.trans (by rw [eca, eco]; exact (if_neg c_46).trans ((if_neg c_68).trans (if_neg c_55)))⟩) dX11_both_78
            · skip
              refine lv_lconst (v := 1) hx hb dX11_both_71 rfl ?_
              refine lv_goto (tgt := 78) hx hb dX11_both_72 (by decide) ?_
              exact z_lret hx hb hr hlocks hI (⟨rfl, if_pos hok |>.trans (by rw [eca, eco]; exact (if_neg c_46).trans (if_pos c_68))⟩) dX11_both_78
          · skip
            refine lv_bipush (v := (nI 7)) hx hb dX11_both_58 rfl ?_
            refine lv_goto (tgt := 65) hx hb dX11_both_60 (by decide) ?_
            refine lv_istore (lv' := [(5, .int (nI 7)), (4, .int (zic (zpb va &&& zpb vo))), (0, .ref (za G 0)), (1, .int (nI va)), (2, .int (nI vo)), (3, .int pt)]) hx hb dX11_both_65 hl (by decide) rfl (fun ls hl => ?_)
            refine lv_iload_n hx hb dX11_both_67 rfl (lv_at hl 5 rfl) ?_
            refine lv_if_ne (tgt := 75) hx hb dX11_both_68 (by decide) (fun c_68 => ?_) (fun c_68 => ?_)
            · skip
              refine lv_iload hx hb dX11_both_75 (lv_at hl 0 rfl) ?_
              refine lv_i2l hx hb dX11_both_77 rfl ?_
              exact z_lret hx hb hr hlocks hI (⟨rfl, if_pos hok |>.trans (by rw [eca, eco]; exact (if_neg c_46).trans ((if_neg c_68).trans (if_pos c_55)))⟩) dX11_both_78
            · skip
              refine lv_lconst (v := 1) hx hb dX11_both_71 rfl ?_
              refine lv_goto (tgt := 78) hx hb dX11_both_72 (by decide) ?_
              exact z_lret hx hb hr hlocks hI (⟨rfl, if_pos hok |>.trans (by rw [eca, eco]; exact (if_neg c_46).trans (if_pos c_68))⟩) dX11_both_78
        · skip
          refine lv_iload_n hx hb dX11_both_49 rfl (lv_at hl 4 rfl) ?_
          refine lv_i2l hx hb dX11_both_50 rfl ?_
          exact z_lret hx hb hr hlocks hI (⟨rfl, if_pos hok |>.trans (by rw [eca, eco]; exact if_pos c_46)⟩) dX11_both_51
      · skip
        refine lv_iload_n hx hb dX11_both_20 rfl (lv_at hl 3 rfl) ?_
        refine lv_iconst (v := (nI 1)) hx hb dX11_both_21 rfl ?_
        refine lv_icmp_eq (tgt := 29) hx hb dX11_both_22 (by decide) (fun c_22 => ?_) (fun c_22 => ?_)
        · skip
          obtain ⟨va, hva, rfl⟩ := z_nat c_5.1
          obtain ⟨vo, hvo, rfl⟩ := z_nat c_13.1
          have eca : (nI va).toNatClampNeg = va := nI_clamp hva
          have eco : (nI vo).toNatClampNeg = vo := nI_clamp hvo
          have ha1 := c_5.2.1
          have hb1 := c_13.2.1
          rw [eca] at ha1
          rw [eco] at hb1
          have hok : (zpr N (nI va) ∧ zpr N (nI vo)) ∧ (pt = 0 ∨ pt = nI 1) := ⟨⟨c_5, c_13⟩, Or.inr c_22⟩
          refine lv_iload_n hx hb dX11_both_29 rfl (lv_at hl 1 rfl) ?_
          refine z_calli (va_runS (As := [.int (nI va)]) (rest := []) ⟨hx, hb, hml, hown, hts⟩ ((c_X11_pairBits l hG x va (by omega)) A) (va_cwS 1 hts gX11_both_X11_pairBits rfl rfl rfl (by decide +kernel) ⟨Nat.le_of_ble_eq_true rfl, Nat.le_of_ble_eq_true rfl⟩) (z_pS hI hK hN) rfl rfl hl.1 rfl (lv_room (Nat.le_of_ble_eq_true rfl)) dX11_both_30 ⟨Nat.zero_le _, Nat.zero_le _⟩) hI (fun r_30 u H locs hw hI => ?_)
          obtain ⟨rfl, rfl⟩ := hw
          refine lv_iload_n hx hb dX11_both_33 rfl (lv_at hl 2 rfl) ?_
          refine z_calli (va_runS (As := [.int (nI vo)]) (rest := [.int ((nI 1 <<< (nI (va / 10) &&& 31)) ||| (nI 1 <<< (nI (va % 10) &&& 31)))]) ⟨hx, hb, hml, hown, hts⟩ ((c_X11_pairBits l hG x vo (by omega)) A) (va_cwS 1 hts gX11_both_X11_pairBits rfl rfl rfl (by decide +kernel) ⟨Nat.le_of_ble_eq_true rfl, Nat.le_of_ble_eq_true rfl⟩) (z_pS hI hK hN) rfl rfl hl.1 rfl (lv_room (Nat.le_of_ble_eq_true rfl)) dX11_both_34 ⟨Nat.zero_le _, Nat.zero_le _⟩) hI (fun r_34 u H locs hw hI => ?_)
          obtain ⟨rfl, rfl⟩ := hw
          refine lv_iand hx hb dX11_both_37 ?_
          refine z_calli (va_runS (As := [.int (((nI 1 <<< (nI (va / 10) &&& 31)) ||| (nI 1 <<< (nI (va % 10) &&& 31))) &&& ((nI 1 <<< (nI (vo / 10) &&& 31)) ||| (nI 1 <<< (nI (vo % 10) &&& 31))))]) (rest := []) ⟨hx, hb, hml, hown, hts⟩ ((c_J6_bitCount_0f7a4 l hG x (((nI 1 <<< (nI (va / 10) &&& 31)) ||| (nI 1 <<< (nI (va % 10) &&& 31))) &&& ((nI 1 <<< (nI (vo / 10) &&& 31)) ||| (nI 1 <<< (nI (vo % 10) &&& 31))))) A) (va_cwS 1 hts gX11_both_J6_bitCount_0f7a4 rfl rfl rfl (by decide +kernel) ⟨Nat.le_of_ble_eq_true rfl, Nat.le_of_ble_eq_true rfl⟩) (z_pS hI hK hN) rfl rfl hl.1 rfl (lv_room (Nat.le_of_ble_eq_true rfl)) dX11_both_38 ⟨Nat.zero_le _, Nat.zero_le _⟩) hI (fun r_38 u H locs hw hI => ?_)
          obtain ⟨rfl, rfl⟩ := hw
          change W _ _ _ _ _ _ _ _ _ _ _ _ _ _ _ (F0 m 41 ls (.int (zic (zpb va &&& zpb vo)) :: _))
          refine lv_istore (lv' := [(4, .int (zic (zpb va &&& zpb vo))), (0, .ref (za G 0)), (1, .int (nI va)), (2, .int (nI vo)), (3, .int pt)]) hx hb dX11_both_41 hl (by decide) rfl (fun ls hl => ?_)
          refine lv_iload hx hb dX11_both_43 (lv_at hl 0 rfl) ?_
          refine lv_iconst (v := (nI 1)) hx hb dX11_both_45 rfl ?_
          refine lv_icmp_ne (tgt := 52) hx hb dX11_both_46 (by decide) (fun c_46 => ?_) (fun c_46 => ?_)
          · skip
            refine lv_iload hx hb dX11_both_52 (lv_at hl 0 rfl) ?_
            refine lv_iconst (v := (nI 2)) hx hb dX11_both_54 rfl ?_
            refine lv_icmp_ne (tgt := 63) hx hb dX11_both_55 (by decide) (fun c_55 => ?_) (fun c_55 => ?_)
            · skip
              refine lv_bipush (v := (nI 35)) hx hb dX11_both_63 rfl ?_
              refine lv_istore (lv' := [(5, .int (nI 35)), (4, .int (zic (zpb va &&& zpb vo))), (0, .ref (za G 0)), (1, .int (nI va)), (2, .int (nI vo)), (3, .int pt)]) hx hb dX11_both_65 hl (by decide) rfl (fun ls hl => ?_)
              refine lv_iload_n hx hb dX11_both_67 rfl (lv_at hl 5 rfl) ?_
              refine lv_if_ne (tgt := 75) hx hb dX11_both_68 (by decide) (fun c_68 => ?_) (fun c_68 => ?_)
              · skip
                refine lv_iload hx hb dX11_both_75 (lv_at hl 0 rfl) ?_
                refine lv_i2l hx hb dX11_both_77 rfl ?_
                exact z_lret hx hb hr hlocks hI (⟨rfl, if_pos hok |>.trans (by rw [eca, eco]; exact (if_neg c_46).trans ((if_neg c_68).trans (if_neg c_55)))⟩) dX11_both_78
              · skip
                refine lv_lconst (v := 1) hx hb dX11_both_71 rfl ?_
                refine lv_goto (tgt := 78) hx hb dX11_both_72 (by decide) ?_
                exact z_lret hx hb hr hlocks hI (⟨rfl, if_pos hok |>.trans (by rw [eca, eco]; exact (if_neg c_46).trans (if_pos c_68))⟩) dX11_both_78
            · skip
              refine lv_bipush (v := (nI 7)) hx hb dX11_both_58 rfl ?_
              refine lv_goto (tgt := 65) hx hb dX11_both_60 (by decide) ?_
              refine lv_istore (lv' := [(5, .int (nI 7)), (4, .int (zic (zpb va &&& zpb vo))), (0, .ref (za G 0)), (1, .int (nI va)), (2, .int (nI vo)), (3, .int pt)]) hx hb dX11_both_65 hl (by decide) rfl (fun ls hl => ?_)
              refine lv_iload_n hx hb dX11_both_67 rfl (lv_at hl 5 rfl) ?_
              refine lv_if_ne (tgt := 75) hx hb dX11_both_68 (by decide) (fun c_68 => ?_) (fun c_68 => ?_)
              · skip
                refine lv_iload hx hb dX11_both_75 (lv_at hl 0 rfl) ?_
                refine lv_i2l hx hb dX11_both_77 rfl ?_
                exact z_lret hx hb hr hlocks hI (⟨rfl, if_pos hok |>.trans (by rw [eca, eco]; exact (if_neg c_46).trans ((if_neg c_68).trans (if_pos c_55)))⟩) dX11_both_78
              · skip
                refine lv_lconst (v := 1) hx hb dX11_both_71 rfl ?_
                refine lv_goto (tgt := 78) hx hb dX11_both_72 (by decide) ?_
                exact z_lret hx hb hr hlocks hI (⟨rfl, if_pos hok |>.trans (by rw [eca, eco]; exact (if_neg c_46).trans (if_pos c_68))⟩) dX11_both_78
          · skip
            refine lv_iload_n hx hb dX11_both_49 rfl (lv_at hl 4 rfl) ?_
            refine lv_i2l hx hb dX11_both_50 rfl ?_
            exact z_lret hx hb hr hlocks hI (⟨rfl, if_pos hok |>.trans (by rw [eca, eco]; exact if_pos c_46)⟩) dX11_both_51
        · skip
          refine lv_ldc2 (v := (-9223372036854775808)) hx hb hown wK244 dX11_both_25 ?_
          exact z_lret hx hb hr hlocks hI (⟨rfl, if_neg (fun h => h.2.elim c_17 c_22)⟩) dX11_both_28
set_option maxHeartbeats 4000000 in
set_option maxRecDepth 100000 in
theorem c_X11_judge (l : Launch) {G : zG} (hG : zOK G) (x : zX) (N : Nat) (t0 i : Int32) (hn : zNow G x N) (htp : zTp x) : zMi l yX11_judge wsX11_judge { frames := 2, cells := 0, slots := 0, locals := 42 } G [.ref (za G 0), .int t0, .int i] x (fun (r : Int32) (u : zX) => x = u ∧ (if zin 6 t0 then (if ¬ x.1 26 t0.toNatClampNeg = -1 ∧ ¬ x.1 26 t0.toNatClampNeg = nI 1 then -12 else zjud (zjb x t0.toNatClampNeg i) (zjd x t0.toNatClampNeg i) 0 N) else -1) = r) := by
  intro A
  refine zBody (cc := cX11_judge) (maxL := 4) (ret := (some .int)) (by decide) rfl (Nat.le_of_ble_eq_true rfl) ?_
  intro p e s m below meth c hx hb hml hown hts hr hlocks hK hN hI ls hl
  have hown : s.vm.findClass RX11 = some m.cls := hown
  have hl : lv_has ls 4 [(0, .ref (za G 0)), (1, .int t0), (2, .int i)] := hl
  have hin7 : ∀ w ∈ wsX70, w ∈ wsX11_judge := (fun _ h => List.mem_cons_of_mem _ (List.mem_append_right _ (h)))
  have hin11 : ∀ w ∈ wsX110, w ∈ wsX11_judge := (fun _ h => List.mem_cons_of_mem _ (List.mem_append_left _ (List.mem_append_right _ (h))))
  have wF55 := hts (.fieldLink RX11 55 "WhoSitsBy" "sorts" "[I") (z_mem 1 rfl)
  have wF12 := hts (.fieldLink RX11 12 "WhoSitsBy" "now" "LWhoSitsBy$Standing;") (z_mem 2 rfl)
  have wF66 := hts (.fieldLink RX11 66 "WhoSitsBy$Standing" "size" "I") (z_mem 3 rfl)
  have wF59 := hts (.fieldLink RX11 59 "WhoSitsBy" "sizes" "[I") (z_mem 4 rfl)
  have wF52 := hts (.fieldLink RX11 52 "WhoSitsBy" "items" "[[J") (z_mem 5 rfl)
  have wF114 := hts (.fieldLink RX11 114 "WhoSitsBy$Standing" "sitters" "[I") (z_mem 6 rfl)
  have h8 := hn.1
  refine lv_iload_n hx hb dX11_judge_0 rfl (lv_at hl 1 rfl) ?_
  refine z_calli (va_runS (As := [.int t0]) (rest := []) ⟨hx, hb, hml, hown, hts⟩ ((c_X11_isTape l hG x t0) A) (va_cwS 1 hts gX11_judge_X11_isTape rfl rfl rfl (by decide +kernel) ⟨Nat.le_of_ble_eq_true rfl, Nat.le_of_ble_eq_true rfl⟩) (z_pS hI hK hN) rfl rfl hl.1 rfl (lv_room (Nat.le_of_ble_eq_true rfl)) dX11_judge_1 ⟨Nat.zero_le _, Nat.zero_le _⟩) hI (fun r_1 u H locs hw hI => ?_)
  obtain ⟨rfl, rfl⟩ := hw
  refine lv_if_ne (tgt := 9) hx hb dX11_judge_4 (by decide) (fun c_4 => ?_) (fun c_4 => ?_)
  · skip
    rw [zb_0, Classical.not_not] at c_4
    obtain ⟨t, ht, rfl⟩ := z_ix c_4.1 c_4.2 (by decide)
    have h60 := (htp t ht).2
    have hz6 : zin 6 (nI t) := c_4
    have ect : (nI t).toNatClampNeg = t := nI_clamp (by omega)
    rw [ect]
    refine lv_aload_n hx hb dX11_judge_9 rfl (lv_at hl 0 rfl) ?_
    refine z_get (C := RX11) (T := TX11) (N := 14) (ci := 11) (v := .ref (za G 26)) hx hb hts hin11 hown hK hI (zo0 hG) rfl 12 (by decide) wF55 (fun _ h9 => h9) rfl dX11_judge_10 ?_
    refine lv_iload_n hx hb dX11_judge_13 rfl (lv_at hl 1 rfl) ?_
    refine z_iald (v := (x.1 26 t)) hx hb hK hI (zo26 hG) t rfl (by omega) (by decide) rfl dX11_judge_14 ?_
    refine lv_iconst (v := (-1)) hx hb dX11_judge_15 rfl ?_
    refine lv_icmp_eq (tgt := 32) hx hb dX11_judge_16 (by decide) (fun c_16 => ?_) (fun c_16 => ?_)
    · skip
      have hcs : ¬ (¬ x.1 26 t = -1 ∧ ¬ x.1 26 t = nI 1) := fun h => h.1 c_16
      refine lv_iconst (v := (nI 0)) hx hb dX11_judge_32 rfl ?_
      refine lv_istore_n (lv' := [(3, .int (nI 0)), (0, .ref (za G 0)), (1, .int (nI t)), (2, .int i)]) hx hb dX11_judge_33 rfl hl (by decide) rfl (fun ls hl => ?_)
      have L34 : ∀ (f : Nat) (j : Nat), (j ≤ N) → (zjud (zjb x t i) (zjd x t i) 0 N = zjud (zjb x t i) (zjd x t i) j (N - j)) → N + 1 ≤ j + f → ∀ (H : Heap) (locs : List Loc), zI G x A s.heap H locs → ∀ ls : Array Slot, lv_has ls 4 [(0, .ref (za G 0)), (1, .int (nI t)), (2, .int i), (3, .int (nI j))] → W p l e { frames := 2, cells := 0, slots := 0, locals := 42 } s m ([.ref (za G 0), .int (nI t), .int i] : List Value).toArray below meth c H locs 0 0 (MQ below (va_Qi (fun (r : Int32) (u : zX) => x = u ∧ (if zin 6 (nI t) then (if ¬ x.1 26 t = -1 ∧ ¬ x.1 26 t = nI 1 then -12 else zjud (zjb x t i) (zjd x t i) 0 N) else -1) = r) (fun u t => zJ G u A t.heap) A) ([.ref (za G 0), .int (nI t), .int i] : List Value).toArray s 0 0 A) (F0 m 34 ls []) := by
        intro f
        induction f with
        | zero =>
          intro j h1 h2 hf
          exact absurd hf (by omega)
        | succ f ih =>
          intro j h1 h2 hf H locs hI ls hl
          have ih34 := ih
          refine lv_iload_n hx hb dX11_judge_34 rfl (lv_at hl 3 rfl) ?_
          refine lv_aload_n hx hb dX11_judge_35 rfl (lv_at hl 0 rfl) ?_
          refine z_get (C := RX11) (T := TX11) (N := 14) (ci := 11) (v := .ref (za G 1)) hx hb hts hin11 hown hK hI (zo0 hG) rfl 0 (by decide) wF12 (fun _ h9 => h9) rfl dX11_judge_36 ?_
          refine z_get (C := RX7) (T := TX7) (N := 7) (ci := 7) (v := .int (nI N)) hx hb hts hin7 hown hK hI (zo1 hG) rfl 3 (by decide) wF66 (fun _ h9 => h9) (congrArg (fun q => some (Value.int q)) hn.2.1) dX11_judge_39 ?_
          refine lv_icmp_ge (tgt := 111) hx hb dX11_judge_42 (by decide) (fun c_42 => ?_) (fun c_42 => ?_)
          · skip
            rw [zqG (by omega) (by omega)] at c_42
            refine lv_bipush (v := (-5)) hx hb dX11_judge_111 rfl ?_
            exact z_iret hx hb hr hlocks hI (⟨rfl, by rw [if_pos hz6, if_neg hcs]; rw [h2, show N - j = 0 by omega]; rfl⟩) dX11_judge_113
          · skip
            rw [zqG (by omega) (by omega)] at c_42
            refine lv_iload_n hx hb dX11_judge_45 rfl (lv_at hl 2 rfl) ?_
            refine lv_if_lt (tgt := 72) hx hb dX11_judge_46 (by decide) (fun c_46 => ?_) (fun c_46 => ?_)
            · skip
              refine lv_bipush (v := (nI 100)) hx hb dX11_judge_72 rfl ?_
              refine lv_iload_n hx hb dX11_judge_74 rfl (lv_at hl 3 rfl) ?_
              refine z_iadd (v := (nI (100 + j))) hx hb (nI_add _ _) dX11_judge_75 ?_
              exact z_iret hx hb hr hlocks hI (⟨rfl, by rw [if_pos hz6, if_neg hcs]; rw [h2]; exact zjud_b (fun h => h.1 c_46) (by omega)⟩) dX11_judge_76
            · skip
              refine lv_iload_n hx hb dX11_judge_49 rfl (lv_at hl 2 rfl) ?_
              refine lv_aload_n hx hb dX11_judge_50 rfl (lv_at hl 0 rfl) ?_
              refine z_get (C := RX11) (T := TX11) (N := 14) (ci := 11) (v := .ref (za G 27)) hx hb hts hin11 hown hK hI (zo0 hG) rfl 13 (by decide) wF59 (fun _ h9 => h9) rfl dX11_judge_51 ?_
              refine lv_iload_n hx hb dX11_judge_54 rfl (lv_at hl 1 rfl) ?_
              refine z_iald (v := (nI (zsz x t))) hx hb hK hI (zo27 hG) t rfl (by omega) (by decide) (htp t ht).1 dX11_judge_55 ?_
              refine lv_iload_n hx hb dX11_judge_56 rfl (lv_at hl 3 rfl) ?_
              refine z_isub (v := (nI (zsz x t) - nI j)) hx hb rfl dX11_judge_57 ?_
              refine lv_icmp_ge (tgt := 72) hx hb dX11_judge_58 (by decide) (fun c_58 => ?_) (fun c_58 => ?_)
              · skip
                refine lv_bipush (v := (nI 100)) hx hb dX11_judge_72 rfl ?_
                refine lv_iload_n hx hb dX11_judge_74 rfl (lv_at hl 3 rfl) ?_
                refine z_iadd (v := (nI (100 + j))) hx hb (nI_add _ _) dX11_judge_75 ?_
                exact z_iret hx hb hr hlocks hI (⟨rfl, by rw [if_pos hz6, if_neg hcs]; rw [h2]; exact zjud_b (fun h => absurd h.2 (by have h9 := (z_placeL h60 (by omega) c_46).mp c_58; omega)) (by omega)⟩) dX11_judge_76
              · skip
                have hg : ¬ i < 0 ∧ i.toNatClampNeg + j < zsz x t := ⟨c_46, Nat.lt_of_not_le (fun q => c_58 ((z_placeL h60 (by omega) c_46).mpr q))⟩
                refine lv_aload_n hx hb dX11_judge_61 rfl (lv_at hl 0 rfl) ?_
                refine lv_iload_n hx hb dX11_judge_62 rfl (lv_at hl 1 rfl) ?_
                refine lv_iload_n hx hb dX11_judge_63 rfl (lv_at hl 2 rfl) ?_
                refine lv_iload_n hx hb dX11_judge_64 rfl (lv_at hl 3 rfl) ?_
                refine z_iadd (v := (nI (i.toNatClampNeg + j))) hx hb (z_addc hg.1) dX11_judge_65 ?_
                refine z_calli (va_runV (As := [.int (nI t), .int (nI (i.toNatClampNeg + j))]) (rest := []) ⟨hx, hb, hml, hown, hts⟩ ((c_X11_isPlace l hG x t (nI (i.toNatClampNeg + j)) htp (by omega)) A) (cwV 2 hts gX11_judge_X11_isPlace rfl rfl rfl (by decide +kernel) ⟨Nat.le_of_ble_eq_true rfl, Nat.le_of_ble_eq_true rfl⟩) (z_pV hI hK hN (z_recv hK hI (zo0 hG) rfl)) rfl rfl hl.1 rfl (lv_room (Nat.le_of_ble_eq_true rfl)) dX11_judge_66 ⟨Nat.zero_le _, Nat.zero_le _⟩) hI (fun r_66 u H locs hw hI => ?_)
                obtain ⟨rfl, rfl⟩ := hw
                refine lv_if_ne (tgt := 77) hx hb dX11_judge_69 (by decide) (fun c_69 => ?_) (fun c_69 => ?_)
                · skip
                  rw [zb_0, Classical.not_not] at c_69
                  refine lv_aload_n hx hb dX11_judge_77 rfl (lv_at hl 0 rfl) ?_
                  refine z_get (C := RX11) (T := TX11) (N := 14) (ci := 11) (v := .ref (za G 19)) hx hb hts hin11 hown hK hI (zo0 hG) rfl 11 (by decide) wF52 (fun _ h9 => h9) rfl dX11_judge_78 ?_
                  refine lv_iload_n hx hb dX11_judge_81 rfl (lv_at hl 1 rfl) ?_
                  refine z_jald hx hb hK hG hI t rfl (by omega) dX11_judge_82 ?_
                  refine lv_iload_n hx hb dX11_judge_83 rfl (lv_at hl 2 rfl) ?_
                  refine lv_iload_n hx hb dX11_judge_84 rfl (lv_at hl 3 rfl) ?_
                  refine z_iadd (v := (nI (i.toNatClampNeg + j))) hx hb (z_addc hg.1) dX11_judge_85 ?_
                  refine z_lald (v := (x.2.1 (20 + t) (i.toNatClampNeg + j))) hx hb hK hI (zol hG (by omega)) (i.toNatClampNeg + j) rfl (by omega) (by decide) rfl dX11_judge_86 ?_
                  refine lv_aload_n hx hb dX11_judge_87 rfl (lv_at hl 0 rfl) ?_
                  refine z_get (C := RX11) (T := TX11) (N := 14) (ci := 11) (v := .ref (za G 1)) hx hb hts hin11 hown hK hI (zo0 hG) rfl 0 (by decide) wF12 (fun _ h9 => h9) rfl dX11_judge_88 ?_
                  refine z_get (C := RX7) (T := TX7) (N := 7) (ci := 7) (v := .ref (za G 4)) hx hb hts hin7 hown hK hI (zo1 hG) rfl 1 (by decide) wF114 (fun _ h9 => h9) rfl dX11_judge_91 ?_
                  refine lv_iload_n hx hb dX11_judge_94 rfl (lv_at hl 3 rfl) ?_
                  refine z_calli (va_runS (As := [.ref (za G 4), .int (nI j)]) (rest := [.long (x.2.1 (20 + t) (i.toNatClampNeg + j))]) ⟨hx, hb, hml, hown, hts⟩ ((c_X11_seatIn l hG x 4 (nI j) (zo4 hG)) A) (va_cwS 2 hts gX11_judge_X11_seatIn rfl rfl rfl (by decide +kernel) ⟨Nat.le_of_ble_eq_true rfl, Nat.le_of_ble_eq_true rfl⟩) (z_pS hI hK hN) rfl rfl hl.1 rfl (lv_room (Nat.le_of_ble_eq_true rfl)) dX11_judge_95 ⟨Nat.zero_le _, Nat.zero_le _⟩) hI (fun r_95 u H locs hw hI => ?_)
                  obtain ⟨rfl, rfl⟩ := hw
                  refine lv_i2l hx hb dX11_judge_98 rfl ?_
                  refine W.lcmp hx hb dX11_judge_99 ?_
                  refine lv_if_eq (tgt := 105) hx hb dX11_judge_100 (by decide) (fun c_100 => ?_) (fun c_100 => ?_)
                  · skip
                    rw [zlcmp0] at c_100
                    refine lv_iinc (v := (nI (j + 1))) (lv' := [(3, .int (nI (j + 1))), (0, .ref (za G 0)), (1, .int (nI t)), (2, .int i)]) hx hb dX11_judge_105 hl (k := 3) rfl (zinc j) (by decide) rfl (fun ls hl => ?_)
                    refine lv_goto (tgt := 34) hx hb dX11_judge_108 (by decide) ?_
                    exact ih34 (j + 1) (by omega) (by rw [h2, zjud_n (fun h => h hg) (fun h => h c_100) (by omega)]; rfl) (by omega) _ _ hI ls (lv_sub hl [1, 2, 3, 0] rfl)
                  · skip
                    rw [zlcmp0] at c_100
                    refine lv_iload_n hx hb dX11_judge_103 rfl (lv_at hl 3 rfl) ?_
                    exact z_iret hx hb hr hlocks hI (⟨rfl, by rw [if_pos hz6, if_neg hcs]; rw [h2]; exact zjud_d (fun h => h hg) c_100 (by omega)⟩) dX11_judge_104
                · skip
                  rw [zb_0] at c_69
                  exact absurd ⟨nI_pos (by omega), nI_ge hg.2 (by omega)⟩ c_69
      exact L34 (N + 1) 0 (by omega) rfl (by omega) _ _ hI ls (lv_sub hl [1, 2, 3, 0] rfl)
    · skip
      refine lv_aload_n hx hb dX11_judge_19 rfl (lv_at hl 0 rfl) ?_
      refine z_get (C := RX11) (T := TX11) (N := 14) (ci := 11) (v := .ref (za G 26)) hx hb hts hin11 hown hK hI (zo0 hG) rfl 12 (by decide) wF55 (fun _ h9 => h9) rfl dX11_judge_20 ?_
      refine lv_iload_n hx hb dX11_judge_23 rfl (lv_at hl 1 rfl) ?_
      refine z_iald (v := (x.1 26 t)) hx hb hK hI (zo26 hG) t rfl (by omega) (by decide) rfl dX11_judge_24 ?_
      refine lv_iconst (v := (nI 1)) hx hb dX11_judge_25 rfl ?_
      refine lv_icmp_eq (tgt := 32) hx hb dX11_judge_26 (by decide) (fun c_26 => ?_) (fun c_26 => ?_)
      · skip
        have hcs : ¬ (¬ x.1 26 t = -1 ∧ ¬ x.1 26 t = nI 1) := fun h => h.2 c_26
        refine lv_iconst (v := (nI 0)) hx hb dX11_judge_32 rfl ?_
        refine lv_istore_n (lv' := [(3, .int (nI 0)), (0, .ref (za G 0)), (1, .int (nI t)), (2, .int i)]) hx hb dX11_judge_33 rfl hl (by decide) rfl (fun ls hl => ?_)
        have L34 : ∀ (f : Nat) (j : Nat), (j ≤ N) → (zjud (zjb x t i) (zjd x t i) 0 N = zjud (zjb x t i) (zjd x t i) j (N - j)) → N + 1 ≤ j + f → ∀ (H : Heap) (locs : List Loc), zI G x A s.heap H locs → ∀ ls : Array Slot, lv_has ls 4 [(0, .ref (za G 0)), (1, .int (nI t)), (2, .int i), (3, .int (nI j))] → W p l e { frames := 2, cells := 0, slots := 0, locals := 42 } s m ([.ref (za G 0), .int (nI t), .int i] : List Value).toArray below meth c H locs 0 0 (MQ below (va_Qi (fun (r : Int32) (u : zX) => x = u ∧ (if zin 6 (nI t) then (if ¬ x.1 26 t = -1 ∧ ¬ x.1 26 t = nI 1 then -12 else zjud (zjb x t i) (zjd x t i) 0 N) else -1) = r) (fun u t => zJ G u A t.heap) A) ([.ref (za G 0), .int (nI t), .int i] : List Value).toArray s 0 0 A) (F0 m 34 ls []) := by
          intro f
          induction f with
          | zero =>
            intro j h1 h2 hf
            exact absurd hf (by omega)
          | succ f ih =>
            intro j h1 h2 hf H locs hI ls hl
            have ih34 := ih
            refine lv_iload_n hx hb dX11_judge_34 rfl (lv_at hl 3 rfl) ?_
            refine lv_aload_n hx hb dX11_judge_35 rfl (lv_at hl 0 rfl) ?_
            refine z_get (C := RX11) (T := TX11) (N := 14) (ci := 11) (v := .ref (za G 1)) hx hb hts hin11 hown hK hI (zo0 hG) rfl 0 (by decide) wF12 (fun _ h9 => h9) rfl dX11_judge_36 ?_
            refine z_get (C := RX7) (T := TX7) (N := 7) (ci := 7) (v := .int (nI N)) hx hb hts hin7 hown hK hI (zo1 hG) rfl 3 (by decide) wF66 (fun _ h9 => h9) (congrArg (fun q => some (Value.int q)) hn.2.1) dX11_judge_39 ?_
            refine lv_icmp_ge (tgt := 111) hx hb dX11_judge_42 (by decide) (fun c_42 => ?_) (fun c_42 => ?_)
            · skip
              rw [zqG (by omega) (by omega)] at c_42
              refine lv_bipush (v := (-5)) hx hb dX11_judge_111 rfl ?_
              exact z_iret hx hb hr hlocks hI (⟨rfl, by rw [if_pos hz6, if_neg hcs]; rw [h2, show N - j = 0 by omega]; rfl⟩) dX11_judge_113
            · skip
              rw [zqG (by omega) (by omega)] at c_42
              refine lv_iload_n hx hb dX11_judge_45 rfl (lv_at hl 2 rfl) ?_
              refine lv_if_lt (tgt := 72) hx hb dX11_judge_46 (by decide) (fun c_46 => ?_) (fun c_46 => ?_)
              · skip
                refine lv_bipush (v := (nI 100)) hx hb dX11_judge_72 rfl ?_
                refine lv_iload_n hx hb dX11_judge_74 rfl (lv_at hl 3 rfl) ?_
                refine z_iadd (v := (nI (100 + j))) hx hb (nI_add _ _) dX11_judge_75 ?_
                exact z_iret hx hb hr hlocks hI (⟨rfl, by rw [if_pos hz6, if_neg hcs]; rw [h2]; exact zjud_b (fun h => h.1 c_46) (by omega)⟩) dX11_judge_76
              · skip
                refine lv_iload_n hx hb dX11_judge_49 rfl (lv_at hl 2 rfl) ?_
                refine lv_aload_n hx hb dX11_judge_50 rfl (lv_at hl 0 rfl) ?_
                refine z_get (C := RX11) (T := TX11) (N := 14) (ci := 11) (v := .ref (za G 27)) hx hb hts hin11 hown hK hI (zo0 hG) rfl 13 (by decide) wF59 (fun _ h9 => h9) rfl dX11_judge_51 ?_
                refine lv_iload_n hx hb dX11_judge_54 rfl (lv_at hl 1 rfl) ?_
                refine z_iald (v := (nI (zsz x t))) hx hb hK hI (zo27 hG) t rfl (by omega) (by decide) (htp t ht).1 dX11_judge_55 ?_
                refine lv_iload_n hx hb dX11_judge_56 rfl (lv_at hl 3 rfl) ?_
                refine z_isub (v := (nI (zsz x t) - nI j)) hx hb rfl dX11_judge_57 ?_
                refine lv_icmp_ge (tgt := 72) hx hb dX11_judge_58 (by decide) (fun c_58 => ?_) (fun c_58 => ?_)
                · skip
                  refine lv_bipush (v := (nI 100)) hx hb dX11_judge_72 rfl ?_
                  refine lv_iload_n hx hb dX11_judge_74 rfl (lv_at hl 3 rfl) ?_
                  refine z_iadd (v := (nI (100 + j))) hx hb (nI_add _ _) dX11_judge_75 ?_
                  exact z_iret hx hb hr hlocks hI (⟨rfl, by rw [if_pos hz6, if_neg hcs]; rw [h2]; exact zjud_b (fun h => absurd h.2 (by have h9 := (z_placeL h60 (by omega) c_46).mp c_58; omega)) (by omega)⟩) dX11_judge_76
                · skip
                  have hg : ¬ i < 0 ∧ i.toNatClampNeg + j < zsz x t := ⟨c_46, Nat.lt_of_not_le (fun q => c_58 ((z_placeL h60 (by omega) c_46).mpr q))⟩
                  refine lv_aload_n hx hb dX11_judge_61 rfl (lv_at hl 0 rfl) ?_
                  refine lv_iload_n hx hb dX11_judge_62 rfl (lv_at hl 1 rfl) ?_
                  refine lv_iload_n hx hb dX11_judge_63 rfl (lv_at hl 2 rfl) ?_
                  refine lv_iload_n hx hb dX11_judge_64 rfl (lv_at hl 3 rfl) ?_
                  refine z_iadd (v := (nI (i.toNatClampNeg + j))) hx hb (z_addc hg.1) dX11_judge_65 ?_
                  refine z_calli (va_runV (As := [.int (nI t), .int (nI (i.toNatClampNeg + j))]) (rest := []) ⟨hx, hb, hml, hown, hts⟩ ((c_X11_isPlace l hG x t (nI (i.toNatClampNeg + j)) htp (by omega)) A) (cwV 2 hts gX11_judge_X11_isPlace rfl rfl rfl (by decide +kernel) ⟨Nat.le_of_ble_eq_true rfl, Nat.le_of_ble_eq_true rfl⟩) (z_pV hI hK hN (z_recv hK hI (zo0 hG) rfl)) rfl rfl hl.1 rfl (lv_room (Nat.le_of_ble_eq_true rfl)) dX11_judge_66 ⟨Nat.zero_le _, Nat.zero_le _⟩) hI (fun r_66 u H locs hw hI => ?_)
                  obtain ⟨rfl, rfl⟩ := hw
                  refine lv_if_ne (tgt := 77) hx hb dX11_judge_69 (by decide) (fun c_69 => ?_) (fun c_69 => ?_)
                  · skip
                    rw [zb_0, Classical.not_not] at c_69
                    refine lv_aload_n hx hb dX11_judge_77 rfl (lv_at hl 0 rfl) ?_
                    refine z_get (C := RX11) (T := TX11) (N := 14) (ci := 11) (v := .ref (za G 19)) hx hb hts hin11 hown hK hI (zo0 hG) rfl 11 (by decide) wF52 (fun _ h9 => h9) rfl dX11_judge_78 ?_
                    refine lv_iload_n hx hb dX11_judge_81 rfl (lv_at hl 1 rfl) ?_
                    refine z_jald hx hb hK hG hI t rfl (by omega) dX11_judge_82 ?_
                    refine lv_iload_n hx hb dX11_judge_83 rfl (lv_at hl 2 rfl) ?_
                    refine lv_iload_n hx hb dX11_judge_84 rfl (lv_at hl 3 rfl) ?_
                    refine z_iadd (v := (nI (i.toNatClampNeg + j))) hx hb (z_addc hg.1) dX11_judge_85 ?_
                    refine z_lald (v := (x.2.1 (20 + t) (i.toNatClampNeg + j))) hx hb hK hI (zol hG (by omega)) (i.toNatClampNeg + j) rfl (by omega) (by decide) rfl dX11_judge_86 ?_
                    refine lv_aload_n hx hb dX11_judge_87 rfl (lv_at hl 0 rfl) ?_
                    refine z_get (C := RX11) (T := TX11) (N := 14) (ci := 11) (v := .ref (za G 1)) hx hb hts hin11 hown hK hI (zo0 hG) rfl 0 (by decide) wF12 (fun _ h9 => h9) rfl dX11_judge_88 ?_
                    refine z_get (C := RX7) (T := TX7) (N := 7) (ci := 7) (v := .ref (za G 4)) hx hb hts hin7 hown hK hI (zo1 hG) rfl 1 (by decide) wF114 (fun _ h9 => h9) rfl dX11_judge_91 ?_
                    refine lv_iload_n hx hb dX11_judge_94 rfl (lv_at hl 3 rfl) ?_
                    refine z_calli (va_runS (As := [.ref (za G 4), .int (nI j)]) (rest := [.long (x.2.1 (20 + t) (i.toNatClampNeg + j))]) ⟨hx, hb, hml, hown, hts⟩ ((c_X11_seatIn l hG x 4 (nI j) (zo4 hG)) A) (va_cwS 2 hts gX11_judge_X11_seatIn rfl rfl rfl (by decide +kernel) ⟨Nat.le_of_ble_eq_true rfl, Nat.le_of_ble_eq_true rfl⟩) (z_pS hI hK hN) rfl rfl hl.1 rfl (lv_room (Nat.le_of_ble_eq_true rfl)) dX11_judge_95 ⟨Nat.zero_le _, Nat.zero_le _⟩) hI (fun r_95 u H locs hw hI => ?_)
                    obtain ⟨rfl, rfl⟩ := hw
                    refine lv_i2l hx hb dX11_judge_98 rfl ?_
                    refine W.lcmp hx hb dX11_judge_99 ?_
                    refine lv_if_eq (tgt := 105) hx hb dX11_judge_100 (by decide) (fun c_100 => ?_) (fun c_100 => ?_)
                    · skip
                      rw [zlcmp0] at c_100
                      refine lv_iinc (v := (nI (j + 1))) (lv' := [(3, .int (nI (j + 1))), (0, .ref (za G 0)), (1, .int (nI t)), (2, .int i)]) hx hb dX11_judge_105 hl (k := 3) rfl (zinc j) (by decide) rfl (fun ls hl => ?_)
                      refine lv_goto (tgt := 34) hx hb dX11_judge_108 (by decide) ?_
                      exact ih34 (j + 1) (by omega) (by rw [h2, zjud_n (fun h => h hg) (fun h => h c_100) (by omega)]; rfl) (by omega) _ _ hI ls (lv_sub hl [1, 2, 3, 0] rfl)
                    · skip
                      rw [zlcmp0] at c_100
                      refine lv_iload_n hx hb dX11_judge_103 rfl (lv_at hl 3 rfl) ?_
                      exact z_iret hx hb hr hlocks hI (⟨rfl, by rw [if_pos hz6, if_neg hcs]; rw [h2]; exact zjud_d (fun h => h hg) c_100 (by omega)⟩) dX11_judge_104
                  · skip
                    rw [zb_0] at c_69
                    exact absurd ⟨nI_pos (by omega), nI_ge hg.2 (by omega)⟩ c_69
        exact L34 (N + 1) 0 (by omega) rfl (by omega) _ _ hI ls (lv_sub hl [1, 2, 3, 0] rfl)
      · skip
        refine lv_bipush (v := (-12)) hx hb dX11_judge_29 rfl ?_
        exact z_iret hx hb hr hlocks hI (⟨rfl, by rw [if_pos hz6]; exact if_pos ⟨c_16, c_26⟩⟩) dX11_judge_31
  · skip
    rw [zb_0] at c_4
    refine lv_iconst (v := (-1)) hx hb dX11_judge_7 rfl ?_
    exact z_iret hx hb hr hlocks hI (⟨rfl, if_neg c_4⟩) dX11_judge_8
set_option maxHeartbeats 4000000 in
set_option maxRecDepth 100000 in
theorem c_X11_carries (l : Launch) {G : zG} (hG : zOK G) (x : zX) (N : Nat) (b n0 : Int32) (hn : zNow G x N) : zMi l yX11_carries wsX11_carries { frames := 5, cells := 0, slots := 0, locals := 124 } G [.ref (za G 0), .int b, .int n0] x (fun (r : Int32) (u : zX) => x = u ∧ ((¬ ((¬ b < 0 ∧ ¬ nI (2 ^ N) ≤ b) ∧ ¬ n0 < 0 ∧ ¬ nI 30 < n0) ∧ -2 = r) ∨ (((¬ b < 0 ∧ ¬ nI (2 ^ N) ≤ b) ∧ ¬ n0 < 0 ∧ ¬ nI 30 < n0) ∧ N = 0 ∧ -5 = r) ∨ (((¬ b < 0 ∧ ¬ nI (2 ^ N) ≤ b) ∧ ¬ n0 < 0 ∧ ¬ nI 30 < n0) ∧ 0 < N ∧ ∃ nb, nb ≤ 30 ∧ n0 = nI nb ∧ (zleast (fun qq => (zrun (fun y => zlater G x y (x.1 (zrix (x.1 1 6)) 6) (nI qq)) (fun y => zsum (fun qq => if zbit y (nI qq) then x.1 (zob x qq) 2 else 0) N) nb (b &&& ((nI 1 <<< (nI qq &&& 31)) ^^^ (-1)))).2) N).1 = r))) := by
  intro A
  refine zBody (cc := cX11_carries) (maxL := 7) (ret := (some .int)) (by decide) rfl (Nat.le_of_ble_eq_true rfl) ?_
  intro p e s m below meth c hx hb hml hown hts hr hlocks hK hN hI ls hl
  have hown : s.vm.findClass RX11 = some m.cls := hown
  have hl : lv_has ls 7 [(0, .ref (za G 0)), (1, .int b), (2, .int n0)] := hl
  have hin7 : ∀ w ∈ wsX70, w ∈ wsX11_carries := (fun _ h => List.mem_cons_of_mem _ (List.mem_append_left _ (List.mem_append_left _ (List.mem_append_left _ (List.mem_append_left _ (List.mem_append_left _ (List.mem_append_left _ (List.mem_append_left _ (List.mem_append_left _ (List.mem_append_right _ (h)))))))))))
  have hin11 : ∀ w ∈ wsX110, w ∈ wsX11_carries := (fun _ h => List.mem_cons_of_mem _ (List.mem_append_left _ (List.mem_append_left _ (List.mem_append_left _ (List.mem_append_left _ (List.mem_append_left _ (List.mem_append_left _ (List.mem_append_left _ (List.mem_append_left _ (List.mem_append_left _ (List.mem_append_right _ (h))))))))))))
  have wF12 := hts (.fieldLink RX11 12 "WhoSitsBy" "now" "LWhoSitsBy$Standing;") (z_mem 1 rfl)
  have wF66 := hts (.fieldLink RX11 66 "WhoSitsBy$Standing" "size" "I") (z_mem 2 rfl)
  have h8 := hn.1
  refine lv_aload_n hx hb dX11_carries_0 rfl (lv_at hl 0 rfl) ?_
  refine z_get (C := RX11) (T := TX11) (N := 14) (ci := 11) (v := .ref (za G 1)) hx hb hts hin11 hown hK hI (zo0 hG) rfl 0 (by decide) wF12 (fun _ h9 => h9) rfl dX11_carries_1 ?_
  refine lv_iload_n hx hb dX11_carries_4 rfl (lv_at hl 1 rfl) ?_
  refine z_calli (va_runV (As := [.int b]) (rest := []) ⟨hx, hb, hml, hown, hts⟩ ((c_X7_arePupils l hG x N b hn) A) (cwV 1 hts gX11_carries_X7_arePupils rfl rfl rfl (by decide +kernel) ⟨Nat.le_of_ble_eq_true rfl, Nat.le_of_ble_eq_true rfl⟩) (z_pV hI hK hN (z_recv hK hI (zo1 hG) rfl)) rfl rfl hl.1 rfl (lv_room (Nat.le_of_ble_eq_true rfl)) dX11_carries_5 ⟨Nat.zero_le _, Nat.zero_le _⟩) hI (fun r_5 u H locs hw hI => ?_)
  obtain ⟨rfl, rfl⟩ := hw
  refine lv_if_eq (tgt := 21) hx hb dX11_carries_8 (by decide) (fun c_8 => ?_) (fun c_8 => ?_)
  · skip
    rw [zb_0] at c_8
    refine lv_bipush (v := (-2)) hx hb dX11_carries_21 rfl ?_
    exact z_iret hx hb hr hlocks hI (⟨rfl, Or.inl ⟨fun h => c_8 h.1, rfl⟩⟩) dX11_carries_23
  · skip
    rw [zb_0, Classical.not_not] at c_8
    refine lv_iload_n hx hb dX11_carries_11 rfl (lv_at hl 2 rfl) ?_
    refine lv_if_lt (tgt := 21) hx hb dX11_carries_12 (by decide) (fun c_12 => ?_) (fun c_12 => ?_)
    · skip
      refine lv_bipush (v := (-2)) hx hb dX11_carries_21 rfl ?_
      exact z_iret hx hb hr hlocks hI (⟨rfl, Or.inl ⟨fun h => h.2.1 c_12, rfl⟩⟩) dX11_carries_23
    · skip
      refine lv_iload_n hx hb dX11_carries_15 rfl (lv_at hl 2 rfl) ?_
      refine lv_bipush (v := (nI 30)) hx hb dX11_carries_16 rfl ?_
      refine lv_icmp_le (tgt := 24) hx hb dX11_carries_18 (by decide) (fun c_18 => ?_) (fun c_18 => ?_)
      · skip
        obtain ⟨n1, hn0, rfl⟩ := z_ix (n := 31) c_12 (fun h => z_nle h (z_lt1 (m := 30) c_18)) (by decide)
        refine lv_aload_n hx hb dX11_carries_24 rfl (lv_at hl 0 rfl) ?_
        refine z_get (C := RX11) (T := TX11) (N := 14) (ci := 11) (v := .ref (za G 1)) hx hb hts hin11 hown hK hI (zo0 hG) rfl 0 (by decide) wF12 (fun _ h9 => h9) rfl dX11_carries_25 ?_
        refine z_get (C := RX7) (T := TX7) (N := 7) (ci := 7) (v := .int (nI N)) hx hb hts hin7 hown hK hI (zo1 hG) rfl 3 (by decide) wF66 (fun _ h9 => h9) (congrArg (fun q => some (Value.int q)) hn.2.1) dX11_carries_28 ?_
        refine lv_if_ne (tgt := 37) hx hb dX11_carries_31 (by decide) (fun c_31 => ?_) (fun c_31 => ?_)
        · skip
          rw [show (0 : Int32) = nI 0 from rfl] at c_31; rw [zqE (by omega) (by omega)] at c_31
          refine lv_iconst (v := (nI 0)) hx hb dX11_carries_37 rfl ?_
          refine lv_istore_n (lv' := [(3, .int (nI 0)), (0, .ref (za G 0)), (1, .int b), (2, .int (nI n1))]) hx hb dX11_carries_38 rfl hl (by decide) rfl (fun ls hl => ?_)
          refine lv_aload_n hx hb dX11_carries_39 rfl (lv_at hl 1 rfl) ?_
          refine lv_iconst (v := (nI 0)) hx hb dX11_carries_40 rfl ?_
          refine lv_iload_n hx hb dX11_carries_41 rfl (lv_at hl 2 rfl) ?_
          refine lv_iload_n hx hb dX11_carries_42 rfl (lv_at hl 3 rfl) ?_
          refine z_calli (va_runV (As := [.int (nI 0), .int b, .int (nI n1)]) (rest := []) ⟨hx, hb, hml, hown, hts⟩ ((c_X11_noiseWithout l hG x N n1 (nI 0) b hn (by omega)) A) (cwV 3 hts gX11_carries_X11_noiseWithout rfl rfl rfl (by decide +kernel) ⟨Nat.le_of_ble_eq_true rfl, Nat.le_of_ble_eq_true rfl⟩) (z_pV hI hK hN (z_recv hK hI (zo0 hG) rfl)) rfl rfl hl.1 rfl (lv_room (Nat.le_of_ble_eq_true rfl)) dX11_carries_43 ⟨Nat.zero_le _, Nat.zero_le _⟩) hI (fun r_43 u H locs hw hI => ?_)
          obtain ⟨rfl, rfl⟩ := hw
          refine lv_istore (lv' := [(4, .int ((zrun (fun y => zlater G x y (x.1 (zrix (x.1 1 6)) 6) (nI 0)) (fun y => zsum (fun qq => if zbit y (nI qq) then x.1 (zob x qq) 2 else 0) N) n1 (b &&& ((nI 1 <<< ((nI 0) &&& 31)) ^^^ (-1)))).2)), (3, .int (nI 0)), (0, .ref (za G 0)), (1, .int b), (2, .int (nI n1))]) hx hb dX11_carries_46 hl (by decide) rfl (fun ls hl => ?_)
          refine lv_iconst (v := (nI 1)) hx hb dX11_carries_48 rfl ?_
          refine lv_istore (lv' := [(5, .int (nI 1)), (4, .int ((zrun (fun y => zlater G x y (x.1 (zrix (x.1 1 6)) 6) (nI 0)) (fun y => zsum (fun qq => if zbit y (nI qq) then x.1 (zob x qq) 2 else 0) N) n1 (b &&& ((nI 1 <<< ((nI 0) &&& 31)) ^^^ (-1)))).2)), (3, .int (nI 0)), (0, .ref (za G 0)), (1, .int b), (2, .int (nI n1))]) hx hb dX11_carries_49 hl (by decide) rfl (fun ls hl => ?_)
          have L51 : ∀ (f : Nat) (j : Nat) (a : Int32) (z : Int32), (1 ≤ j) → (j ≤ N) → (zleast (fun qq => (zrun (fun y => zlater G x y (x.1 (zrix (x.1 1 6)) 6) (nI qq)) (fun y => zsum (fun qq => if zbit y (nI qq) then x.1 (zob x qq) 2 else 0) N) n1 (b &&& ((nI 1 <<< (nI qq &&& 31)) ^^^ (-1)))).2) j = (a, z)) → (¬ a < 0) → N + 1 ≤ j + f → ∀ (H : Heap) (locs : List Loc), zI G x A s.heap H locs → ∀ ls : Array Slot, lv_has ls 7 [(0, .ref (za G 0)), (1, .int b), (2, .int (nI n1)), (3, .int a), (4, .int z), (5, .int (nI j))] → W p l e { frames := 5, cells := 0, slots := 0, locals := 124 } s m ([.ref (za G 0), .int b, .int (nI n1)] : List Value).toArray below meth c H locs 0 0 (MQ below (va_Qi (fun (r : Int32) (u : zX) => x = u ∧ ((¬ ((¬ b < 0 ∧ ¬ nI (2 ^ N) ≤ b) ∧ ¬ (nI n1) < 0 ∧ ¬ nI 30 < (nI n1)) ∧ -2 = r) ∨ (((¬ b < 0 ∧ ¬ nI (2 ^ N) ≤ b) ∧ ¬ (nI n1) < 0 ∧ ¬ nI 30 < (nI n1)) ∧ N = 0 ∧ -5 = r) ∨ (((¬ b < 0 ∧ ¬ nI (2 ^ N) ≤ b) ∧ ¬ (nI n1) < 0 ∧ ¬ nI 30 < (nI n1)) ∧ 0 < N ∧ ∃ nb, nb ≤ 30 ∧ (nI n1) = nI nb ∧ (zleast (fun qq => (zrun (fun y => zlater G x y (x.1 (zrix (x.1 1 6)) 6) (nI qq)) (fun y => zsum (fun qq => if zbit y (nI qq) then x.1 (zob x qq) 2 else 0) N) nb (b &&& ((nI 1 <<< (nI qq &&& 31)) ^^^ (-1)))).2) N).1 = r))) (fun u t => zJ G u A t.heap) A) ([.ref (za G 0), .int b, .int (nI n1)] : List Value).toArray s 0 0 A) (F0 m 51 ls []) := by
            intro f
            induction f with
            | zero =>
              intro j a z h0 h1 h2 h3 hf
              exact absurd hf (by omega)
            | succ f ih =>
              intro j a z h0 h1 h2 h3 hf H locs hI ls hl
              have ih51 := ih
              refine lv_iload hx hb dX11_carries_51 (lv_at hl 5 rfl) ?_
              refine lv_aload_n hx hb dX11_carries_53 rfl (lv_at hl 0 rfl) ?_
              refine z_get (C := RX11) (T := TX11) (N := 14) (ci := 11) (v := .ref (za G 1)) hx hb hts hin11 hown hK hI (zo0 hG) rfl 0 (by decide) wF12 (fun _ h9 => h9) rfl dX11_carries_54 ?_
              refine z_get (C := RX7) (T := TX7) (N := 7) (ci := 7) (v := .int (nI N)) hx hb hts hin7 hown hK hI (zo1 hG) rfl 3 (by decide) wF66 (fun _ h9 => h9) (congrArg (fun q => some (Value.int q)) hn.2.1) dX11_carries_57 ?_
              refine lv_icmp_ge (tgt := 93) hx hb dX11_carries_60 (by decide) (fun c_60 => ?_) (fun c_60 => ?_)
              · skip
                rw [zqG (by omega) (by omega)] at c_60
                refine lv_iload_n hx hb dX11_carries_93 rfl (lv_at hl 3 rfl) ?_
                exact z_iret hx hb hr hlocks hI (⟨rfl, Or.inr (Or.inr ⟨⟨c_8, c_12, z_nle c_18⟩, by omega, n1, by omega, rfl, by have e2 := h2; rw [show j = N by omega] at e2; rw [e2]⟩)⟩) dX11_carries_94
              · skip
                rw [zqG (by omega) (by omega)] at c_60
                refine lv_aload_n hx hb dX11_carries_63 rfl (lv_at hl 0 rfl) ?_
                refine lv_iload hx hb dX11_carries_64 (lv_at hl 5 rfl) ?_
                refine lv_iload_n hx hb dX11_carries_66 rfl (lv_at hl 1 rfl) ?_
                refine lv_iload_n hx hb dX11_carries_67 rfl (lv_at hl 2 rfl) ?_
                refine z_calli (va_runV (As := [.int (nI j), .int b, .int (nI n1)]) (rest := []) ⟨hx, hb, hml, hown, hts⟩ ((c_X11_noiseWithout l hG x N n1 (nI j) b hn (by omega)) A) (cwV 3 hts gX11_carries_X11_noiseWithout rfl rfl rfl (by decide +kernel) ⟨Nat.le_of_ble_eq_true rfl, Nat.le_of_ble_eq_true rfl⟩) (z_pV hI hK hN (z_recv hK hI (zo0 hG) rfl)) rfl rfl hl.1 rfl (lv_room (Nat.le_of_ble_eq_true rfl)) dX11_carries_68 ⟨Nat.zero_le _, Nat.zero_le _⟩) hI (fun r_68 u H locs hw hI => ?_)
                obtain ⟨rfl, rfl⟩ := hw
                refine lv_istore (lv' := [(6, .int ((zrun (fun y => zlater G x y (x.1 (zrix (x.1 1 6)) 6) (nI j)) (fun y => zsum (fun qq => if zbit y (nI qq) then x.1 (zob x qq) 2 else 0) N) n1 (b &&& ((nI 1 <<< ((nI j) &&& 31)) ^^^ (-1)))).2)), (0, .ref (za G 0)), (1, .int b), (2, .int (nI n1)), (3, .int a), (4, .int z), (5, .int (nI j))]) hx hb dX11_carries_71 hl (by decide) rfl (fun ls hl => ?_)
                refine lv_iload hx hb dX11_carries_73 (lv_at hl 0 rfl) ?_
                refine lv_iload hx hb dX11_carries_75 (lv_at hl 5 rfl) ?_
                refine lv_icmp_ge (tgt := 87) hx hb dX11_carries_77 (by decide) (fun c_77 => ?_) (fun c_77 => ?_)
                · skip
                  refine lv_iinc (v := (nI (j + 1))) (lv' := [(5, .int (nI (j + 1))), (6, .int ((zrun (fun y => zlater G x y (x.1 (zrix (x.1 1 6)) 6) (nI j)) (fun y => zsum (fun qq => if zbit y (nI qq) then x.1 (zob x qq) 2 else 0) N) n1 (b &&& ((nI 1 <<< ((nI j) &&& 31)) ^^^ (-1)))).2)), (0, .ref (za G 0)), (1, .int b), (2, .int (nI n1)), (3, .int a), (4, .int z)]) hx hb dX11_carries_87 hl (k := 6) rfl (zinc j) (by decide) rfl (fun ls hl => ?_)
                  refine lv_goto (tgt := 51) hx hb dX11_carries_90 (by decide) ?_
                  exact ih51 (j + 1) a z (by omega) (by omega) (by rw [zleast, h2]; exact if_pos ⟨h3, z_nle c_77⟩) h3 (by omega) _ _ hI ls (lv_sub hl [2, 3, 4, 5, 6, 0] rfl)
                · skip
                  refine lv_iload hx hb dX11_carries_80 (lv_at hl 6 rfl) ?_
                  refine lv_istore_n (lv' := [(3, .int (nI j)), (6, .int ((zrun (fun y => zlater G x y (x.1 (zrix (x.1 1 6)) 6) (nI j)) (fun y => zsum (fun qq => if zbit y (nI qq) then x.1 (zob x qq) 2 else 0) N) n1 (b &&& ((nI 1 <<< ((nI j) &&& 31)) ^^^ (-1)))).2)), (0, .ref (za G 0)), (1, .int b), (2, .int (nI n1)), (4, .int z), (5, .int (nI j))]) hx hb dX11_carries_82 rfl hl (by decide) rfl (fun ls hl => ?_)
                  refine lv_iload hx hb dX11_carries_83 (lv_at hl 1 rfl) ?_
                  refine lv_istore (lv' := [(4, .int ((zrun (fun y => zlater G x y (x.1 (zrix (x.1 1 6)) 6) (nI j)) (fun y => zsum (fun qq => if zbit y (nI qq) then x.1 (zob x qq) 2 else 0) N) n1 (b &&& ((nI 1 <<< ((nI j) &&& 31)) ^^^ (-1)))).2)), (3, .int (nI j)), (6, .int ((zrun (fun y => zlater G x y (x.1 (zrix (x.1 1 6)) 6) (nI j)) (fun y => zsum (fun qq => if zbit y (nI qq) then x.1 (zob x qq) 2 else 0) N) n1 (b &&& ((nI 1 <<< ((nI j) &&& 31)) ^^^ (-1)))).2)), (0, .ref (za G 0)), (1, .int b), (2, .int (nI n1)), (5, .int (nI j))]) hx hb dX11_carries_85 hl (by decide) rfl (fun ls hl => ?_)
                  refine lv_iinc (v := (nI (j + 1))) (lv' := [(5, .int (nI (j + 1))), (4, .int ((zrun (fun y => zlater G x y (x.1 (zrix (x.1 1 6)) 6) (nI j)) (fun y => zsum (fun qq => if zbit y (nI qq) then x.1 (zob x qq) 2 else 0) N) n1 (b &&& ((nI 1 <<< ((nI j) &&& 31)) ^^^ (-1)))).2)), (3, .int (nI j)), (6, .int ((zrun (fun y => zlater G x y (x.1 (zrix (x.1 1 6)) 6) (nI j)) (fun y => zsum (fun qq => if zbit y (nI qq) then x.1 (zob x qq) 2 else 0) N) n1 (b &&& ((nI 1 <<< ((nI j) &&& 31)) ^^^ (-1)))).2)), (0, .ref (za G 0)), (1, .int b), (2, .int (nI n1))]) hx hb dX11_carries_87 hl (k := 6) rfl (zinc j) (by decide) rfl (fun ls hl => ?_)
                  refine lv_goto (tgt := 51) hx hb dX11_carries_90 (by decide) ?_
                  exact ih51 (j + 1) (nI j) ((zrun (fun y => zlater G x y (x.1 (zrix (x.1 1 6)) 6) (nI j)) (fun y => zsum (fun qq => if zbit y (nI qq) then x.1 (zob x qq) 2 else 0) N) n1 (b &&& ((nI 1 <<< ((nI j) &&& 31)) ^^^ (-1)))).2) (by omega) (by omega) (by rw [zleast, h2]; exact if_neg (fun h => h.2 (z_le c_77))) (nI_pos (by omega)) (by omega) _ _ hI ls (lv_sub hl [4, 5, 6, 2, 1, 0] rfl)
          exact L51 (N + 1) 1 (nI 0) ((zrun (fun y => zlater G x y (x.1 (zrix (x.1 1 6)) 6) (nI 0)) (fun y => zsum (fun qq => if zbit y (nI qq) then x.1 (zob x qq) 2 else 0) N) n1 (b &&& ((nI 1 <<< ((nI 0) &&& 31)) ^^^ (-1)))).2) (by omega) (by omega) rfl (by decide) (by omega) _ _ hI ls (lv_sub hl [3, 4, 5, 2, 1, 0] rfl)
        · skip
          rw [show (0 : Int32) = nI 0 from rfl] at c_31; rw [zqE (by omega) (by omega)] at c_31
          refine lv_bipush (v := (-5)) hx hb dX11_carries_34 rfl ?_
          exact z_iret hx hb hr hlocks hI (⟨rfl, Or.inr (Or.inl ⟨⟨c_8, c_12, z_nle c_18⟩, by omega, rfl⟩)⟩) dX11_carries_36
      · skip
        refine lv_bipush (v := (-2)) hx hb dX11_carries_21 rfl ?_
        exact z_iret hx hb hr hlocks hI (⟨rfl, Or.inl ⟨fun h => c_18 (z_nlt h.2.2), rfl⟩⟩) dX11_carries_23
set_option maxHeartbeats 4000000 in
set_option maxRecDepth 100000 in
theorem c_X9_clear (l : Launch) {G : zG} (hG : zOK G) (x : zX)   : zMv l yX9_clear wsX9_clear { frames := 0, cells := 0, slots := 0, locals := 0 } G [.ref (za G 17)] x (fun (u : zX) => zsI x 17 1 (nI 0) = u) := by
  intro A
  refine zBody (cc := cX9_clear) (maxL := 1) (ret := none) (by decide) rfl (Nat.le_of_ble_eq_true rfl) ?_
  intro p e s m below meth c hx hb hml hown hts hr hlocks hK hN hI ls hl
  have hown : s.vm.findClass RX9 = some m.cls := hown
  have hl : lv_has ls 1 [(0, .ref (za G 17))] := hl
  have hin9 : ∀ w ∈ wsX90, w ∈ wsX9_clear := (fun _ h => List.mem_cons_of_mem _ (List.mem_append_right _ (h)))
  have wF15 := hts (.fieldLink RX9 15 "WhoSitsBy$Trace" "ran" "I") (z_mem 1 rfl)
  refine lv_aload_n hx hb dX9_clear_0 rfl (lv_at hl 0 rfl) ?_
  refine lv_iconst (v := (nI 0)) hx hb dX9_clear_1 rfl ?_
  refine z_putI (C := RX9) (T := TX9) (N := 2) (ci := 9) (ty := .int) hx hb hts hin9 tyX9 tyX9_ok nmX9 hown hK hI (zo17 hG) rfl 1 (by decide) wF15 (fun _ h9 => h9) rfl (fun _ _ => rfl) (by decide +kernel) rfl rfl (fun _ _ => Nat.le_of_ble_eq_true rfl) dX9_clear_2 (fun H locs hI => ?_)
  exact z_vret hx hb hr hlocks hI (rfl) dX9_clear_5
set_option maxHeartbeats 4000000 in
set_option maxRecDepth 100000 in
theorem c_X9_begin (l : Launch) {G : zG} (hG : zOK G) (x : zX) (k : Int32)  : zMv l yX9_begin wsX9_begin { frames := 0, cells := 0, slots := 0, locals := 0 } G [.ref (za G 17), .int k] x (fun (u : zX) => zbeg k x = u) := by
  intro A
  refine zBody (cc := cX9_begin) (maxL := 2) (ret := none) (by decide) rfl (Nat.le_of_ble_eq_true rfl) ?_
  intro p e s m below meth c hx hb hml hown hts hr hlocks hK hN hI ls hl
  have hown : s.vm.findClass RX9 = some m.cls := hown
  have hl : lv_has ls 2 [(0, .ref (za G 17)), (1, .int k)] := hl
  have hin9 : ∀ w ∈ wsX90, w ∈ wsX9_begin := (fun _ h => List.mem_cons_of_mem _ (List.mem_append_right _ (h)))
  have wF15 := hts (.fieldLink RX9 15 "WhoSitsBy$Trace" "ran" "I") (z_mem 1 rfl)
  have wF9 := hts (.fieldLink RX9 9 "WhoSitsBy$Trace" "bodies" "[I") (z_mem 2 rfl)
  refine lv_aload_n hx hb dX9_begin_0 rfl (lv_at hl 0 rfl) ?_
  refine z_get (C := RX9) (T := TX9) (N := 2) (ci := 9) (v := .int (x.1 17 1)) hx hb hts hin9 hown hK hI (zo17 hG) rfl 1 (by decide) wF15 (fun _ h9 => h9) rfl dX9_begin_1 ?_
  refine lv_if_lt (tgt := 29) hx hb dX9_begin_4 (by decide) (fun c_4 => ?_) (fun c_4 => ?_)
  · skip
    refine lv_aload_n hx hb dX9_begin_29 rfl (lv_at hl 0 rfl) ?_
    refine lv_dup hx hb dX9_begin_30 rfl ?_
    refine z_get (C := RX9) (T := TX9) (N := 2) (ci := 9) (v := .int (x.1 17 1)) hx hb hts hin9 hown hK hI (zo17 hG) rfl 1 (by decide) wF15 (fun _ h9 => h9) rfl dX9_begin_31 ?_
    refine lv_iconst (v := (nI 1)) hx hb dX9_begin_34 rfl ?_
    refine lv_iadd hx hb dX9_begin_35 ?_
    refine z_putI (C := RX9) (T := TX9) (N := 2) (ci := 9) (ty := .int) hx hb hts hin9 tyX9 tyX9_ok nmX9 hown hK hI (zo17 hG) rfl 1 (by decide) wF15 (fun _ h9 => h9) rfl (fun _ _ => rfl) (by decide +kernel) rfl rfl (fun _ _ => Nat.le_of_ble_eq_true rfl) dX9_begin_36 (fun H locs hI => ?_)
    exact z_vret hx hb hr hlocks hI ((by unfold zbeg; rw [if_neg (fun h => h.1 c_4)])) dX9_begin_39
  · skip
    refine lv_aload_n hx hb dX9_begin_7 rfl (lv_at hl 0 rfl) ?_
    refine z_get (C := RX9) (T := TX9) (N := 2) (ci := 9) (v := .int (x.1 17 1)) hx hb hts hin9 hown hK hI (zo17 hG) rfl 1 (by decide) wF15 (fun _ h9 => h9) rfl dX9_begin_8 ?_
    refine lv_aload_n hx hb dX9_begin_11 rfl (lv_at hl 0 rfl) ?_
    refine z_get (C := RX9) (T := TX9) (N := 2) (ci := 9) (v := .ref (za G 18)) hx hb hts hin9 hown hK hI (zo17 hG) rfl 0 (by decide) wF9 (fun _ h9 => h9) rfl dX9_begin_12 ?_
    refine z_alen (v := nI 20) hx hb hK hI 0 (zo18 hG).1 ((zo18 hG).2 _) rfl rfl dX9_begin_15 ?_
    refine lv_icmp_ge (tgt := 29) hx hb dX9_begin_16 (by decide) (fun c_16 => ?_) (fun c_16 => ?_)
    · skip
      refine lv_aload_n hx hb dX9_begin_29 rfl (lv_at hl 0 rfl) ?_
      refine lv_dup hx hb dX9_begin_30 rfl ?_
      refine z_get (C := RX9) (T := TX9) (N := 2) (ci := 9) (v := .int (x.1 17 1)) hx hb hts hin9 hown hK hI (zo17 hG) rfl 1 (by decide) wF15 (fun _ h9 => h9) rfl dX9_begin_31 ?_
      refine lv_iconst (v := (nI 1)) hx hb dX9_begin_34 rfl ?_
      refine lv_iadd hx hb dX9_begin_35 ?_
      refine z_putI (C := RX9) (T := TX9) (N := 2) (ci := 9) (ty := .int) hx hb hts hin9 tyX9 tyX9_ok nmX9 hown hK hI (zo17 hG) rfl 1 (by decide) wF15 (fun _ h9 => h9) rfl (fun _ _ => rfl) (by decide +kernel) rfl rfl (fun _ _ => Nat.le_of_ble_eq_true rfl) dX9_begin_36 (fun H locs hI => ?_)
      exact z_vret hx hb hr hlocks hI ((by unfold zbeg; rw [if_neg (fun h => h.2 c_16)])) dX9_begin_39
    · skip
      have hin : ¬ x.1 17 1 < 0 ∧ ¬ nI 20 ≤ x.1 17 1 := ⟨c_4, c_16⟩
      refine lv_aload_n hx hb dX9_begin_19 rfl (lv_at hl 0 rfl) ?_
      refine z_get (C := RX9) (T := TX9) (N := 2) (ci := 9) (v := .ref (za G 18)) hx hb hts hin9 hown hK hI (zo17 hG) rfl 0 (by decide) wF9 (fun _ h9 => h9) rfl dX9_begin_20 ?_
      refine lv_aload_n hx hb dX9_begin_23 rfl (lv_at hl 0 rfl) ?_
      refine z_get (C := RX9) (T := TX9) (N := 2) (ci := 9) (v := .int (x.1 17 1)) hx hb hts hin9 hown hK hI (zo17 hG) rfl 1 (by decide) wF15 (fun _ h9 => h9) rfl dX9_begin_24 ?_
      refine lv_iload_n hx hb dX9_begin_27 rfl (lv_at hl 1 rfl) ?_
      refine z_iast (y := k) hx hb hK hI (zo18 hG) ((x.1 17 1).toNatClampNeg) (z_clamp hin.1).symm (by obtain ⟨q, hq, e2⟩ := z_ix hin.1 hin.2 (by decide); rw [e2, nI_clamp (by omega)]; exact hq) (by decide) dX9_begin_28 (fun H locs hI => ?_)
      refine lv_aload_n hx hb dX9_begin_29 rfl (lv_at hl 0 rfl) ?_
      refine lv_dup hx hb dX9_begin_30 rfl ?_
      refine z_get (C := RX9) (T := TX9) (N := 2) (ci := 9) (v := .int (x.1 17 1)) hx hb hts hin9 hown hK hI (zo17 hG) rfl 1 (by decide) wF15 (fun _ h9 => h9) rfl dX9_begin_31 ?_
      refine lv_iconst (v := (nI 1)) hx hb dX9_begin_34 rfl ?_
      refine lv_iadd hx hb dX9_begin_35 ?_
      refine z_putI (C := RX9) (T := TX9) (N := 2) (ci := 9) (ty := .int) hx hb hts hin9 tyX9 tyX9_ok nmX9 hown hK hI (zo17 hG) rfl 1 (by decide) wF15 (fun _ h9 => h9) rfl (fun _ _ => rfl) (by decide +kernel) rfl rfl (fun _ _ => Nat.le_of_ble_eq_true rfl) dX9_begin_36 (fun H locs hI => ?_)
      exact z_vret hx hb hr hlocks hI ((by unfold zbeg; rw [if_pos hin])) dX9_begin_39
set_option maxHeartbeats 4000000 in
set_option maxRecDepth 100000 in
theorem c_X7_copyI (l : Launch) {G : zG} (hG : zOK G) (x : zX)  (hpk : zPok G (x.2.2 3)) : zMv l yX7_copy wsX7_copy { frames := 0, cells := 0, slots := 0, locals := 0 } G [.ref (za G 2), .ref (za G 1)] x (fun (u : zX) => zcpy x 1 2 = u) := by
  intro A
  refine zBody (cc := cX7_copy) (maxL := 3) (ret := none) (by decide) rfl (Nat.le_of_ble_eq_true rfl) ?_
  intro p e s m below meth c hx hb hml hown hts hr hlocks hK hN hI ls hl
  have hown : s.vm.findClass RX7 = some m.cls := hown
  have hl : lv_has ls 3 [(0, .ref (za G 2)), (1, .ref (za G 1))] := hl
  have hin7 : ∀ w ∈ wsX70, w ∈ wsX7_copy := (fun _ h => List.mem_cons_of_mem _ (List.mem_append_right _ (h)))
  have wF28 := hts (.fieldLink RX7 28 "WhoSitsBy$Standing" "size" "I") (z_mem 4 rfl)
  have wF31 := hts (.fieldLink RX7 31 "WhoSitsBy$Standing" "fronts" "I") (z_mem 5 rfl)
  have wF34 := hts (.fieldLink RX7 34 "WhoSitsBy$Standing" "pairs" "J") (z_mem 6 rfl)
  have wF24 := hts (.fieldLink RX7 24 "WhoSitsBy$Standing" "held" "I") (z_mem 7 rfl)
  have wF11 := hts (.fieldLink RX7 11 "WhoSitsBy$Standing" "pupils" "[LWhoSitsBy$Pupil;") (z_mem 1 rfl)
  have wF17 := hts (.fieldLink RX7 17 "WhoSitsBy$Standing" "sitters" "[I") (z_mem 2 rfl)
  have wF21 := hts (.fieldLink RX7 21 "WhoSitsBy$Standing" "slipOf" "[I") (z_mem 3 rfl)
  refine lv_iconst (v := (nI 0)) hx hb dX7_copy_0 rfl ?_
  refine lv_istore_n (lv' := [(2, .int (nI 0)), (0, .ref (za G 2)), (1, .ref (za G 1))]) hx hb dX7_copy_1 rfl hl (by decide) rfl (fun ls hl => ?_)
  have L2 : ∀ (f : Nat) (j : Nat) (u : zX), (j ≤ 8) → (zcpR x 6 7 8 (zputq (x.2.2 3) (x.2.2 6) j) (zputn (x.1 4) (x.1 7) j) (zputn (x.1 5) (x.1 8) j) = u) → 9 ≤ j + f → ∀ (H : Heap) (locs : List Loc), zI G u A s.heap H locs → ∀ ls : Array Slot, lv_has ls 3 [(0, .ref (za G 2)), (1, .ref (za G 1)), (2, .int (nI j))] → W p l e { frames := 0, cells := 0, slots := 0, locals := 0 } s m ([.ref (za G 2), .ref (za G 1)] : List Value).toArray below meth c H locs 0 0 (MQ below (va_Qv (fun (u : zX) => zcpy x 1 2 = u) (fun u t => zJ G u A t.heap) A) ([.ref (za G 2), .ref (za G 1)] : List Value).toArray s 0 0 A) (F0 m 2 ls []) := by
    intro f
    induction f with
    | zero =>
      intro j u h1 hst hf
      exact absurd hf (by omega)
    | succ f ih =>
      intro j u h1 hst hf H locs hI ls hl
      have ih2 := ih
      refine lv_iload_n hx hb dX7_copy_2 rfl (lv_at hl 2 rfl) ?_
      refine lv_bipush (v := (nI 8)) hx hb dX7_copy_3 rfl ?_
      refine lv_icmp_ge (tgt := 50) hx hb dX7_copy_5 (by decide) (fun c_5 => ?_) (fun c_5 => ?_)
      · skip
        rw [zqG (by omega) (by omega)] at c_5
        refine lv_aload_n hx hb dX7_copy_50 rfl (lv_at hl 0 rfl) ?_
        refine lv_aload_n hx hb dX7_copy_51 rfl (lv_at hl 1 rfl) ?_
        refine z_get (C := RX7) (T := TX7) (N := 7) (ci := 7) (v := .int (u.1 1 3)) hx hb hts hin7 hown hK hI (zo1 hG) rfl 3 (by decide) wF28 (fun _ h9 => h9) rfl dX7_copy_52 ?_
        refine z_putI (C := RX7) (T := TX7) (N := 7) (ci := 7) (ty := .int) hx hb hts hin7 tyX7 tyX7_ok nmX7 hown hK hI (zo2 hG) rfl 3 (by decide) wF28 (fun _ h9 => h9) rfl (fun _ _ => rfl) (by decide +kernel) rfl rfl (fun _ _ => Nat.le_of_ble_eq_true rfl) dX7_copy_55 (fun H locs hI => ?_)
        refine lv_aload_n hx hb dX7_copy_58 rfl (lv_at hl 0 rfl) ?_
        refine lv_aload_n hx hb dX7_copy_59 rfl (lv_at hl 1 rfl) ?_
        refine z_get (C := RX7) (T := TX7) (N := 7) (ci := 7) (v := .int (u.1 1 4)) hx hb hts hin7 hown hK hI (zo1 hG) rfl 4 (by decide) wF31 (fun _ h9 => h9) rfl dX7_copy_60 ?_
        refine z_putI (C := RX7) (T := TX7) (N := 7) (ci := 7) (ty := .int) hx hb hts hin7 tyX7 tyX7_ok nmX7 hown hK hI (zo2 hG) rfl 4 (by decide) wF31 (fun _ h9 => h9) rfl (fun _ _ => rfl) (by decide +kernel) rfl rfl (fun _ _ => Nat.le_of_ble_eq_true rfl) dX7_copy_63 (fun H locs hI => ?_)
        refine lv_aload_n hx hb dX7_copy_66 rfl (lv_at hl 0 rfl) ?_
        refine lv_aload_n hx hb dX7_copy_67 rfl (lv_at hl 1 rfl) ?_
        refine z_get (C := RX7) (T := TX7) (N := 7) (ci := 7) (v := .long (u.2.1 1 5)) hx hb hts hin7 hown hK hI (zo1 hG) rfl 5 (by decide) wF34 (fun _ h9 => h9) rfl dX7_copy_68 ?_
        refine z_putL (C := RX7) (T := TX7) (N := 7) (ci := 7) (ty := .long) hx hb hts hin7 tyX7 tyX7_ok nmX7 hown hK hI (zo2 hG) rfl 5 (by decide) wF34 (fun _ h9 => h9) rfl (fun _ _ => rfl) (by decide +kernel) rfl rfl (fun _ _ => Nat.le_of_ble_eq_true rfl) dX7_copy_71 (fun H locs hI => ?_)
        refine lv_aload_n hx hb dX7_copy_74 rfl (lv_at hl 0 rfl) ?_
        refine lv_aload_n hx hb dX7_copy_75 rfl (lv_at hl 1 rfl) ?_
        refine z_get (C := RX7) (T := TX7) (N := 7) (ci := 7) (v := .int (u.1 1 6)) hx hb hts hin7 hown hK hI (zo1 hG) rfl 6 (by decide) wF24 (fun _ h9 => h9) rfl dX7_copy_76 ?_
        refine z_putI (C := RX7) (T := TX7) (N := 7) (ci := 7) (ty := .int) hx hb hts hin7 tyX7 tyX7_ok nmX7 hown hK hI (zo2 hG) rfl 6 (by decide) wF24 (fun _ h9 => h9) rfl (fun _ _ => rfl) (by decide +kernel) rfl rfl (fun _ _ => Nat.le_of_ble_eq_true rfl) dX7_copy_79 (fun H locs hI => ?_)
        exact z_vret hx hb hr hlocks hI ((by have e := hst; rw [show j = 8 by omega] at e; subst e; rfl)) dX7_copy_82
      · skip
        rw [zqG (by omega) (by omega)] at c_5
        refine lv_aload_n hx hb dX7_copy_8 rfl (lv_at hl 0 rfl) ?_
        refine z_get (C := RX7) (T := TX7) (N := 7) (ci := 7) (v := .ref (za G 6)) hx hb hts hin7 hown hK hI (zo2 hG) rfl 0 (by decide) wF11 (fun _ h9 => h9) rfl dX7_copy_9 ?_
        refine lv_iload_n hx hb dX7_copy_12 rfl (lv_at hl 2 rfl) ?_
        refine lv_aload_n hx hb dX7_copy_13 rfl (lv_at hl 1 rfl) ?_
        refine z_get (C := RX7) (T := TX7) (N := 7) (ci := 7) (v := .ref (za G 3)) hx hb hts hin7 hown hK hI (zo1 hG) rfl 0 (by decide) wF11 (fun _ h9 => h9) rfl dX7_copy_14 ?_
        refine lv_iload_n hx hb dX7_copy_17 rfl (lv_at hl 2 rfl) ?_
        refine z_pald (o := (x.2.2 3 j)) hx hb hK hI (zo3 hG) j rfl (by omega) (by decide) (by rw [← hst]; rfl) dX7_copy_18 ?_
        refine z_pastQ hx hb hN hK hG hI (zo6 hG) (hpk j (by omega)) j rfl (by omega) (by decide) dX7_copy_19 (fun H locs hI => ?_)
        refine lv_aload_n hx hb dX7_copy_20 rfl (lv_at hl 0 rfl) ?_
        refine z_get (C := RX7) (T := TX7) (N := 7) (ci := 7) (v := .ref (za G 7)) hx hb hts hin7 hown hK hI (zo2 hG) rfl 1 (by decide) wF17 (fun _ h9 => h9) rfl dX7_copy_21 ?_
        refine lv_iload_n hx hb dX7_copy_24 rfl (lv_at hl 2 rfl) ?_
        refine lv_aload_n hx hb dX7_copy_25 rfl (lv_at hl 1 rfl) ?_
        refine z_get (C := RX7) (T := TX7) (N := 7) (ci := 7) (v := .ref (za G 4)) hx hb hts hin7 hown hK hI (zo1 hG) rfl 1 (by decide) wF17 (fun _ h9 => h9) rfl dX7_copy_26 ?_
        refine lv_iload_n hx hb dX7_copy_29 rfl (lv_at hl 2 rfl) ?_
        refine z_iald (v := (u.1 4 j)) hx hb hK hI (zo4 hG) j rfl (by omega) (by decide) rfl dX7_copy_30 ?_
        refine z_iast (y := (u.1 4 j)) hx hb hK hI (zo7 hG) j rfl (by omega) (by decide) dX7_copy_31 (fun H locs hI => ?_)
        refine lv_aload_n hx hb dX7_copy_32 rfl (lv_at hl 0 rfl) ?_
        refine z_get (C := RX7) (T := TX7) (N := 7) (ci := 7) (v := .ref (za G 8)) hx hb hts hin7 hown hK hI (zo2 hG) rfl 2 (by decide) wF21 (fun _ h9 => h9) rfl dX7_copy_33 ?_
        refine lv_iload_n hx hb dX7_copy_36 rfl (lv_at hl 2 rfl) ?_
        refine lv_aload_n hx hb dX7_copy_37 rfl (lv_at hl 1 rfl) ?_
        refine z_get (C := RX7) (T := TX7) (N := 7) (ci := 7) (v := .ref (za G 5)) hx hb hts hin7 hown hK hI (zo1 hG) rfl 2 (by decide) wF21 (fun _ h9 => h9) rfl dX7_copy_38 ?_
        refine lv_iload_n hx hb dX7_copy_41 rfl (lv_at hl 2 rfl) ?_
        refine z_iald (v := (u.1 5 j)) hx hb hK hI (zo5 hG) j rfl (by omega) (by decide) rfl dX7_copy_42 ?_
        refine z_iast (y := (u.1 5 j)) hx hb hK hI (zo8 hG) j rfl (by omega) (by decide) dX7_copy_43 (fun H locs hI => ?_)
        refine lv_iinc (v := (nI (j + 1))) (lv' := [(2, .int (nI (j + 1))), (0, .ref (za G 2)), (1, .ref (za G 1))]) hx hb dX7_copy_44 hl (k := 2) rfl (zinc j) (by decide) rfl (fun ls hl => ?_)
        refine lv_goto (tgt := 2) hx hb dX7_copy_47 (by decide) ?_
        exact ih2 (j + 1) (zsI (zsI (zsP u 6 j (x.2.2 3 j)) 7 j (u.1 4 j)) 8 j (u.1 5 j)) (by omega) (by subst hst; rw [← zputq_s, ← zput_s, ← zput_s, ← zcpR_s (by decide)]; rfl) (by omega) _ _ hI ls (lv_sub hl [1, 2, 0] rfl)
  exact L2 (9) 0 x (by omega) (by rw [zputq_0, zput_0, zput_0]; exact zcpR_0 (by decide)) (by omega) _ _ hI ls (lv_sub hl [1, 2, 0] rfl)
set_option maxHeartbeats 4000000 in
set_option maxRecDepth 100000 in
theorem c_X11_image (l : Launch) {G : zG} (hG : zOK G) (x : zX) (N : Nat) (hn : zNow G x N) (hpk : zPok G (x.2.2 3)) : zMi l yX11_image wsX11_image { frames := 1, cells := 0, slots := 0, locals := 22 } G [.ref (za G 0)] x (fun (r : Int32) (u : zX) => zsI (zcpy x 1 2) 0 2 (nI 1) = u ∧ nI N = r) := by
  intro A
  refine zBody (cc := cX11_image) (maxL := 1) (ret := (some .int)) (by decide) rfl (Nat.le_of_ble_eq_true rfl) ?_
  intro p e s m below meth c hx hb hml hown hts hr hlocks hK hN hI ls hl
  have hown : s.vm.findClass RX11 = some m.cls := hown
  have hl : lv_has ls 1 [(0, .ref (za G 0))] := hl
  have hin7 : ∀ w ∈ wsX70, w ∈ wsX11_image := (fun _ h => List.mem_cons_of_mem _ (List.mem_append_right _ (h)))
  have hin11 : ∀ w ∈ wsX110, w ∈ wsX11_image := (fun _ h => List.mem_cons_of_mem _ (List.mem_append_left _ (List.mem_append_right _ (h))))
  have wF18 := hts (.fieldLink RX11 18 "WhoSitsBy" "kept" "LWhoSitsBy$Standing;") (z_mem 1 rfl)
  have wF12 := hts (.fieldLink RX11 12 "WhoSitsBy" "now" "LWhoSitsBy$Standing;") (z_mem 2 rfl)
  have wF277 := hts (.fieldLink RX11 277 "WhoSitsBy" "imaged" "Z") (z_mem 3 rfl)
  have wF66 := hts (.fieldLink RX11 66 "WhoSitsBy$Standing" "size" "I") (z_mem 4 rfl)
  refine lv_aload_n hx hb dX11_image_0 rfl (lv_at hl 0 rfl) ?_
  refine z_get (C := RX11) (T := TX11) (N := 14) (ci := 11) (v := .ref (za G 2)) hx hb hts hin11 hown hK hI (zo0 hG) rfl 1 (by decide) wF18 (fun _ h9 => h9) rfl dX11_image_1 ?_
  refine lv_aload_n hx hb dX11_image_4 rfl (lv_at hl 0 rfl) ?_
  refine z_get (C := RX11) (T := TX11) (N := 14) (ci := 11) (v := .ref (za G 1)) hx hb hts hin11 hown hK hI (zo0 hG) rfl 0 (by decide) wF12 (fun _ h9 => h9) rfl dX11_image_5 ?_
  refine z_callv (va_runV (As := [.ref (za G 1)]) (rest := []) ⟨hx, hb, hml, hown, hts⟩ ((c_X7_copyI l hG x hpk) A) (cwV 1 hts gX11_image_X7_copy rfl rfl rfl (by decide +kernel) ⟨Nat.le_of_ble_eq_true rfl, Nat.le_of_ble_eq_true rfl⟩) (z_pV hI hK hN (z_recv hK hI (zo2 hG) rfl)) rfl rfl hl.1 rfl (lv_room (Nat.le_of_ble_eq_true rfl)) dX11_image_8 ⟨Nat.zero_le _, Nat.zero_le _⟩) hI (fun u H locs hw hI => ?_)
  obtain rfl := hw
  refine lv_aload_n hx hb dX11_image_11 rfl (lv_at hl 0 rfl) ?_
  refine lv_iconst (v := (nI 1)) hx hb dX11_image_12 rfl ?_
  refine z_putI (C := RX11) (T := TX11) (N := 14) (ci := 11) (ty := .boolean) hx hb hts hin11 tyX11 tyX11_ok nmX11 hown hK hI (zo0 hG) rfl 2 (by decide) wF277 (fun _ h9 => h9) rfl (fun _ _ => rfl) (by decide +kernel) rfl rfl (fun _ _ => Nat.le_of_ble_eq_true rfl) dX11_image_13 (fun H locs hI => ?_)
  refine lv_aload_n hx hb dX11_image_16 rfl (lv_at hl 0 rfl) ?_
  refine z_get (C := RX11) (T := TX11) (N := 14) (ci := 11) (v := .ref (za G 1)) hx hb hts hin11 hown hK hI (zo0 hG) rfl 0 (by decide) wF12 (fun _ h9 => h9) rfl dX11_image_17 ?_
  refine z_get (C := RX7) (T := TX7) (N := 7) (ci := 7) (v := .int (nI N)) hx hb hts hin7 hown hK hI (zo1 hG) rfl 3 (by decide) wF66 (fun _ h9 => h9) (congrArg (fun q => some (Value.int q)) hn.2.1) dX11_image_20 ?_
  exact z_iret hx hb hr hlocks hI (⟨rfl, rfl⟩) dX11_image_23
set_option maxHeartbeats 4000000 in
set_option maxRecDepth 100000 in
theorem c_X7_copyU (l : Launch) {G : zG} (hG : zOK G) (x : zX)  (hpk : zPok G (x.2.2 6)) : zMv l yX7_copy wsX7_copy { frames := 0, cells := 0, slots := 0, locals := 0 } G [.ref (za G 1), .ref (za G 2)] x (fun (u : zX) => zcpy x 2 1 = u) := by
  intro A
  refine zBody (cc := cX7_copy) (maxL := 3) (ret := none) (by decide) rfl (Nat.le_of_ble_eq_true rfl) ?_
  intro p e s m below meth c hx hb hml hown hts hr hlocks hK hN hI ls hl
  have hown : s.vm.findClass RX7 = some m.cls := hown
  have hl : lv_has ls 3 [(0, .ref (za G 1)), (1, .ref (za G 2))] := hl
  have hin7 : ∀ w ∈ wsX70, w ∈ wsX7_copy := (fun _ h => List.mem_cons_of_mem _ (List.mem_append_right _ (h)))
  have wF28 := hts (.fieldLink RX7 28 "WhoSitsBy$Standing" "size" "I") (z_mem 4 rfl)
  have wF31 := hts (.fieldLink RX7 31 "WhoSitsBy$Standing" "fronts" "I") (z_mem 5 rfl)
  have wF34 := hts (.fieldLink RX7 34 "WhoSitsBy$Standing" "pairs" "J") (z_mem 6 rfl)
  have wF24 := hts (.fieldLink RX7 24 "WhoSitsBy$Standing" "held" "I") (z_mem 7 rfl)
  have wF11 := hts (.fieldLink RX7 11 "WhoSitsBy$Standing" "pupils" "[LWhoSitsBy$Pupil;") (z_mem 1 rfl)
  have wF17 := hts (.fieldLink RX7 17 "WhoSitsBy$Standing" "sitters" "[I") (z_mem 2 rfl)
  have wF21 := hts (.fieldLink RX7 21 "WhoSitsBy$Standing" "slipOf" "[I") (z_mem 3 rfl)
  refine lv_iconst (v := (nI 0)) hx hb dX7_copy_0 rfl ?_
  refine lv_istore_n (lv' := [(2, .int (nI 0)), (0, .ref (za G 1)), (1, .ref (za G 2))]) hx hb dX7_copy_1 rfl hl (by decide) rfl (fun ls hl => ?_)
  have L2 : ∀ (f : Nat) (j : Nat) (u : zX), (j ≤ 8) → (zcpR x 3 4 5 (zputq (x.2.2 6) (x.2.2 3) j) (zputn (x.1 7) (x.1 4) j) (zputn (x.1 8) (x.1 5) j) = u) → 9 ≤ j + f → ∀ (H : Heap) (locs : List Loc), zI G u A s.heap H locs → ∀ ls : Array Slot, lv_has ls 3 [(0, .ref (za G 1)), (1, .ref (za G 2)), (2, .int (nI j))] → W p l e { frames := 0, cells := 0, slots := 0, locals := 0 } s m ([.ref (za G 1), .ref (za G 2)] : List Value).toArray below meth c H locs 0 0 (MQ below (va_Qv (fun (u : zX) => zcpy x 2 1 = u) (fun u t => zJ G u A t.heap) A) ([.ref (za G 1), .ref (za G 2)] : List Value).toArray s 0 0 A) (F0 m 2 ls []) := by
    intro f
    induction f with
    | zero =>
      intro j u h1 hst hf
      exact absurd hf (by omega)
    | succ f ih =>
      intro j u h1 hst hf H locs hI ls hl
      have ih2 := ih
      refine lv_iload_n hx hb dX7_copy_2 rfl (lv_at hl 2 rfl) ?_
      refine lv_bipush (v := (nI 8)) hx hb dX7_copy_3 rfl ?_
      refine lv_icmp_ge (tgt := 50) hx hb dX7_copy_5 (by decide) (fun c_5 => ?_) (fun c_5 => ?_)
      · skip
        rw [zqG (by omega) (by omega)] at c_5
        refine lv_aload_n hx hb dX7_copy_50 rfl (lv_at hl 0 rfl) ?_
        refine lv_aload_n hx hb dX7_copy_51 rfl (lv_at hl 1 rfl) ?_
        refine z_get (C := RX7) (T := TX7) (N := 7) (ci := 7) (v := .int (u.1 2 3)) hx hb hts hin7 hown hK hI (zo2 hG) rfl 3 (by decide) wF28 (fun _ h9 => h9) rfl dX7_copy_52 ?_
        refine z_putI (C := RX7) (T := TX7) (N := 7) (ci := 7) (ty := .int) hx hb hts hin7 tyX7 tyX7_ok nmX7 hown hK hI (zo1 hG) rfl 3 (by decide) wF28 (fun _ h9 => h9) rfl (fun _ _ => rfl) (by decide +kernel) rfl rfl (fun _ _ => Nat.le_of_ble_eq_true rfl) dX7_copy_55 (fun H locs hI => ?_)
        refine lv_aload_n hx hb dX7_copy_58 rfl (lv_at hl 0 rfl) ?_
        refine lv_aload_n hx hb dX7_copy_59 rfl (lv_at hl 1 rfl) ?_
        refine z_get (C := RX7) (T := TX7) (N := 7) (ci := 7) (v := .int (u.1 2 4)) hx hb hts hin7 hown hK hI (zo2 hG) rfl 4 (by decide) wF31 (fun _ h9 => h9) rfl dX7_copy_60 ?_
        refine z_putI (C := RX7) (T := TX7) (N := 7) (ci := 7) (ty := .int) hx hb hts hin7 tyX7 tyX7_ok nmX7 hown hK hI (zo1 hG) rfl 4 (by decide) wF31 (fun _ h9 => h9) rfl (fun _ _ => rfl) (by decide +kernel) rfl rfl (fun _ _ => Nat.le_of_ble_eq_true rfl) dX7_copy_63 (fun H locs hI => ?_)
        refine lv_aload_n hx hb dX7_copy_66 rfl (lv_at hl 0 rfl) ?_
        refine lv_aload_n hx hb dX7_copy_67 rfl (lv_at hl 1 rfl) ?_
        refine z_get (C := RX7) (T := TX7) (N := 7) (ci := 7) (v := .long (u.2.1 2 5)) hx hb hts hin7 hown hK hI (zo2 hG) rfl 5 (by decide) wF34 (fun _ h9 => h9) rfl dX7_copy_68 ?_
        refine z_putL (C := RX7) (T := TX7) (N := 7) (ci := 7) (ty := .long) hx hb hts hin7 tyX7 tyX7_ok nmX7 hown hK hI (zo1 hG) rfl 5 (by decide) wF34 (fun _ h9 => h9) rfl (fun _ _ => rfl) (by decide +kernel) rfl rfl (fun _ _ => Nat.le_of_ble_eq_true rfl) dX7_copy_71 (fun H locs hI => ?_)
        refine lv_aload_n hx hb dX7_copy_74 rfl (lv_at hl 0 rfl) ?_
        refine lv_aload_n hx hb dX7_copy_75 rfl (lv_at hl 1 rfl) ?_
        refine z_get (C := RX7) (T := TX7) (N := 7) (ci := 7) (v := .int (u.1 2 6)) hx hb hts hin7 hown hK hI (zo2 hG) rfl 6 (by decide) wF24 (fun _ h9 => h9) rfl dX7_copy_76 ?_
        refine z_putI (C := RX7) (T := TX7) (N := 7) (ci := 7) (ty := .int) hx hb hts hin7 tyX7 tyX7_ok nmX7 hown hK hI (zo1 hG) rfl 6 (by decide) wF24 (fun _ h9 => h9) rfl (fun _ _ => rfl) (by decide +kernel) rfl rfl (fun _ _ => Nat.le_of_ble_eq_true rfl) dX7_copy_79 (fun H locs hI => ?_)
        exact z_vret hx hb hr hlocks hI ((by have e := hst; rw [show j = 8 by omega] at e; subst e; rfl)) dX7_copy_82
      · skip
        rw [zqG (by omega) (by omega)] at c_5
        refine lv_aload_n hx hb dX7_copy_8 rfl (lv_at hl 0 rfl) ?_
        refine z_get (C := RX7) (T := TX7) (N := 7) (ci := 7) (v := .ref (za G 3)) hx hb hts hin7 hown hK hI (zo1 hG) rfl 0 (by decide) wF11 (fun _ h9 => h9) rfl dX7_copy_9 ?_
        refine lv_iload_n hx hb dX7_copy_12 rfl (lv_at hl 2 rfl) ?_
        refine lv_aload_n hx hb dX7_copy_13 rfl (lv_at hl 1 rfl) ?_
        refine z_get (C := RX7) (T := TX7) (N := 7) (ci := 7) (v := .ref (za G 6)) hx hb hts hin7 hown hK hI (zo2 hG) rfl 0 (by decide) wF11 (fun _ h9 => h9) rfl dX7_copy_14 ?_
        refine lv_iload_n hx hb dX7_copy_17 rfl (lv_at hl 2 rfl) ?_
        refine z_pald (o := (x.2.2 6 j)) hx hb hK hI (zo6 hG) j rfl (by omega) (by decide) (by rw [← hst]; rfl) dX7_copy_18 ?_
        refine z_pastQ hx hb hN hK hG hI (zo3 hG) (hpk j (by omega)) j rfl (by omega) (by decide) dX7_copy_19 (fun H locs hI => ?_)
        refine lv_aload_n hx hb dX7_copy_20 rfl (lv_at hl 0 rfl) ?_
        refine z_get (C := RX7) (T := TX7) (N := 7) (ci := 7) (v := .ref (za G 4)) hx hb hts hin7 hown hK hI (zo1 hG) rfl 1 (by decide) wF17 (fun _ h9 => h9) rfl dX7_copy_21 ?_
        refine lv_iload_n hx hb dX7_copy_24 rfl (lv_at hl 2 rfl) ?_
        refine lv_aload_n hx hb dX7_copy_25 rfl (lv_at hl 1 rfl) ?_
        refine z_get (C := RX7) (T := TX7) (N := 7) (ci := 7) (v := .ref (za G 7)) hx hb hts hin7 hown hK hI (zo2 hG) rfl 1 (by decide) wF17 (fun _ h9 => h9) rfl dX7_copy_26 ?_
        refine lv_iload_n hx hb dX7_copy_29 rfl (lv_at hl 2 rfl) ?_
        refine z_iald (v := (u.1 7 j)) hx hb hK hI (zo7 hG) j rfl (by omega) (by decide) rfl dX7_copy_30 ?_
        refine z_iast (y := (u.1 7 j)) hx hb hK hI (zo4 hG) j rfl (by omega) (by decide) dX7_copy_31 (fun H locs hI => ?_)
        refine lv_aload_n hx hb dX7_copy_32 rfl (lv_at hl 0 rfl) ?_
        refine z_get (C := RX7) (T := TX7) (N := 7) (ci := 7) (v := .ref (za G 5)) hx hb hts hin7 hown hK hI (zo1 hG) rfl 2 (by decide) wF21 (fun _ h9 => h9) rfl dX7_copy_33 ?_
        refine lv_iload_n hx hb dX7_copy_36 rfl (lv_at hl 2 rfl) ?_
        refine lv_aload_n hx hb dX7_copy_37 rfl (lv_at hl 1 rfl) ?_
        refine z_get (C := RX7) (T := TX7) (N := 7) (ci := 7) (v := .ref (za G 8)) hx hb hts hin7 hown hK hI (zo2 hG) rfl 2 (by decide) wF21 (fun _ h9 => h9) rfl dX7_copy_38 ?_
        refine lv_iload_n hx hb dX7_copy_41 rfl (lv_at hl 2 rfl) ?_
        refine z_iald (v := (u.1 8 j)) hx hb hK hI (zo8 hG) j rfl (by omega) (by decide) rfl dX7_copy_42 ?_
        refine z_iast (y := (u.1 8 j)) hx hb hK hI (zo5 hG) j rfl (by omega) (by decide) dX7_copy_43 (fun H locs hI => ?_)
        refine lv_iinc (v := (nI (j + 1))) (lv' := [(2, .int (nI (j + 1))), (0, .ref (za G 1)), (1, .ref (za G 2))]) hx hb dX7_copy_44 hl (k := 2) rfl (zinc j) (by decide) rfl (fun ls hl => ?_)
        refine lv_goto (tgt := 2) hx hb dX7_copy_47 (by decide) ?_
        exact ih2 (j + 1) (zsI (zsI (zsP u 3 j (x.2.2 6 j)) 4 j (u.1 7 j)) 5 j (u.1 8 j)) (by omega) (by subst hst; rw [← zputq_s, ← zput_s, ← zput_s, ← zcpR_s (by decide)]; rfl) (by omega) _ _ hI ls (lv_sub hl [1, 2, 0] rfl)
  exact L2 (9) 0 x (by omega) (by rw [zputq_0, zput_0, zput_0]; exact zcpR_0 (by decide)) (by omega) _ _ hI ls (lv_sub hl [1, 2, 0] rfl)
set_option maxHeartbeats 4000000 in
set_option maxRecDepth 100000 in
theorem c_X11_undo (l : Launch) {G : zG} (hG : zOK G) (x : zX)  (hpk : zPok G (x.2.2 6)) : zMi l yX11_undo wsX11_undo { frames := 1, cells := 0, slots := 0, locals := 22 } G [.ref (za G 0)] x (fun (r : Int32) (u : zX) => (x.1 0 2 = 0 ∧ x = u ∧ -3 = r) ∨ (¬ x.1 0 2 = 0 ∧ zsI (zcpy x 2 1) 0 9 (nI 0) = u ∧ x.1 2 3 = r)) := by
  intro A
  refine zBody (cc := cX11_undo) (maxL := 1) (ret := (some .int)) (by decide) rfl (Nat.le_of_ble_eq_true rfl) ?_
  intro p e s m below meth c hx hb hml hown hts hr hlocks hK hN hI ls hl
  have hown : s.vm.findClass RX11 = some m.cls := hown
  have hl : lv_has ls 1 [(0, .ref (za G 0))] := hl
  have hin7 : ∀ w ∈ wsX70, w ∈ wsX11_undo := (fun _ h => List.mem_cons_of_mem _ (List.mem_append_right _ (h)))
  have hin11 : ∀ w ∈ wsX110, w ∈ wsX11_undo := (fun _ h => List.mem_cons_of_mem _ (List.mem_append_left _ (List.mem_append_right _ (h))))
  have wF277 := hts (.fieldLink RX11 277 "WhoSitsBy" "imaged" "Z") (z_mem 1 rfl)
  have wF12 := hts (.fieldLink RX11 12 "WhoSitsBy" "now" "LWhoSitsBy$Standing;") (z_mem 2 rfl)
  have wF18 := hts (.fieldLink RX11 18 "WhoSitsBy" "kept" "LWhoSitsBy$Standing;") (z_mem 3 rfl)
  have wF78 := hts (.fieldLink RX11 78 "WhoSitsBy" "counted" "Z") (z_mem 4 rfl)
  have wF66 := hts (.fieldLink RX11 66 "WhoSitsBy$Standing" "size" "I") (z_mem 5 rfl)
  refine lv_aload_n hx hb dX11_undo_0 rfl (lv_at hl 0 rfl) ?_
  refine z_get (C := RX11) (T := TX11) (N := 14) (ci := 11) (v := .int (x.1 0 2)) hx hb hts hin11 hown hK hI (zo0 hG) rfl 2 (by decide) wF277 (fun _ h9 => h9) rfl dX11_undo_1 ?_
  refine lv_if_ne (tgt := 10) hx hb dX11_undo_4 (by decide) (fun c_4 => ?_) (fun c_4 => ?_)
  · skip
    refine lv_aload_n hx hb dX11_undo_10 rfl (lv_at hl 0 rfl) ?_
    refine z_get (C := RX11) (T := TX11) (N := 14) (ci := 11) (v := .ref (za G 1)) hx hb hts hin11 hown hK hI (zo0 hG) rfl 0 (by decide) wF12 (fun _ h9 => h9) rfl dX11_undo_11 ?_
    refine lv_aload_n hx hb dX11_undo_14 rfl (lv_at hl 0 rfl) ?_
    refine z_get (C := RX11) (T := TX11) (N := 14) (ci := 11) (v := .ref (za G 2)) hx hb hts hin11 hown hK hI (zo0 hG) rfl 1 (by decide) wF18 (fun _ h9 => h9) rfl dX11_undo_15 ?_
    refine z_callv (va_runV (As := [.ref (za G 2)]) (rest := []) ⟨hx, hb, hml, hown, hts⟩ ((c_X7_copyU l hG x hpk) A) (cwV 1 hts gX11_undo_X7_copy rfl rfl rfl (by decide +kernel) ⟨Nat.le_of_ble_eq_true rfl, Nat.le_of_ble_eq_true rfl⟩) (z_pV hI hK hN (z_recv hK hI (zo1 hG) rfl)) rfl rfl hl.1 rfl (lv_room (Nat.le_of_ble_eq_true rfl)) dX11_undo_18 ⟨Nat.zero_le _, Nat.zero_le _⟩) hI (fun u H locs hw hI => ?_)
    obtain rfl := hw
    refine lv_aload_n hx hb dX11_undo_21 rfl (lv_at hl 0 rfl) ?_
    refine lv_iconst (v := (nI 0)) hx hb dX11_undo_22 rfl ?_
    refine z_putI (C := RX11) (T := TX11) (N := 14) (ci := 11) (ty := .boolean) hx hb hts hin11 tyX11 tyX11_ok nmX11 hown hK hI (zo0 hG) rfl 9 (by decide) wF78 (fun _ h9 => h9) rfl (fun _ _ => rfl) (by decide +kernel) rfl rfl (fun _ _ => Nat.le_of_ble_eq_true rfl) dX11_undo_23 (fun H locs hI => ?_)
    refine lv_aload_n hx hb dX11_undo_26 rfl (lv_at hl 0 rfl) ?_
    refine z_get (C := RX11) (T := TX11) (N := 14) (ci := 11) (v := .ref (za G 1)) hx hb hts hin11 hown hK hI (zo0 hG) rfl 0 (by decide) wF12 (fun _ h9 => h9) rfl dX11_undo_27 ?_
    refine z_get (C := RX7) (T := TX7) (N := 7) (ci := 7) (v := .int (x.1 2 3)) hx hb hts hin7 hown hK hI (zo1 hG) rfl 3 (by decide) wF66 (fun _ h9 => h9) (congrArg (fun q => some (Value.int q)) rfl) dX11_undo_30 ?_
    exact z_iret hx hb hr hlocks hI (Or.inr ⟨c_4, rfl, rfl⟩) dX11_undo_33
  · skip
    refine lv_bipush (v := (-3)) hx hb dX11_undo_7 rfl ?_
    exact z_iret hx hb hr hlocks hI (Or.inl ⟨c_4, rfl, rfl⟩) dX11_undo_9
set_option maxHeartbeats 4000000 in
set_option maxRecDepth 100000 in
theorem c_X11_isStretch (l : Launch) {G : zG} (hG : zOK G) (x : zX) (t0 i n : Int32) (htp : zTp x) : zMi l yX11_isStretch wsX11_isStretch { frames := 1, cells := 0, slots := 0, locals := 20 } G [.ref (za G 0), .int t0, .int i, .int n] x (fun (r : Int32) (u : zX) => x = u ∧ (if zin 6 t0 ∧ zstr x t0.toNatClampNeg i n then nI 1 else nI 0) = r) := by
  intro A
  refine zBody (cc := cX11_isStretch) (maxL := 4) (ret := (some .boolean)) (by decide) rfl (Nat.le_of_ble_eq_true rfl) ?_
  intro p e s m below meth c hx hb hml hown hts hr hlocks hK hN hI ls hl
  have hown : s.vm.findClass RX11 = some m.cls := hown
  have hl : lv_has ls 4 [(0, .ref (za G 0)), (1, .int t0), (2, .int i), (3, .int n)] := hl
  have hin11 : ∀ w ∈ wsX110, w ∈ wsX11_isStretch := (fun _ h => List.mem_cons_of_mem _ (List.mem_append_right _ (h)))
  have wF59 := hts (.fieldLink RX11 59 "WhoSitsBy" "sizes" "[I") (z_mem 1 rfl)
  have wF52 := hts (.fieldLink RX11 52 "WhoSitsBy" "items" "[[J") (z_mem 2 rfl)
  refine lv_iload_n hx hb dX11_isStretch_0 rfl (lv_at hl 1 rfl) ?_
  refine z_calli (va_runS (As := [.int t0]) (rest := []) ⟨hx, hb, hml, hown, hts⟩ ((c_X11_isTape l hG x t0) A) (va_cwS 1 hts gX11_isStretch_X11_isTape rfl rfl rfl (by decide +kernel) ⟨Nat.le_of_ble_eq_true rfl, Nat.le_of_ble_eq_true rfl⟩) (z_pS hI hK hN) rfl rfl hl.1 rfl (lv_room (Nat.le_of_ble_eq_true rfl)) dX11_isStretch_1 ⟨Nat.zero_le _, Nat.zero_le _⟩) hI (fun r_1 u H locs hw hI => ?_)
  obtain ⟨rfl, rfl⟩ := hw
  refine lv_if_eq (tgt := 52) hx hb dX11_isStretch_4 (by decide) (fun c_4 => ?_) (fun c_4 => ?_)
  · skip
    rw [zb_0] at c_4
    refine lv_iconst (v := (nI 0)) hx hb dX11_isStretch_52 rfl ?_
    exact z_zret hx hb hr hlocks hI (Or.inl rfl) (⟨rfl, if_neg (fun h => c_4 h.1)⟩) dX11_isStretch_53
  · skip
    rw [zb_0, Classical.not_not] at c_4
    obtain ⟨t, ht, rfl⟩ := z_ix c_4.1 c_4.2 (by decide)
    have h60 := (htp t ht).2
    have hz6 : zin 6 (nI t) := c_4
    have ect : (nI t).toNatClampNeg = t := nI_clamp (by omega)
    rw [ect]
    refine lv_iload_n hx hb dX11_isStretch_7 rfl (lv_at hl 2 rfl) ?_
    refine lv_if_lt (tgt := 52) hx hb dX11_isStretch_8 (by decide) (fun c_8 => ?_) (fun c_8 => ?_)
    · skip
      refine lv_iconst (v := (nI 0)) hx hb dX11_isStretch_52 rfl ?_
      exact z_zret hx hb hr hlocks hI (Or.inl rfl) (⟨rfl, if_neg (fun h => h.2.1 c_8)⟩) dX11_isStretch_53
    · skip
      refine lv_iload_n hx hb dX11_isStretch_11 rfl (lv_at hl 3 rfl) ?_
      refine lv_if_lt (tgt := 52) hx hb dX11_isStretch_12 (by decide) (fun c_12 => ?_) (fun c_12 => ?_)
      · skip
        refine lv_iconst (v := (nI 0)) hx hb dX11_isStretch_52 rfl ?_
        exact z_zret hx hb hr hlocks hI (Or.inl rfl) (⟨rfl, if_neg (fun h => h.2.2.1 c_12)⟩) dX11_isStretch_53
      · skip
        refine lv_iload_n hx hb dX11_isStretch_15 rfl (lv_at hl 2 rfl) ?_
        refine lv_i2l hx hb dX11_isStretch_16 rfl ?_
        refine lv_iload_n hx hb dX11_isStretch_17 rfl (lv_at hl 3 rfl) ?_
        refine lv_i2l hx hb dX11_isStretch_18 rfl ?_
        refine lv_ladd hx hb dX11_isStretch_19 ?_
        refine lv_aload_n hx hb dX11_isStretch_20 rfl (lv_at hl 0 rfl) ?_
        refine z_get (C := RX11) (T := TX11) (N := 14) (ci := 11) (v := .ref (za G 27)) hx hb hts hin11 hown hK hI (zo0 hG) rfl 13 (by decide) wF59 (fun _ h9 => h9) rfl dX11_isStretch_21 ?_
        refine lv_iload_n hx hb dX11_isStretch_24 rfl (lv_at hl 1 rfl) ?_
        refine z_iald (v := (nI (zsz x t))) hx hb hK hI (zo27 hG) t rfl (by omega) (by decide) (htp t ht).1 dX11_isStretch_25 ?_
        refine lv_i2l hx hb dX11_isStretch_26 rfl ?_
        refine W.lcmp hx hb dX11_isStretch_27 ?_
        refine lv_if_gt (tgt := 52) hx hb dX11_isStretch_28 (by decide) (fun c_28 => ?_) (fun c_28 => ?_)
        · skip
          refine lv_iconst (v := (nI 0)) hx hb dX11_isStretch_52 rfl ?_
          exact z_zret hx hb hr hlocks hI (Or.inl rfl) (⟨rfl, if_neg (fun h => (zstrL h60 c_8 c_12).mp c_28 h.2.2.2)⟩) dX11_isStretch_53
        · skip
          refine lv_iload_n hx hb dX11_isStretch_31 rfl (lv_at hl 2 rfl) ?_
          refine lv_i2l hx hb dX11_isStretch_32 rfl ?_
          refine lv_iload_n hx hb dX11_isStretch_33 rfl (lv_at hl 3 rfl) ?_
          refine lv_i2l hx hb dX11_isStretch_34 rfl ?_
          refine lv_ladd hx hb dX11_isStretch_35 ?_
          refine lv_aload_n hx hb dX11_isStretch_36 rfl (lv_at hl 0 rfl) ?_
          refine z_get (C := RX11) (T := TX11) (N := 14) (ci := 11) (v := .ref (za G 19)) hx hb hts hin11 hown hK hI (zo0 hG) rfl 11 (by decide) wF52 (fun _ h9 => h9) rfl dX11_isStretch_37 ?_
          refine lv_iload_n hx hb dX11_isStretch_40 rfl (lv_at hl 1 rfl) ?_
          refine z_jald hx hb hK hG hI t rfl (by omega) dX11_isStretch_41 ?_
          refine z_alen (v := nI 60) hx hb hK hI 3 (zol hG (by omega)).1 ((zol hG (by omega)).2 _) rfl rfl dX11_isStretch_42 ?_
          refine lv_i2l hx hb dX11_isStretch_43 rfl ?_
          refine W.lcmp hx hb dX11_isStretch_44 ?_
          refine lv_if_gt (tgt := 52) hx hb dX11_isStretch_45 (by decide) (fun c_45 => ?_) (fun c_45 => ?_)
          · skip
            exact absurd c_45 (by rw [show (nI 60).toInt64 = (nI 60).toInt64 from rfl]; intro h9; exact (zstrL (z := 60) (by decide) c_8 c_12).mp h9 (by have h8 := Classical.not_not.mp (fun q => c_28 ((zstrL h60 c_8 c_12).mpr q)); omega))
          · skip
            refine lv_iconst (v := (nI 1)) hx hb dX11_isStretch_48 rfl ?_
            refine lv_goto (tgt := 53) hx hb dX11_isStretch_49 (by decide) ?_
            exact z_zret hx hb hr hlocks hI (Or.inr rfl) (⟨rfl, if_pos ⟨hz6, c_8, c_12, by have h9 := fun q => c_28 ((zstrL h60 c_8 c_12).mpr q); exact Classical.not_not.mp h9⟩⟩) dX11_isStretch_53
set_option maxHeartbeats 4000000 in
set_option maxRecDepth 100000 in
theorem c_X11_shift (l : Launch) {G : zG} (hG : zOK G) (x : zX) (t0 i t1 j n : Int32) (htp : zTp x) : zMi l yX11_shift wsX11_shift { frames := 2, cells := 0, slots := 0, locals := 80 } G [.ref (za G 0), .int t0, .int i, .int t1, .int j, .int n] x (fun (r : Int32) (u : zX) => (¬ (zin 6 t0 ∧ zin 6 t1) ∧ x = u ∧ -1 = r) ∨ ((zin 6 t0 ∧ zin 6 t1) ∧ (x.1 26 t0.toNatClampNeg = -1 ∨ x.1 26 t1.toNatClampNeg = -1) ∧ x = u ∧ -11 = r) ∨ ((zin 6 t0 ∧ zin 6 t1) ∧ ¬ (x.1 26 t0.toNatClampNeg = -1 ∨ x.1 26 t1.toNatClampNeg = -1) ∧ ¬ x.1 26 t0.toNatClampNeg = x.1 26 t1.toNatClampNeg ∧ x = u ∧ -12 = r) ∨ ((zin 6 t0 ∧ zin 6 t1) ∧ ¬ (x.1 26 t0.toNatClampNeg = -1 ∨ x.1 26 t1.toNatClampNeg = -1) ∧ x.1 26 t0.toNatClampNeg = x.1 26 t1.toNatClampNeg ∧ ¬ (zstr x t0.toNatClampNeg i n ∧ zstr x t1.toNatClampNeg j n) ∧ x = u ∧ -13 = r) ∨ ((zin 6 t0 ∧ zin 6 t1) ∧ ¬ (x.1 26 t0.toNatClampNeg = -1 ∨ x.1 26 t1.toNatClampNeg = -1) ∧ x.1 26 t0.toNatClampNeg = x.1 26 t1.toNatClampNeg ∧ (zstr x t0.toNatClampNeg i n ∧ zstr x t1.toNatClampNeg j n) ∧ zsrL x (20 + t1.toNatClampNeg) (va_cpy (x.2.1 (20 + t0.toNatClampNeg)) (x.2.1 (20 + t1.toNatClampNeg)) i.toNatClampNeg j.toNatClampNeg n.toNatClampNeg) = u ∧ n = r)) := by
  intro A
  refine zBody (cc := cX11_shift) (maxL := 6) (ret := (some .int)) (by decide) rfl (Nat.le_of_ble_eq_true rfl) ?_
  intro p e s m below meth c hx hb hml hown hts hr hlocks hK hN hI ls hl
  have hown : s.vm.findClass RX11 = some m.cls := hown
  have hl : lv_has ls 6 [(0, .ref (za G 0)), (1, .int t0), (2, .int i), (3, .int t1), (4, .int j), (5, .int n)] := hl
  have hin11 : ∀ w ∈ wsX110, w ∈ wsX11_shift := (fun _ h => List.mem_cons_of_mem _ (List.mem_append_right _ (h)))
  have wF55 := hts (.fieldLink RX11 55 "WhoSitsBy" "sorts" "[I") (z_mem 1 rfl)
  have wF52 := hts (.fieldLink RX11 52 "WhoSitsBy" "items" "[[J") (z_mem 2 rfl)
  have wA1 := hts (.methodLink RX11 311 arraycopyName) (z_mem 3 rfl)
  have wA2 := hts (.native arraycopyName) (z_mem 4 rfl)
  have wA3 := hts (.static arraycopyName) (z_mem 5 rfl)
  have wA4 := hts (.initialized "java/lang/System") (z_mem 6 rfl)
  refine lv_iload_n hx hb dX11_shift_0 rfl (lv_at hl 1 rfl) ?_
  refine z_calli (va_runS (As := [.int t0]) (rest := []) ⟨hx, hb, hml, hown, hts⟩ ((c_X11_isTape l hG x t0) A) (va_cwS 1 hts gX11_shift_X11_isTape rfl rfl rfl (by decide +kernel) ⟨Nat.le_of_ble_eq_true rfl, Nat.le_of_ble_eq_true rfl⟩) (z_pS hI hK hN) rfl rfl hl.1 rfl (lv_room (Nat.le_of_ble_eq_true rfl)) dX11_shift_1 ⟨Nat.zero_le _, Nat.zero_le _⟩) hI (fun r_1 u H locs hw hI => ?_)
  obtain ⟨rfl, rfl⟩ := hw
  refine lv_if_eq (tgt := 14) hx hb dX11_shift_4 (by decide) (fun c_4 => ?_) (fun c_4 => ?_)
  · skip
    rw [zb_0] at c_4
    refine lv_iconst (v := (-1)) hx hb dX11_shift_14 rfl ?_
    exact z_iret hx hb hr hlocks hI (Or.inl ⟨fun h => c_4 h.1, rfl, rfl⟩) dX11_shift_15
  · skip
    rw [zb_0, Classical.not_not] at c_4
    refine lv_iload_n hx hb dX11_shift_7 rfl (lv_at hl 3 rfl) ?_
    refine z_calli (va_runS (As := [.int t1]) (rest := []) ⟨hx, hb, hml, hown, hts⟩ ((c_X11_isTape l hG x t1) A) (va_cwS 1 hts gX11_shift_X11_isTape rfl rfl rfl (by decide +kernel) ⟨Nat.le_of_ble_eq_true rfl, Nat.le_of_ble_eq_true rfl⟩) (z_pS hI hK hN) rfl rfl hl.1 rfl (lv_room (Nat.le_of_ble_eq_true rfl)) dX11_shift_8 ⟨Nat.zero_le _, Nat.zero_le _⟩) hI (fun r_8 u H locs hw hI => ?_)
    obtain ⟨rfl, rfl⟩ := hw
    refine lv_if_ne (tgt := 16) hx hb dX11_shift_11 (by decide) (fun c_11 => ?_) (fun c_11 => ?_)
    · skip
      rw [zb_0, Classical.not_not] at c_11
      obtain ⟨t, ht, rfl⟩ := z_ix c_4.1 c_4.2 (by decide)
      obtain ⟨t2, ht2, rfl⟩ := z_ix c_11.1 c_11.2 (by decide)
      have ect : (nI t).toNatClampNeg = t := nI_clamp (by omega)
      have ect2 : (nI t2).toNatClampNeg = t2 := nI_clamp (by omega)
      have hz : zin 6 (nI t) ∧ zin 6 (nI t2) := ⟨c_4, c_11⟩
      refine lv_aload_n hx hb dX11_shift_16 rfl (lv_at hl 0 rfl) ?_
      refine z_get (C := RX11) (T := TX11) (N := 14) (ci := 11) (v := .ref (za G 26)) hx hb hts hin11 hown hK hI (zo0 hG) rfl 12 (by decide) wF55 (fun _ h9 => h9) rfl dX11_shift_17 ?_
      refine lv_iload_n hx hb dX11_shift_20 rfl (lv_at hl 1 rfl) ?_
      refine z_iald (v := (x.1 26 t)) hx hb hK hI (zo26 hG) t rfl (by omega) (by decide) rfl dX11_shift_21 ?_
      refine lv_iconst (v := (-1)) hx hb dX11_shift_22 rfl ?_
      refine lv_icmp_eq (tgt := 36) hx hb dX11_shift_23 (by decide) (fun c_23 => ?_) (fun c_23 => ?_)
      · skip
        refine lv_bipush (v := (-11)) hx hb dX11_shift_36 rfl ?_
        exact z_iret hx hb hr hlocks hI (Or.inr (Or.inl ⟨hz, (by rw [ect, ect2]; exact Or.inl c_23), rfl, rfl⟩)) dX11_shift_38
      · skip
        refine lv_aload_n hx hb dX11_shift_26 rfl (lv_at hl 0 rfl) ?_
        refine z_get (C := RX11) (T := TX11) (N := 14) (ci := 11) (v := .ref (za G 26)) hx hb hts hin11 hown hK hI (zo0 hG) rfl 12 (by decide) wF55 (fun _ h9 => h9) rfl dX11_shift_27 ?_
        refine lv_iload_n hx hb dX11_shift_30 rfl (lv_at hl 3 rfl) ?_
        refine z_iald (v := (x.1 26 t2)) hx hb hK hI (zo26 hG) t2 rfl (by omega) (by decide) rfl dX11_shift_31 ?_
        refine lv_iconst (v := (-1)) hx hb dX11_shift_32 rfl ?_
        refine lv_icmp_ne (tgt := 39) hx hb dX11_shift_33 (by decide) (fun c_33 => ?_) (fun c_33 => ?_)
        · skip
          refine lv_aload_n hx hb dX11_shift_39 rfl (lv_at hl 0 rfl) ?_
          refine z_get (C := RX11) (T := TX11) (N := 14) (ci := 11) (v := .ref (za G 26)) hx hb hts hin11 hown hK hI (zo0 hG) rfl 12 (by decide) wF55 (fun _ h9 => h9) rfl dX11_shift_40 ?_
          refine lv_iload_n hx hb dX11_shift_43 rfl (lv_at hl 1 rfl) ?_
          refine z_iald (v := (x.1 26 t)) hx hb hK hI (zo26 hG) t rfl (by omega) (by decide) rfl dX11_shift_44 ?_
          refine lv_aload_n hx hb dX11_shift_45 rfl (lv_at hl 0 rfl) ?_
          refine z_get (C := RX11) (T := TX11) (N := 14) (ci := 11) (v := .ref (za G 26)) hx hb hts hin11 hown hK hI (zo0 hG) rfl 12 (by decide) wF55 (fun _ h9 => h9) rfl dX11_shift_46 ?_
          refine lv_iload_n hx hb dX11_shift_49 rfl (lv_at hl 3 rfl) ?_
          refine z_iald (v := (x.1 26 t2)) hx hb hK hI (zo26 hG) t2 rfl (by omega) (by decide) rfl dX11_shift_50 ?_
          refine lv_icmp_eq (tgt := 57) hx hb dX11_shift_51 (by decide) (fun c_51 => ?_) (fun c_51 => ?_)
          · skip
            refine lv_aload_n hx hb dX11_shift_57 rfl (lv_at hl 0 rfl) ?_
            refine lv_iload_n hx hb dX11_shift_58 rfl (lv_at hl 1 rfl) ?_
            refine lv_iload_n hx hb dX11_shift_59 rfl (lv_at hl 2 rfl) ?_
            refine lv_iload hx hb dX11_shift_60 (lv_at hl 5 rfl) ?_
            refine z_calli (va_runV (As := [.int (nI t), .int i, .int n]) (rest := []) ⟨hx, hb, hml, hown, hts⟩ ((c_X11_isStretch l hG x (nI t) i n htp) A) (cwV 3 hts gX11_shift_X11_isStretch rfl rfl rfl (by decide +kernel) ⟨Nat.le_of_ble_eq_true rfl, Nat.le_of_ble_eq_true rfl⟩) (z_pV hI hK hN (z_recv hK hI (zo0 hG) rfl)) rfl rfl hl.1 rfl (lv_room (Nat.le_of_ble_eq_true rfl)) dX11_shift_62 ⟨Nat.zero_le _, Nat.zero_le _⟩) hI (fun r_62 u H locs hw hI => ?_)
            obtain ⟨rfl, rfl⟩ := hw
            refine lv_if_eq (tgt := 80) hx hb dX11_shift_65 (by decide) (fun c_65 => ?_) (fun c_65 => ?_)
            · skip
              rw [zb_0] at c_65
              refine lv_bipush (v := (-13)) hx hb dX11_shift_80 rfl ?_
              exact z_iret hx hb hr hlocks hI (Or.inr (Or.inr (Or.inr (Or.inl ⟨hz, (by rw [ect, ect2]; exact fun h => h.elim c_23 c_33), (by rw [ect, ect2]; exact c_51), (fun h => c_65 ⟨c_4, h.1⟩), rfl, rfl⟩)))) dX11_shift_82
            · skip
              rw [zb_0, Classical.not_not] at c_65
              refine lv_aload_n hx hb dX11_shift_68 rfl (lv_at hl 0 rfl) ?_
              refine lv_iload_n hx hb dX11_shift_69 rfl (lv_at hl 3 rfl) ?_
              refine lv_iload hx hb dX11_shift_70 (lv_at hl 4 rfl) ?_
              refine lv_iload hx hb dX11_shift_72 (lv_at hl 5 rfl) ?_
              refine z_calli (va_runV (As := [.int (nI t2), .int j, .int n]) (rest := []) ⟨hx, hb, hml, hown, hts⟩ ((c_X11_isStretch l hG x (nI t2) j n htp) A) (cwV 3 hts gX11_shift_X11_isStretch rfl rfl rfl (by decide +kernel) ⟨Nat.le_of_ble_eq_true rfl, Nat.le_of_ble_eq_true rfl⟩) (z_pV hI hK hN (z_recv hK hI (zo0 hG) rfl)) rfl rfl hl.1 rfl (lv_room (Nat.le_of_ble_eq_true rfl)) dX11_shift_74 ⟨Nat.zero_le _, Nat.zero_le _⟩) hI (fun r_74 u H locs hw hI => ?_)
              obtain ⟨rfl, rfl⟩ := hw
              refine lv_if_ne (tgt := 83) hx hb dX11_shift_77 (by decide) (fun c_77 => ?_) (fun c_77 => ?_)
              · skip
                rw [zb_0, Classical.not_not] at c_77
                refine lv_aload_n hx hb dX11_shift_83 rfl (lv_at hl 0 rfl) ?_
                refine z_get (C := RX11) (T := TX11) (N := 14) (ci := 11) (v := .ref (za G 19)) hx hb hts hin11 hown hK hI (zo0 hG) rfl 11 (by decide) wF52 (fun _ h9 => h9) rfl dX11_shift_84 ?_
                refine lv_iload_n hx hb dX11_shift_87 rfl (lv_at hl 1 rfl) ?_
                refine z_jald hx hb hK hG hI t rfl (by omega) dX11_shift_88 ?_
                refine lv_iload_n hx hb dX11_shift_89 rfl (lv_at hl 2 rfl) ?_
                refine lv_aload_n hx hb dX11_shift_90 rfl (lv_at hl 0 rfl) ?_
                refine z_get (C := RX11) (T := TX11) (N := 14) (ci := 11) (v := .ref (za G 19)) hx hb hts hin11 hown hK hI (zo0 hG) rfl 11 (by decide) wF52 (fun _ h9 => h9) rfl dX11_shift_91 ?_
                refine lv_iload_n hx hb dX11_shift_94 rfl (lv_at hl 3 rfl) ?_
                refine z_jald hx hb hK hG hI t2 rfl (by omega) dX11_shift_95 ?_
                refine lv_iload hx hb dX11_shift_96 (lv_at hl 4 rfl) ?_
                refine lv_iload hx hb dX11_shift_98 (lv_at hl 5 rfl) ?_
                have h60 := (htp t ht).2
                have h602 := (htp t2 ht2).2
                have q1 := c_65.2
                have q2 := c_77.2
                rw [ect] at q1
                rw [ect2] at q2
                obtain ⟨ib, hib, rfl⟩ := z_nat q1.1
                obtain ⟨jb, hjb, rfl⟩ := z_nat q2.1
                obtain ⟨nb, hnb, rfl⟩ := z_nat q1.2.1
                have eci : (nI ib).toNatClampNeg = ib := nI_clamp hib
                have ecj : (nI jb).toNatClampNeg = jb := nI_clamp hjb
                have ecn : (nI nb).toNatClampNeg = nb := nI_clamp hnb
                have q3 := q1.2.2
                have q4 := q2.2.2
                rw [eci, ecn] at q3
                rw [ecj, ecn] at q4
                refine z_copyl hx hb (hml.trans hl.1.symm) hown wA1 wA2 wA3 wA4 hK hI (zol hG ht) (zol hG ht2) (sp := ib) (dp := jb) (n := nb) (by omega) (by omega) (by decide) (by decide) (Nat.le_of_ble_eq_true rfl) (Nat.le_of_ble_eq_true rfl) dX11_shift_100 (fun H locs hI => ?_)
                refine lv_iload hx hb dX11_shift_103 (lv_at hl 5 rfl) ?_
                exact z_iret hx hb hr hlocks hI (Or.inr (Or.inr (Or.inr (Or.inr ⟨hz, (by rw [ect, ect2]; exact fun h => h.elim c_23 c_33), (by rw [ect, ect2]; exact c_51), ⟨c_65.2, c_77.2⟩, by rw [ect, ect2, eci, ecj, ecn], rfl⟩)))) dX11_shift_105
              · skip
                rw [zb_0] at c_77
                refine lv_bipush (v := (-13)) hx hb dX11_shift_80 rfl ?_
                exact z_iret hx hb hr hlocks hI (Or.inr (Or.inr (Or.inr (Or.inl ⟨hz, (by rw [ect, ect2]; exact fun h => h.elim c_23 c_33), (by rw [ect, ect2]; exact c_51), (fun h => c_77 ⟨c_11, h.2⟩), rfl, rfl⟩)))) dX11_shift_82
          · skip
            refine lv_bipush (v := (-12)) hx hb dX11_shift_54 rfl ?_
            exact z_iret hx hb hr hlocks hI (Or.inr (Or.inr (Or.inl ⟨hz, (by rw [ect, ect2]; exact fun h => h.elim c_23 c_33), (by rw [ect, ect2]; exact c_51), rfl, rfl⟩))) dX11_shift_56
        · skip
          refine lv_bipush (v := (-11)) hx hb dX11_shift_36 rfl ?_
          exact z_iret hx hb hr hlocks hI (Or.inr (Or.inl ⟨hz, (by rw [ect, ect2]; exact Or.inr c_33), rfl, rfl⟩)) dX11_shift_38
    · skip
      rw [zb_0] at c_11
      refine lv_iconst (v := (-1)) hx hb dX11_shift_14 rfl ?_
      exact z_iret hx hb hr hlocks hI (Or.inl ⟨fun h => c_11 h.2, rfl, rfl⟩) dX11_shift_15
