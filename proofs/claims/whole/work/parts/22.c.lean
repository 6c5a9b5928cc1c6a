set_option maxHeartbeats 4000000 in
set_option maxRecDepth 100000 in
theorem c_X12_in (l : Launch) {G : zG} (hG : zOK G) (x : zX) (q lo hi : Int32)  : zMi l yX12_in wsX12_in { frames := 0, cells := 0, slots := 0, locals := 0 } G [.ref (za G 77), .int q, .int lo, .int hi] x (fun (r : Int32) (u : zX) => x = u ∧ (if ¬ q < lo ∧ ¬ hi < q then nI 1 else nI 0) = r) := by
  intro A
  refine zBody (cc := cX12_in) (maxL := 4) (ret := (some .boolean)) (by decide) rfl (Nat.le_of_ble_eq_true rfl) ?_
  intro p e s m below meth c hx hb hml hown hts hr hlocks hK hN hI ls hl
  have hown : s.vm.findClass RX12 = some m.cls := hown
  have hl : lv_has ls 4 [(0, .ref (za G 77)), (1, .int q), (2, .int lo), (3, .int hi)] := hl
  refine lv_iload_n hx hb dX12_in_0 rfl (lv_at hl 1 rfl) ?_
  refine lv_iload_n hx hb dX12_in_1 rfl (lv_at hl 2 rfl) ?_
  refine lv_icmp_lt (tgt := 14) hx hb dX12_in_2 (by decide) (fun c_2 => ?_) (fun c_2 => ?_)
  · skip
    refine lv_iconst (v := (nI 0)) hx hb dX12_in_14 rfl ?_
    exact z_zret hx hb hr hlocks hI (Or.inl rfl) (⟨rfl, by simp [zbit, c_2]⟩) dX12_in_15
  · skip
    refine lv_iload_n hx hb dX12_in_5 rfl (lv_at hl 1 rfl) ?_
    refine lv_iload_n hx hb dX12_in_6 rfl (lv_at hl 3 rfl) ?_
    refine lv_icmp_gt (tgt := 14) hx hb dX12_in_7 (by decide) (fun c_7 => ?_) (fun c_7 => ?_)
    · skip
      refine lv_iconst (v := (nI 0)) hx hb dX12_in_14 rfl ?_
      exact z_zret hx hb hr hlocks hI (Or.inl rfl) (⟨rfl, by simp [zbit, c_2, c_7]⟩) dX12_in_15
    · skip
      refine lv_iconst (v := (nI 1)) hx hb dX12_in_10 rfl ?_
      refine lv_goto (tgt := 15) hx hb dX12_in_11 (by decide) ?_
      exact z_zret hx hb hr hlocks hI (Or.inr rfl) (⟨rfl, by simp [zbit, c_2, c_7]⟩) dX12_in_15
set_option maxHeartbeats 4000000 in
set_option maxRecDepth 100000 in
theorem c_X12_has (l : Launch) {G : zG} (hG : zOK G) (x : zX) (b k : Int32)  : zMi l yX12_has wsX12_has { frames := 0, cells := 0, slots := 0, locals := 0 } G [.ref (za G 77), .int b, .int k] x (fun (r : Int32) (u : zX) => x = u ∧ (if zhas b k then nI 1 else nI 0) = r) := by
  intro A
  refine zBody (cc := cX12_has) (maxL := 3) (ret := (some .boolean)) (by decide) rfl (Nat.le_of_ble_eq_true rfl) ?_
  intro p e s m below meth c hx hb hml hown hts hr hlocks hK hN hI ls hl
  have hown : s.vm.findClass RX12 = some m.cls := hown
  have hl : lv_has ls 3 [(0, .ref (za G 77)), (1, .int b), (2, .int k)] := hl
  refine lv_iload_n hx hb dX12_has_0 rfl (lv_at hl 1 rfl) ?_
  refine lv_iload_n hx hb dX12_has_1 rfl (lv_at hl 2 rfl) ?_
  refine lv_ishr hx hb dX12_has_2 ?_
  refine lv_iconst (v := (nI 1)) hx hb dX12_has_3 rfl ?_
  refine lv_iand hx hb dX12_has_4 ?_
  refine lv_iconst (v := (nI 1)) hx hb dX12_has_5 rfl ?_
  refine lv_icmp_ne (tgt := 13) hx hb dX12_has_6 (by decide) (fun c_6 => ?_) (fun c_6 => ?_)
  · skip
    refine lv_iconst (v := (nI 0)) hx hb dX12_has_13 rfl ?_
    exact z_zret hx hb hr hlocks hI (Or.inl rfl) (⟨rfl, if_neg c_6⟩) dX12_has_14
  · skip
    refine lv_iconst (v := (nI 1)) hx hb dX12_has_9 rfl ?_
    refine lv_goto (tgt := 14) hx hb dX12_has_10 (by decide) ?_
    exact z_zret hx hb hr hlocks hI (Or.inr rfl) (⟨rfl, if_pos c_6⟩) dX12_has_14
set_option maxHeartbeats 4000000 in
set_option maxRecDepth 100000 in
theorem c_X12_isPupil (l : Launch) {G : zG} (hG : zOK G) (x : zX) (N : Nat) (q : Int32) (hr0 : zRef x N) : zMi l yX12_isPupil wsX12_isPupil { frames := 1, cells := 0, slots := 0, locals := 23 } G [.ref (za G 77), .int q] x (fun (r : Int32) (u : zX) => x = u ∧ (if zin N q then nI 1 else nI 0) = r) := by
  intro A
  refine zBody (cc := cX12_isPupil) (maxL := 2) (ret := (some .boolean)) (by decide) rfl (Nat.le_of_ble_eq_true rfl) ?_
  intro p e s m below meth c hx hb hml hown hts hr hlocks hK hN hI ls hl
  have hown : s.vm.findClass RX12 = some m.cls := hown
  have hl : lv_has ls 2 [(0, .ref (za G 77)), (1, .int q)] := hl
  have hin12 : ∀ w ∈ wsX120, w ∈ wsX12_isPupil := (fun _ h => List.mem_cons_of_mem _ (List.mem_append_right _ (h)))
  have wF7 := hts (.fieldLink RX12 7 "WhoSitsByModel" "pupils" "I") (z_mem 1 rfl)
  have h8 := hr0.1
  refine lv_aload_n hx hb dX12_isPupil_0 rfl (lv_at hl 0 rfl) ?_
  refine lv_iload_n hx hb dX12_isPupil_1 rfl (lv_at hl 1 rfl) ?_
  refine lv_iconst (v := (nI 0)) hx hb dX12_isPupil_2 rfl ?_
  refine lv_aload_n hx hb dX12_isPupil_3 rfl (lv_at hl 0 rfl) ?_
  refine z_get (C := RX12) (T := TX12) (N := 51) (ci := 12) (v := .int (nI N)) hx hb hts hin12 hown hK hI (zo77 hG) rfl 0 (by decide) wF7 (fun _ h9 => h9) (congrArg (fun q => some (Value.int q)) hr0.2.1) dX12_isPupil_4 ?_
  refine lv_iconst (v := (nI 1)) hx hb dX12_isPupil_7 rfl ?_
  refine lv_isub hx hb dX12_isPupil_8 ?_
  refine z_calli (va_runV (As := [.int q, .int (nI 0), .int ((nI N) - (nI 1))]) (rest := []) ⟨hx, hb, hml, hown, hts⟩ ((c_X12_in l hG x q (nI 0) ((nI N) - (nI 1))) A) (cwV 3 hts gX12_isPupil_X12_in rfl rfl rfl (by decide +kernel) ⟨Nat.le_of_ble_eq_true rfl, Nat.le_of_ble_eq_true rfl⟩) (z_pV hI hK hN (z_recv hK hI (zo77 hG) rfl)) rfl rfl hl.1 rfl (lv_room (Nat.le_of_ble_eq_true rfl)) dX12_isPupil_9 ⟨Nat.zero_le _, Nat.zero_le _⟩) hI (fun r_9 u H locs hw hI => ?_)
  obtain ⟨rfl, rfl⟩ := hw
  exact z_zret hx hb hr hlocks hI (zb01 inferInstance) (⟨rfl, zb_c (zin_i h8)⟩) dX12_isPupil_12
set_option maxHeartbeats 4000000 in
set_option maxRecDepth 100000 in
theorem c_X12_isSeat (l : Launch) {G : zG} (hG : zOK G) (x : zX) (q : Int32)  : zMi l yX12_isSeat wsX12_isSeat { frames := 1, cells := 0, slots := 0, locals := 23 } G [.ref (za G 77), .int q] x (fun (r : Int32) (u : zX) => x = u ∧ (if zin 8 q then nI 1 else nI 0) = r) := by
  intro A
  refine zBody (cc := cX12_isSeat) (maxL := 2) (ret := (some .boolean)) (by decide) rfl (Nat.le_of_ble_eq_true rfl) ?_
  intro p e s m below meth c hx hb hml hown hts hr hlocks hK hN hI ls hl
  have hown : s.vm.findClass RX12 = some m.cls := hown
  have hl : lv_has ls 2 [(0, .ref (za G 77)), (1, .int q)] := hl
  refine lv_aload_n hx hb dX12_isSeat_0 rfl (lv_at hl 0 rfl) ?_
  refine lv_iload_n hx hb dX12_isSeat_1 rfl (lv_at hl 1 rfl) ?_
  refine lv_iconst (v := (nI 0)) hx hb dX12_isSeat_2 rfl ?_
  refine lv_bipush (v := (nI 7)) hx hb dX12_isSeat_3 rfl ?_
  refine z_calli (va_runV (As := [.int q, .int (nI 0), .int (nI 7)]) (rest := []) ⟨hx, hb, hml, hown, hts⟩ ((c_X12_in l hG x q (nI 0) (nI 7)) A) (cwV 3 hts gX12_isSeat_X12_in rfl rfl rfl (by decide +kernel) ⟨Nat.le_of_ble_eq_true rfl, Nat.le_of_ble_eq_true rfl⟩) (z_pV hI hK hN (z_recv hK hI (zo77 hG) rfl)) rfl rfl hl.1 rfl (lv_room (Nat.le_of_ble_eq_true rfl)) dX12_isSeat_5 ⟨Nat.zero_le _, Nat.zero_le _⟩) hI (fun r_5 u H locs hw hI => ?_)
  obtain ⟨rfl, rfl⟩ := hw
  exact z_zret hx hb hr hlocks hI (zb01 inferInstance) (⟨rfl, zb_c (zin_i (N := 8) (by decide))⟩) dX12_isSeat_8
set_option maxHeartbeats 4000000 in
set_option maxRecDepth 100000 in
theorem c_X12_arePupils (l : Launch) {G : zG} (hG : zOK G) (x : zX) (N : Nat) (q : Int32) (hr0 : zRef x N) : zMi l yX12_arePupils wsX12_arePupils { frames := 1, cells := 0, slots := 0, locals := 23 } G [.ref (za G 77), .int q] x (fun (r : Int32) (u : zX) => x = u ∧ (if ¬ q < 0 ∧ ¬ nI (2 ^ N) ≤ q then nI 1 else nI 0) = r) := by
  intro A
  refine zBody (cc := cX12_arePupils) (maxL := 2) (ret := (some .boolean)) (by decide) rfl (Nat.le_of_ble_eq_true rfl) ?_
  intro p e s m below meth c hx hb hml hown hts hr hlocks hK hN hI ls hl
  have hown : s.vm.findClass RX12 = some m.cls := hown
  have hl : lv_has ls 2 [(0, .ref (za G 77)), (1, .int q)] := hl
  have hin12 : ∀ w ∈ wsX120, w ∈ wsX12_arePupils := (fun _ h => List.mem_cons_of_mem _ (List.mem_append_right _ (h)))
  have wF7 := hts (.fieldLink RX12 7 "WhoSitsByModel" "pupils" "I") (z_mem 1 rfl)
  have h8 := hr0.1
  refine lv_aload_n hx hb dX12_arePupils_0 rfl (lv_at hl 0 rfl) ?_
  refine lv_iload_n hx hb dX12_arePupils_1 rfl (lv_at hl 1 rfl) ?_
  refine lv_iconst (v := (nI 0)) hx hb dX12_arePupils_2 rfl ?_
  refine lv_iconst (v := (nI 1)) hx hb dX12_arePupils_3 rfl ?_
  refine lv_aload_n hx hb dX12_arePupils_4 rfl (lv_at hl 0 rfl) ?_
  refine z_get (C := RX12) (T := TX12) (N := 51) (ci := 12) (v := .int (nI N)) hx hb hts hin12 hown hK hI (zo77 hG) rfl 0 (by decide) wF7 (fun _ h9 => h9) (congrArg (fun q => some (Value.int q)) hr0.2.1) dX12_arePupils_5 ?_
  refine z_ishl (v := (nI (2 ^ N))) hx hb (zp2 (by omega)) dX12_arePupils_8 ?_
  refine lv_iconst (v := (nI 1)) hx hb dX12_arePupils_9 rfl ?_
  refine lv_isub hx hb dX12_arePupils_10 ?_
  refine z_calli (va_runV (As := [.int q, .int (nI 0), .int ((nI (2 ^ N)) - (nI 1))]) (rest := []) ⟨hx, hb, hml, hown, hts⟩ ((c_X12_in l hG x q (nI 0) ((nI (2 ^ N)) - (nI 1))) A) (cwV 3 hts gX12_arePupils_X12_in rfl rfl rfl (by decide +kernel) ⟨Nat.le_of_ble_eq_true rfl, Nat.le_of_ble_eq_true rfl⟩) (z_pV hI hK hN (z_recv hK hI (zo77 hG) rfl)) rfl rfl hl.1 rfl (lv_room (Nat.le_of_ble_eq_true rfl)) dX12_arePupils_11 ⟨Nat.zero_le _, Nat.zero_le _⟩) hI (fun r_11 u H locs hw hI => ?_)
  obtain ⟨rfl, rfl⟩ := hw
  exact z_zret hx hb hr hlocks hI (zb01 inferInstance) (⟨rfl, zb_c (zin_2 h8)⟩) dX12_arePupils_14
set_option maxHeartbeats 4000000 in
set_option maxRecDepth 100000 in
theorem c_X12_namedOf (l : Launch) {G : zG} (hG : zOK G) (x : zX) (N : Nat) (y : Int32) (hr0 : zRef x N) : zMi l yX12_namedOf wsX12_namedOf { frames := 0, cells := 0, slots := 0, locals := 0 } G [.ref (za G 77), .int y] x (fun (r : Int32) (u : zX) => x = u ∧ zsum (fun qq => if x.1 83 qq = y then 1 else 0) N = r) := by
  intro A
  refine zBody (cc := cX12_namedOf) (maxL := 4) (ret := (some .int)) (by decide) rfl (Nat.le_of_ble_eq_true rfl) ?_
  intro p e s m below meth c hx hb hml hown hts hr hlocks hK hN hI ls hl
  have hown : s.vm.findClass RX12 = some m.cls := hown
  have hl : lv_has ls 4 [(0, .ref (za G 77)), (1, .int y)] := hl
  have hin12 : ∀ w ∈ wsX120, w ∈ wsX12_namedOf := (fun _ h => List.mem_cons_of_mem _ (List.mem_append_right _ (h)))
  have wF7 := hts (.fieldLink RX12 7 "WhoSitsByModel" "pupils" "I") (z_mem 1 rfl)
  have wF32 := hts (.fieldLink RX12 32 "WhoSitsByModel" "names" "[I") (z_mem 2 rfl)
  have h8 := hr0.1
  refine lv_iconst (v := (nI 0)) hx hb dX12_namedOf_0 rfl ?_
  refine lv_istore_n (lv' := [(2, .int (nI 0)), (0, .ref (za G 77)), (1, .int y)]) hx hb dX12_namedOf_1 rfl hl (by decide) rfl (fun ls hl => ?_)
  refine lv_iconst (v := (nI 0)) hx hb dX12_namedOf_2 rfl ?_
  refine lv_istore_n (lv' := [(3, .int (nI 0)), (2, .int (nI 0)), (0, .ref (za G 77)), (1, .int y)]) hx hb dX12_namedOf_3 rfl hl (by decide) rfl (fun ls hl => ?_)
  have L4 : ∀ (f : Nat) (j : Nat) (a : Int32), (j ≤ N) → (a = zsum (fun qq => if x.1 83 qq = y then 1 else 0) j) → N + 1 ≤ j + f → ∀ (H : Heap) (locs : List Loc), zI G x A s.heap H locs → ∀ ls : Array Slot, lv_has ls 4 [(0, .ref (za G 77)), (1, .int y), (2, .int a), (3, .int (nI j))] → W p l e { frames := 0, cells := 0, slots := 0, locals := 0 } s m ([.ref (za G 77), .int y] : List Value).toArray below meth c H locs 0 0 (MQ below (va_Qi (fun (r : Int32) (u : zX) => x = u ∧ zsum (fun qq => if x.1 83 qq = y then 1 else 0) N = r) (fun u t => zJ G u A t.heap) A) ([.ref (za G 77), .int y] : List Value).toArray s 0 0 A) (F0 m 4 ls []) := by
    intro f
    induction f with
    | zero =>
      intro j a h1 h2 hf
      exact absurd hf (by omega)
    | succ f ih =>
      intro j a h1 h2 hf H locs hI ls hl
      have ih4 := ih
      refine lv_iload_n hx hb dX12_namedOf_4 rfl (lv_at hl 3 rfl) ?_
      refine lv_aload_n hx hb dX12_namedOf_5 rfl (lv_at hl 0 rfl) ?_
      refine z_get (C := RX12) (T := TX12) (N := 51) (ci := 12) (v := .int (nI N)) hx hb hts hin12 hown hK hI (zo77 hG) rfl 0 (by decide) wF7 (fun _ h9 => h9) (congrArg (fun q => some (Value.int q)) hr0.2.1) dX12_namedOf_6 ?_
      refine lv_icmp_ge (tgt := 36) hx hb dX12_namedOf_9 (by decide) (fun c_9 => ?_) (fun c_9 => ?_)
      · skip
        rw [zqG (by omega) (by omega)] at c_9
        refine lv_iload_n hx hb dX12_namedOf_36 rfl (lv_at hl 2 rfl) ?_
        exact z_iret hx hb hr hlocks hI (⟨rfl, by rw [h2, show j = N by omega]⟩) dX12_namedOf_37
      · skip
        rw [zqG (by omega) (by omega)] at c_9
        refine lv_iload_n hx hb dX12_namedOf_12 rfl (lv_at hl 2 rfl) ?_
        refine lv_aload_n hx hb dX12_namedOf_13 rfl (lv_at hl 0 rfl) ?_
        refine z_get (C := RX12) (T := TX12) (N := 51) (ci := 12) (v := .ref (za G 83)) hx hb hts hin12 hown hK hI (zo77 hG) rfl 7 (by decide) wF32 (fun _ h9 => h9) rfl dX12_namedOf_14 ?_
        refine lv_iload_n hx hb dX12_namedOf_17 rfl (lv_at hl 3 rfl) ?_
        refine z_iald (v := (x.1 83 j)) hx hb hK hI (zo83 hG) j rfl (by omega) (by decide) rfl dX12_namedOf_18 ?_
        refine lv_iload_n hx hb dX12_namedOf_19 rfl (lv_at hl 1 rfl) ?_
        refine lv_icmp_ne (tgt := 27) hx hb dX12_namedOf_20 (by decide) (fun c_20 => ?_) (fun c_20 => ?_)
        · skip
          refine lv_iconst (v := (nI 0)) hx hb dX12_namedOf_27 rfl ?_
          refine lv_iadd hx hb dX12_namedOf_28 ?_
          refine lv_istore_n (lv' := [(2, .int (a + (nI 0))), (0, .ref (za G 77)), (1, .int y), (3, .int (nI j))]) hx hb dX12_namedOf_29 rfl hl (by decide) rfl (fun ls hl => ?_)
          refine lv_iinc (v := (nI (j + 1))) (lv' := [(3, .int (nI (j + 1))), (2, .int (a + (nI 0))), (0, .ref (za G 77)), (1, .int y)]) hx hb dX12_namedOf_30 hl (k := 3) rfl (zinc j) (by decide) rfl (fun ls hl => ?_)
          refine lv_goto (tgt := 4) hx hb dX12_namedOf_33 (by decide) ?_
          exact ih4 (j + 1) (a + (nI 0)) (by omega) (zsum_t h2 (by rw [if_neg c_20]; rfl)) (by omega) _ _ hI ls (lv_sub hl [2, 3, 1, 0] rfl)
        · skip
          refine lv_iconst (v := (nI 1)) hx hb dX12_namedOf_23 rfl ?_
          refine lv_goto (tgt := 28) hx hb dX12_namedOf_24 (by decide) ?_
          refine lv_iadd hx hb dX12_namedOf_28 ?_
          refine lv_istore_n (lv' := [(2, .int (a + (nI 1))), (0, .ref (za G 77)), (1, .int y), (3, .int (nI j))]) hx hb dX12_namedOf_29 rfl hl (by decide) rfl (fun ls hl => ?_)
          refine lv_iinc (v := (nI (j + 1))) (lv' := [(3, .int (nI (j + 1))), (2, .int (a + (nI 1))), (0, .ref (za G 77)), (1, .int y)]) hx hb dX12_namedOf_30 hl (k := 3) rfl (zinc j) (by decide) rfl (fun ls hl => ?_)
          refine lv_goto (tgt := 4) hx hb dX12_namedOf_33 (by decide) ?_
          exact ih4 (j + 1) (a + (nI 1)) (by omega) (zsum_t h2 (by rw [if_pos c_20]; rfl)) (by omega) _ _ hI ls (lv_sub hl [2, 3, 1, 0] rfl)
  exact L4 (N + 1) 0 (nI 0) (by omega) rfl (by omega) _ _ hI ls (lv_sub hl [2, 3, 1, 0] rfl)
set_option maxHeartbeats 4000000 in
set_option maxRecDepth 100000 in
theorem c_X12_named (l : Launch) {G : zG} (hG : zOK G) (x : zX) (N : Nat) (q : Int32) (hr0 : zRef x N) : zMi l yX12_named wsX12_named { frames := 2, cells := 0, slots := 0, locals := 44 } G [.ref (za G 77), .int q] x (fun (r : Int32) (u : zX) => x = u ∧ (if zin N q then zsum (fun k => if x.1 83 k = q then 1 else 0) N else -1) = r) := by
  intro A
  refine zBody (cc := cX12_named) (maxL := 2) (ret := (some .int)) (by decide) rfl (Nat.le_of_ble_eq_true rfl) ?_
  intro p e s m below meth c hx hb hml hown hts hr hlocks hK hN hI ls hl
  have hown : s.vm.findClass RX12 = some m.cls := hown
  have hl : lv_has ls 2 [(0, .ref (za G 77)), (1, .int q)] := hl
  have h8 := hr0.1
  refine lv_aload_n hx hb dX12_named_0 rfl (lv_at hl 0 rfl) ?_
  refine lv_iload_n hx hb dX12_named_1 rfl (lv_at hl 1 rfl) ?_
  refine z_calli (va_runV (As := [.int q]) (rest := []) ⟨hx, hb, hml, hown, hts⟩ ((c_X12_isPupil l hG x N q hr0) A) (cwV 1 hts gX12_named_X12_isPupil rfl rfl rfl (by decide +kernel) ⟨Nat.le_of_ble_eq_true rfl, Nat.le_of_ble_eq_true rfl⟩) (z_pV hI hK hN (z_recv hK hI (zo77 hG) rfl)) rfl rfl hl.1 rfl (lv_room (Nat.le_of_ble_eq_true rfl)) dX12_named_2 ⟨Nat.zero_le _, Nat.zero_le _⟩) hI (fun r_2 u H locs hw hI => ?_)
  obtain ⟨rfl, rfl⟩ := hw
  refine lv_if_eq (tgt := 16) hx hb dX12_named_5 (by decide) (fun c_5 => ?_) (fun c_5 => ?_)
  · skip
    rw [zb_0] at c_5
    refine lv_iconst (v := (-1)) hx hb dX12_named_16 rfl ?_
    exact z_iret hx hb hr hlocks hI (⟨rfl, if_neg c_5⟩) dX12_named_17
  · skip
    rw [zb_0, Classical.not_not] at c_5
    refine lv_aload_n hx hb dX12_named_8 rfl (lv_at hl 0 rfl) ?_
    refine lv_iload_n hx hb dX12_named_9 rfl (lv_at hl 1 rfl) ?_
    refine z_calli (va_runV (As := [.int q]) (rest := []) ⟨hx, hb, hml, hown, hts⟩ ((c_X12_namedOf l hG x N q hr0) A) (cwV 1 hts gX12_named_X12_namedOf rfl rfl rfl (by decide +kernel) ⟨Nat.le_of_ble_eq_true rfl, Nat.le_of_ble_eq_true rfl⟩) (z_pV hI hK hN (z_recv hK hI (zo77 hG) rfl)) rfl rfl hl.1 rfl (lv_room (Nat.le_of_ble_eq_true rfl)) dX12_named_10 ⟨Nat.zero_le _, Nat.zero_le _⟩) hI (fun r_10 u H locs hw hI => ?_)
    obtain ⟨rfl, rfl⟩ := hw
    refine lv_goto (tgt := 17) hx hb dX12_named_13 (by decide) ?_
    exact z_iret hx hb hr hlocks hI (⟨rfl, if_pos c_5⟩) dX12_named_17
set_option maxHeartbeats 4000000 in
set_option maxRecDepth 100000 in
theorem c_X12_isClosed (l : Launch) {G : zG} (hG : zOK G) (x : zX) (N : Nat) (y : Int32) (hr0 : zRef x N) : zMi l yX12_isClosed wsX12_isClosed { frames := 1, cells := 0, slots := 0, locals := 22 } G [.ref (za G 77), .int y] x (fun (r : Int32) (u : zX) => x = u ∧ (if zrcl x N y then nI 1 else nI 0) = r) := by
  intro A
  refine zBody (cc := cX12_isClosed) (maxL := 4) (ret := (some .boolean)) (by decide) rfl (Nat.le_of_ble_eq_true rfl) ?_
  intro p e s m below meth c hx hb hml hown hts hr hlocks hK hN hI ls hl
  have hown : s.vm.findClass RX12 = some m.cls := hown
  have hl : lv_has ls 4 [(0, .ref (za G 77)), (1, .int y)] := hl
  have hin12 : ∀ w ∈ wsX120, w ∈ wsX12_isClosed := (fun _ h => List.mem_cons_of_mem _ (List.mem_append_right _ (h)))
  have wF7 := hts (.fieldLink RX12 7 "WhoSitsByModel" "pupils" "I") (z_mem 1 rfl)
  have wF32 := hts (.fieldLink RX12 32 "WhoSitsByModel" "names" "[I") (z_mem 2 rfl)
  have h8 := hr0.1
  refine lv_iconst (v := (nI 0)) hx hb dX12_isClosed_0 rfl ?_
  refine lv_istore_n (lv' := [(2, .int (nI 0)), (0, .ref (za G 77)), (1, .int y)]) hx hb dX12_isClosed_1 rfl hl (by decide) rfl (fun ls hl => ?_)
  have L2 : ∀ (f : Nat) (j : Nat), (j ≤ N) → (∀ q, q < j → ((¬ x.1 83 q < 0 ∧ zhas y (x.1 83 q)) ↔ zhas y (nI q))) → N + 1 ≤ j + f → ∀ (H : Heap) (locs : List Loc), zI G x A s.heap H locs → ∀ ls : Array Slot, lv_has ls 4 [(0, .ref (za G 77)), (1, .int y), (2, .int (nI j))] → W p l e { frames := 1, cells := 0, slots := 0, locals := 22 } s m ([.ref (za G 77), .int y] : List Value).toArray below meth c H locs 0 0 (MQ below (va_Qi (fun (r : Int32) (u : zX) => x = u ∧ (if zrcl x N y then nI 1 else nI 0) = r) (fun u t => zJ G u A t.heap) A) ([.ref (za G 77), .int y] : List Value).toArray s 0 0 A) (F0 m 2 ls []) := by
    intro f
    induction f with
    | zero =>
      intro j h1 h2 hf
      exact absurd hf (by omega)
    | succ f ih =>
      intro j h1 h2 hf H locs hI ls hl
      have ih2 := ih
      refine lv_iload_n hx hb dX12_isClosed_2 rfl (lv_at hl 2 rfl) ?_
      refine lv_aload_n hx hb dX12_isClosed_3 rfl (lv_at hl 0 rfl) ?_
      refine z_get (C := RX12) (T := TX12) (N := 51) (ci := 12) (v := .int (nI N)) hx hb hts hin12 hown hK hI (zo77 hG) rfl 0 (by decide) wF7 (fun _ h9 => h9) (congrArg (fun q => some (Value.int q)) hr0.2.1) dX12_isClosed_4 ?_
      refine lv_icmp_ge (tgt := 57) hx hb dX12_isClosed_7 (by decide) (fun c_7 => ?_) (fun c_7 => ?_)
      · skip
        rw [zqG (by omega) (by omega)] at c_7
        refine lv_iconst (v := (nI 1)) hx hb dX12_isClosed_57 rfl ?_
        exact z_zret hx hb hr hlocks hI (Or.inr rfl) (⟨rfl, if_pos (fun q hq => h2 q (by omega))⟩) dX12_isClosed_58
      · skip
        rw [zqG (by omega) (by omega)] at c_7
        have J10 : ∀ (jv : Int32), jv = (if ¬ x.1 83 j < 0 ∧ zhas y (x.1 83 j) then nI 1 else nI 0) → ∀ (H : Heap) (locs : List Loc), zI G x A s.heap H locs → W p l e { frames := 1, cells := 0, slots := 0, locals := 22 } s m ([.ref (za G 77), .int y] : List Value).toArray below meth c H locs 0 0 (MQ below (va_Qi (fun (r : Int32) (u : zX) => x = u ∧ (if zrcl x N y then nI 1 else nI 0) = r) (fun u t => zJ G u A t.heap) A) ([.ref (za G 77), .int y] : List Value).toArray s 0 0 A) (F0 m 38 ls [.int jv]) := by
          intro jv hjv H locs hI
          subst hjv
          refine lv_istore_n (lv' := [(3, .int (if ¬ x.1 83 j < 0 ∧ zhas y (x.1 83 j) then nI 1 else nI 0)), (0, .ref (za G 77)), (1, .int y), (2, .int (nI j))]) hx hb dX12_isClosed_38 rfl hl (by decide) rfl (fun ls hl => ?_)
          refine lv_iload_n hx hb dX12_isClosed_39 rfl (lv_at hl 0 rfl) ?_
          refine lv_aload_n hx hb dX12_isClosed_40 rfl (lv_at hl 1 rfl) ?_
          refine lv_iload_n hx hb dX12_isClosed_41 rfl (lv_at hl 2 rfl) ?_
          refine lv_iload_n hx hb dX12_isClosed_42 rfl (lv_at hl 3 rfl) ?_
          refine z_calli (va_runV (As := [.int y, .int (nI j)]) (rest := [.int (if ¬ x.1 83 j < 0 ∧ zhas y (x.1 83 j) then nI 1 else nI 0)]) ⟨hx, hb, hml, hown, hts⟩ ((c_X12_has l hG x y (nI j)) A) (cwV 2 hts gX12_isClosed_X12_has rfl rfl rfl (by decide +kernel) ⟨Nat.le_of_ble_eq_true rfl, Nat.le_of_ble_eq_true rfl⟩) (z_pV hI hK hN (z_recv hK hI (zo77 hG) rfl)) rfl rfl hl.1 rfl (lv_room (Nat.le_of_ble_eq_true rfl)) dX12_isClosed_43 ⟨Nat.zero_le _, Nat.zero_le _⟩) hI (fun r_43 u H locs hw hI => ?_)
          obtain ⟨rfl, rfl⟩ := hw
          refine lv_icmp_eq (tgt := 51) hx hb dX12_isClosed_46 (by decide) (fun c_46 => ?_) (fun c_46 => ?_)
          · skip
            rw [zb_e] at c_46
            refine lv_iinc (v := (nI (j + 1))) (lv' := [(2, .int (nI (j + 1))), (3, .int (if ¬ x.1 83 j < 0 ∧ zhas y (x.1 83 j) then nI 1 else nI 0)), (0, .ref (za G 77)), (1, .int y)]) hx hb dX12_isClosed_51 hl (k := 3) rfl (zinc j) (by decide) rfl (fun ls hl => ?_)
            refine lv_goto (tgt := 2) hx hb dX12_isClosed_54 (by decide) ?_
            exact ih2 (j + 1) (by omega) (fun q hq => by rcases Nat.lt_or_ge q j with h | h; exact h2 q h; rw [show q = j by omega]; exact c_46) (by omega) _ _ hI ls (lv_sub hl [2, 3, 0] rfl)
          · skip
            rw [zb_e] at c_46
            refine lv_iconst (v := (nI 0)) hx hb dX12_isClosed_49 rfl ?_
            exact z_zret hx hb hr hlocks hI (Or.inl rfl) (⟨rfl, if_neg (fun h => c_46 (h j (by omega)))⟩) dX12_isClosed_50
        refine lv_aload_n hx hb dX12_isClosed_10 rfl (lv_at hl 0 rfl) ?_
        refine z_get (C := RX12) (T := TX12) (N := 51) (ci := 12) (v := .ref (za G 83)) hx hb hts hin12 hown hK hI (zo77 hG) rfl 7 (by decide) wF32 (fun _ h9 => h9) rfl dX12_isClosed_11 ?_
        refine lv_iload_n hx hb dX12_isClosed_14 rfl (lv_at hl 2 rfl) ?_
        refine z_iald (v := (x.1 83 j)) hx hb hK hI (zo83 hG) j rfl (by omega) (by decide) rfl dX12_isClosed_15 ?_
        refine lv_if_lt (tgt := 37) hx hb dX12_isClosed_16 (by decide) (fun c_16 => ?_) (fun c_16 => ?_)
        · skip
          refine lv_iconst (v := (nI 0)) hx hb dX12_isClosed_37 rfl ?_
          exact J10 _ (if_neg (fun h => h.1 c_16)).symm _ _ hI
        · skip
          refine lv_aload_n hx hb dX12_isClosed_19 rfl (lv_at hl 0 rfl) ?_
          refine lv_iload_n hx hb dX12_isClosed_20 rfl (lv_at hl 1 rfl) ?_
          refine lv_aload_n hx hb dX12_isClosed_21 rfl (lv_at hl 0 rfl) ?_
          refine z_get (C := RX12) (T := TX12) (N := 51) (ci := 12) (v := .ref (za G 83)) hx hb hts hin12 hown hK hI (zo77 hG) rfl 7 (by decide) wF32 (fun _ h9 => h9) rfl dX12_isClosed_22 ?_
          refine lv_iload_n hx hb dX12_isClosed_25 rfl (lv_at hl 2 rfl) ?_
          refine z_iald (v := (x.1 83 j)) hx hb hK hI (zo83 hG) j rfl (by omega) (by decide) rfl dX12_isClosed_26 ?_
          refine z_calli (va_runV (As := [.int y, .int (x.1 83 j)]) (rest := []) ⟨hx, hb, hml, hown, hts⟩ ((c_X12_has l hG x y (x.1 83 j)) A) (cwV 2 hts gX12_isClosed_X12_has rfl rfl rfl (by decide +kernel) ⟨Nat.le_of_ble_eq_true rfl, Nat.le_of_ble_eq_true rfl⟩) (z_pV hI hK hN (z_recv hK hI (zo77 hG) rfl)) rfl rfl hl.1 rfl (lv_room (Nat.le_of_ble_eq_true rfl)) dX12_isClosed_27 ⟨Nat.zero_le _, Nat.zero_le _⟩) hI (fun r_27 u H locs hw hI => ?_)
          obtain ⟨rfl, rfl⟩ := hw
          refine lv_if_eq (tgt := 37) hx hb dX12_isClosed_30 (by decide) (fun c_30 => ?_) (fun c_30 => ?_)
          · skip
            rw [zb_0] at c_30
            refine lv_iconst (v := (nI 0)) hx hb dX12_isClosed_37 rfl ?_
            exact J10 _ (if_neg (fun h => c_30 h.2)).symm _ _ hI
          · skip
            rw [zb_0, Classical.not_not] at c_30
            refine lv_iconst (v := (nI 1)) hx hb dX12_isClosed_33 rfl ?_
            refine lv_goto (tgt := 38) hx hb dX12_isClosed_34 (by decide) ?_
            exact J10 _ (if_pos ⟨c_16, c_30⟩).symm _ _ hI
  exact L2 (N + 1) 0 (by omega) (fun q hq => absurd hq (by omega)) (by omega) _ _ hI ls (lv_sub hl [1, 2, 0] rfl)
set_option maxHeartbeats 4000000 in
set_option maxRecDepth 100000 in
theorem c_X12_pairOf (l : Launch) {G : zG} (hG : zOK G) (x : zX) (a b : Nat) (h1 : a < 8) (h2 : b < 8) : zMi l yX12_pairOf wsX12_pairOf { frames := 0, cells := 0, slots := 0, locals := 0 } G [.ref (za G 77), .int (nI a), .int (nI b)] x (fun (r : Int32) (u : zX) => x = u ∧ nI (if a < b then 8 * a + b else 8 * b + a) = r) := by
  intro A
  refine zBody (cc := cX12_pairOf) (maxL := 3) (ret := (some .int)) (by decide) rfl (Nat.le_of_ble_eq_true rfl) ?_
  intro p e s m below meth c hx hb hml hown hts hr hlocks hK hN hI ls hl
  have hown : s.vm.findClass RX12 = some m.cls := hown
  have hl : lv_has ls 3 [(0, .ref (za G 77)), (1, .int (nI a)), (2, .int (nI b))] := hl
  refine lv_iload_n hx hb dX12_pairOf_0 rfl (lv_at hl 1 rfl) ?_
  refine lv_iload_n hx hb dX12_pairOf_1 rfl (lv_at hl 2 rfl) ?_
  refine lv_icmp_ge (tgt := 14) hx hb dX12_pairOf_2 (by decide) (fun c_2 => ?_) (fun c_2 => ?_)
  · skip
    rw [zqG (by omega) (by omega)] at c_2
    refine lv_bipush (v := (nI 8)) hx hb dX12_pairOf_14 rfl ?_
    refine lv_iload_n hx hb dX12_pairOf_16 rfl (lv_at hl 2 rfl) ?_
    refine z_imul (v := (nI (8 * b))) hx hb (pk_mul _ _) dX12_pairOf_17 ?_
    refine lv_iload_n hx hb dX12_pairOf_18 rfl (lv_at hl 1 rfl) ?_
    refine z_iadd (v := (nI ((8 * b) + a))) hx hb (nI_add _ _) dX12_pairOf_19 ?_
    exact z_iret hx hb hr hlocks hI (⟨rfl, by rw [if_neg (by omega)]⟩) dX12_pairOf_20
  · skip
    rw [zqG (by omega) (by omega)] at c_2
    refine lv_bipush (v := (nI 8)) hx hb dX12_pairOf_5 rfl ?_
    refine lv_iload_n hx hb dX12_pairOf_7 rfl (lv_at hl 1 rfl) ?_
    refine z_imul (v := (nI (8 * a))) hx hb (pk_mul _ _) dX12_pairOf_8 ?_
    refine lv_iload_n hx hb dX12_pairOf_9 rfl (lv_at hl 2 rfl) ?_
    refine z_iadd (v := (nI ((8 * a) + b))) hx hb (nI_add _ _) dX12_pairOf_10 ?_
    refine lv_goto (tgt := 20) hx hb dX12_pairOf_11 (by decide) ?_
    exact z_iret hx hb hr hlocks hI (⟨rfl, by rw [if_pos (by omega)]⟩) dX12_pairOf_20
set_option maxHeartbeats 4000000 in
set_option maxRecDepth 100000 in
theorem c_X12_areNear (l : Launch) {G : zG} (hG : zOK G) (x : zX) (N a b : Nat) (hr0 : zRef x N) (h1 : a < N) (h2 : b < N) : zMi l yX12_areNear wsX12_areNear { frames := 0, cells := 0, slots := 0, locals := 0 } G [.ref (za G 77), .int (nI a), .int (nI b)] x (fun (r : Int32) (u : zX) => x = u ∧ (if znr (zse x a) (zse x b) then nI 1 else nI 0) = r) := by
  intro A
  refine zBody (cc := cX12_areNear) (maxL := 4) (ret := (some .boolean)) (by decide) rfl (Nat.le_of_ble_eq_true rfl) ?_
  intro p e s m below meth c hx hb hml hown hts hr hlocks hK hN hI ls hl
  have hown : s.vm.findClass RX12 = some m.cls := hown
  have hl : lv_has ls 4 [(0, .ref (za G 77)), (1, .int (nI a)), (2, .int (nI b))] := hl
  have hin12 : ∀ w ∈ wsX120, w ∈ wsX12_areNear := (fun _ h => List.mem_cons_of_mem _ (List.mem_append_right _ (h)))
  have wF35 := hts (.fieldLink RX12 35 "WhoSitsByModel" "seat" "[I") (z_mem 1 rfl)
  have h8 := hr0.1
  have ha8 := (zse_of hr0 h1).2
  have hb8 := (zse_of hr0 h2).2
  refine lv_aload_n hx hb dX12_areNear_0 rfl (lv_at hl 0 rfl) ?_
  refine z_get (C := RX12) (T := TX12) (N := 51) (ci := 12) (v := .ref (za G 84)) hx hb hts hin12 hown hK hI (zo77 hG) rfl 8 (by decide) wF35 (fun _ h9 => h9) rfl dX12_areNear_1 ?_
  refine lv_iload_n hx hb dX12_areNear_4 rfl (lv_at hl 1 rfl) ?_
  refine z_iald (v := (nI (zse x a))) hx hb hK hI (zo84 hG) a rfl (by omega) (by decide) (zse_of hr0 (by omega)).1 dX12_areNear_5 ?_
  refine lv_iconst (v := (nI 2)) hx hb dX12_areNear_6 rfl ?_
  refine z_idiv (v := (nI (zse x a / 2))) hx hb (pk_div (by omega) (by omega) (by omega)) dX12_areNear_7 (by decide) ?_
  refine lv_aload_n hx hb dX12_areNear_8 rfl (lv_at hl 0 rfl) ?_
  refine z_get (C := RX12) (T := TX12) (N := 51) (ci := 12) (v := .ref (za G 84)) hx hb hts hin12 hown hK hI (zo77 hG) rfl 8 (by decide) wF35 (fun _ h9 => h9) rfl dX12_areNear_9 ?_
  refine lv_iload_n hx hb dX12_areNear_12 rfl (lv_at hl 2 rfl) ?_
  refine z_iald (v := (nI (zse x b))) hx hb hK hI (zo84 hG) b rfl (by omega) (by decide) (zse_of hr0 (by omega)).1 dX12_areNear_13 ?_
  refine lv_iconst (v := (nI 2)) hx hb dX12_areNear_14 rfl ?_
  refine z_idiv (v := (nI (zse x b / 2))) hx hb (pk_div (by omega) (by omega) (by omega)) dX12_areNear_15 (by decide) ?_
  refine lv_ixor hx hb dX12_areNear_16 ?_
  refine lv_istore_n (lv' := [(3, .int ((nI (zse x a / 2)) ^^^ (nI (zse x b / 2)))), (0, .ref (za G 77)), (1, .int (nI a)), (2, .int (nI b))]) hx hb dX12_areNear_17 rfl hl (by decide) rfl (fun ls hl => ?_)
  refine lv_iload_n hx hb dX12_areNear_18 rfl (lv_at hl 0 rfl) ?_
  refine lv_iconst (v := (nI 3)) hx hb dX12_areNear_19 rfl ?_
  refine lv_icmp_ge (tgt := 27) hx hb dX12_areNear_20 (by decide) (fun c_20 => ?_) (fun c_20 => ?_)
  · skip
    refine lv_iconst (v := (nI 0)) hx hb dX12_areNear_27 rfl ?_
    exact z_zret hx hb hr hlocks hI (Or.inl rfl) (⟨rfl, if_neg (fun h => z_nle c_20 ((znear3 ha8 hb8).mpr h))⟩) dX12_areNear_28
  · skip
    refine lv_iconst (v := (nI 1)) hx hb dX12_areNear_23 rfl ?_
    refine lv_goto (tgt := 28) hx hb dX12_areNear_24 (by decide) ?_
    exact z_zret hx hb hr hlocks hI (Or.inr rfl) (⟨rfl, if_pos ((znear3 ha8 hb8).mp (z_le c_20))⟩) dX12_areNear_28
set_option maxHeartbeats 4000000 in
set_option maxRecDepth 100000 in
theorem c_X12_first (l : Launch) {G : zG} (hG : zOK G) (x : zX) (F C : Nat) (hcl : zClR x F C) : zMi l yX12_first wsX12_first { frames := 0, cells := 0, slots := 0, locals := 0 } G [.ref (za G 77)] x (fun (r : Int32) (u : zX) => x = u ∧ nI F = r) := by
  intro A
  refine zBody (cc := cX12_first) (maxL := 1) (ret := (some .int)) (by decide) rfl (Nat.le_of_ble_eq_true rfl) ?_
  intro p e s m below meth c hx hb hml hown hts hr hlocks hK hN hI ls hl
  have hown : s.vm.findClass RX12 = some m.cls := hown
  have hl : lv_has ls 1 [(0, .ref (za G 77))] := hl
  have hin12 : ∀ w ∈ wsX120, w ∈ wsX12_first := (fun _ h => List.mem_cons_of_mem _ (List.mem_append_right _ (h)))
  have wF51 := hts (.fieldLink RX12 51 "WhoSitsByModel" "the" "I") (z_mem 1 rfl)
  refine lv_aload_n hx hb dX12_first_0 rfl (lv_at hl 0 rfl) ?_
  refine z_get (C := RX12) (T := TX12) (N := 51) (ci := 12) (v := .int (x.1 77 13)) hx hb hts hin12 hown hK hI (zo77 hG) rfl 13 (by decide) wF51 (fun _ h9 => h9) rfl dX12_first_1 ?_
  refine lv_if_ge (tgt := 11) hx hb dX12_first_4 (by decide) (fun c_4 => ?_) (fun c_4 => ?_)
  · skip
    refine lv_bipush (v := (nI 10)) hx hb dX12_first_11 rfl ?_
    refine lv_aload_n hx hb dX12_first_13 rfl (lv_at hl 0 rfl) ?_
    refine z_get (C := RX12) (T := TX12) (N := 51) (ci := 12) (v := .int (x.1 77 13)) hx hb hts hin12 hown hK hI (zo77 hG) rfl 13 (by decide) wF51 (fun _ h9 => h9) rfl dX12_first_14 ?_
    refine lv_imul hx hb dX12_first_17 ?_
    exact z_iret hx hb hr hlocks hI (⟨rfl, Or.elim hcl (fun ⟨h, _, _⟩ => absurd c_4 (z_ngt h)) (fun ⟨r, h0, h, hF, _, _⟩ => by rw [h, hF]; exact (pk_mul 10 r).symm)⟩) dX12_first_18
  · skip
    refine lv_iconst (v := (nI 0)) hx hb dX12_first_7 rfl ?_
    refine lv_goto (tgt := 18) hx hb dX12_first_8 (by decide) ?_
    exact z_iret hx hb hr hlocks hI (⟨rfl, Or.elim hcl (fun ⟨_, hF, _⟩ => by rw [hF]) (fun ⟨r, h0, h, hF, _, _⟩ => absurd (by rw [h]; exact nI_pos' (by omega)) c_4)⟩) dX12_first_18
set_option maxHeartbeats 4000000 in
set_option maxRecDepth 100000 in
theorem c_X12_behind (l : Launch) {G : zG} (hG : zOK G) (x : zX) (F C : Nat) (hcl : zClR x F C) : zMi l yX12_behind wsX12_behind { frames := 0, cells := 0, slots := 0, locals := 0 } G [.ref (za G 77)] x (fun (r : Int32) (u : zX) => x = u ∧ nI (F + C) = r) := by
  intro A
  refine zBody (cc := cX12_behind) (maxL := 1) (ret := (some .int)) (by decide) rfl (Nat.le_of_ble_eq_true rfl) ?_
  intro p e s m below meth c hx hb hml hown hts hr hlocks hK hN hI ls hl
  have hown : s.vm.findClass RX12 = some m.cls := hown
  have hl : lv_has ls 1 [(0, .ref (za G 77))] := hl
  have hin12 : ∀ w ∈ wsX120, w ∈ wsX12_behind := (fun _ h => List.mem_cons_of_mem _ (List.mem_append_right _ (h)))
  have wF51 := hts (.fieldLink RX12 51 "WhoSitsByModel" "the" "I") (z_mem 1 rfl)
  have wF66 := hts (.fieldLink RX12 66 "WhoSitsByModel" "clauses" "[I") (z_mem 2 rfl)
  refine lv_aload_n hx hb dX12_behind_0 rfl (lv_at hl 0 rfl) ?_
  refine z_get (C := RX12) (T := TX12) (N := 51) (ci := 12) (v := .int (x.1 77 13)) hx hb hts hin12 hown hK hI (zo77 hG) rfl 13 (by decide) wF51 (fun _ h9 => h9) rfl dX12_behind_1 ?_
  refine lv_if_ge (tgt := 11) hx hb dX12_behind_4 (by decide) (fun c_4 => ?_) (fun c_4 => ?_)
  · skip
    have hcl2 := hcl
    rcases hcl with ⟨h, -, -⟩ | ⟨r, h0, h, hF, hc, -⟩
    · exact absurd c_4 (z_ngt h)
    refine lv_bipush (v := (nI 10)) hx hb dX12_behind_11 rfl ?_
    refine lv_aload_n hx hb dX12_behind_13 rfl (lv_at hl 0 rfl) ?_
    refine z_get (C := RX12) (T := TX12) (N := 51) (ci := 12) (v := .int (x.1 77 13)) hx hb hts hin12 hown hK hI (zo77 hG) rfl 13 (by decide) wF51 (fun _ h9 => h9) rfl dX12_behind_14 ?_
    refine z_imul (v := (nI (10 * r))) hx hb (by rw [h]; exact pk_mul 10 r) dX12_behind_17 ?_
    refine lv_aload_n hx hb dX12_behind_18 rfl (lv_at hl 0 rfl) ?_
    refine z_get (C := RX12) (T := TX12) (N := 51) (ci := 12) (v := .ref (za G 89)) hx hb hts hin12 hown hK hI (zo77 hG) rfl 18 (by decide) wF66 (fun _ h9 => h9) rfl dX12_behind_19 ?_
    refine lv_aload_n hx hb dX12_behind_22 rfl (lv_at hl 0 rfl) ?_
    refine z_get (C := RX12) (T := TX12) (N := 51) (ci := 12) (v := .int (x.1 77 13)) hx hb hts hin12 hown hK hI (zo77 hG) rfl 13 (by decide) wF51 (fun _ h9 => h9) rfl dX12_behind_23 ?_
    refine z_iald (v := (nI C)) hx hb hK hI (zo89 hG) r h h0 (by decide) hc dX12_behind_26 ?_
    refine z_iadd (v := (nI ((10 * r) + C))) hx hb (nI_add _ _) dX12_behind_27 ?_
    exact z_iret hx hb hr hlocks hI (⟨rfl, by rw [hF]⟩) dX12_behind_28
  · skip
    refine lv_iconst (v := (nI 0)) hx hb dX12_behind_7 rfl ?_
    refine lv_goto (tgt := 28) hx hb dX12_behind_8 (by decide) ?_
    exact z_iret hx hb hr hlocks hI (⟨rfl, Or.elim hcl (fun ⟨_, hF, hC⟩ => by rw [hF, hC]) (fun ⟨r, h0, h, hF, _, _⟩ => absurd (by rw [h]; exact nI_pos' (by omega)) c_4)⟩) dX12_behind_28
set_option maxHeartbeats 4000000 in
set_option maxRecDepth 100000 in
theorem c_X12_hushNow (l : Launch) {G : zG} (hG : zOK G) (x : zX) (F C : Nat) (hcl : zClR x F C) : zMi l yX12_hushNow wsX12_hushNow { frames := 1, cells := 0, slots := 0, locals := 20 } G [.ref (za G 77)] x (fun (r : Int32) (u : zX) => x = u ∧ zhush (x.1 90) (x.1 91) F C = r) := by
  intro A
  refine zBody (cc := cX12_hushNow) (maxL := 3) (ret := (some .int)) (by decide) rfl (Nat.le_of_ble_eq_true rfl) ?_
  intro p e s m below meth c hx hb hml hown hts hr hlocks hK hN hI ls hl
  have hown : s.vm.findClass RX12 = some m.cls := hown
  have hl : lv_has ls 3 [(0, .ref (za G 77))] := hl
  have hin12 : ∀ w ∈ wsX120, w ∈ wsX12_hushNow := (fun _ h => List.mem_cons_of_mem _ (List.mem_append_right _ (h)))
  have wF69 := hts (.fieldLink RX12 69 "WhoSitsByModel" "word" "[I") (z_mem 1 rfl)
  have wF72 := hts (.fieldLink RX12 72 "WhoSitsByModel" "number" "[I") (z_mem 2 rfl)
  have hb6 := zClR_b hcl
  refine lv_iconst (v := (nI 5)) hx hb dX12_hushNow_0 rfl ?_
  refine lv_istore_n (lv' := [(1, .int (nI 5)), (0, .ref (za G 77))]) hx hb dX12_hushNow_1 rfl hl (by decide) rfl (fun ls hl => ?_)
  refine lv_aload_n hx hb dX12_hushNow_2 rfl (lv_at hl 1 rfl) ?_
  refine z_calli (va_runV (As := []) (rest := []) ⟨hx, hb, hml, hown, hts⟩ ((c_X12_first l hG x F C hcl) A) (cwV 0 hts gX12_hushNow_X12_first rfl rfl rfl (by decide +kernel) ⟨Nat.le_of_ble_eq_true rfl, Nat.le_of_ble_eq_true rfl⟩) (z_pV hI hK hN (z_recv hK hI (zo77 hG) rfl)) rfl rfl hl.1 rfl (lv_room (Nat.le_of_ble_eq_true rfl)) dX12_hushNow_3 ⟨Nat.zero_le _, Nat.zero_le _⟩) hI (fun r_3 u H locs hw hI => ?_)
  obtain ⟨rfl, rfl⟩ := hw
  refine lv_istore_n (lv' := [(2, .int (nI F)), (1, .int (nI 5)), (0, .ref (za G 77))]) hx hb dX12_hushNow_6 rfl hl (by decide) rfl (fun ls hl => ?_)
  have L7 : ∀ (f : Nat) (i : Nat) (j : Nat) (a : Int32), (i = F + j) → (j ≤ C) → (a = zhush (x.1 90) (x.1 91) F j) → C + 1 ≤ j + f → ∀ (H : Heap) (locs : List Loc), zI G x A s.heap H locs → ∀ ls : Array Slot, lv_has ls 3 [(0, .ref (za G 77)), (1, .int a), (2, .int (nI i))] → W p l e { frames := 1, cells := 0, slots := 0, locals := 20 } s m ([.ref (za G 77)] : List Value).toArray below meth c H locs 0 0 (MQ below (va_Qi (fun (r : Int32) (u : zX) => x = u ∧ zhush (x.1 90) (x.1 91) F C = r) (fun u t => zJ G u A t.heap) A) ([.ref (za G 77)] : List Value).toArray s 0 0 A) (F0 m 7 ls []) := by
    intro f
    induction f with
    | zero =>
      intro i j a h0 h1 h2 hf
      exact absurd hf (by omega)
    | succ f ih =>
      intro i j a h0 h1 h2 hf H locs hI ls hl
      have ih7 := ih
      refine lv_iload_n hx hb dX12_hushNow_7 rfl (lv_at hl 2 rfl) ?_
      refine lv_aload_n hx hb dX12_hushNow_8 rfl (lv_at hl 0 rfl) ?_
      refine z_calli (va_runV (As := []) (rest := [.int (nI i)]) ⟨hx, hb, hml, hown, hts⟩ ((c_X12_behind l hG x F C hcl) A) (cwV 0 hts gX12_hushNow_X12_behind rfl rfl rfl (by decide +kernel) ⟨Nat.le_of_ble_eq_true rfl, Nat.le_of_ble_eq_true rfl⟩) (z_pV hI hK hN (z_recv hK hI (zo77 hG) rfl)) rfl rfl hl.1 rfl (lv_room (Nat.le_of_ble_eq_true rfl)) dX12_hushNow_9 ⟨Nat.zero_le _, Nat.zero_le _⟩) hI (fun r_9 u H locs hw hI => ?_)
      obtain ⟨rfl, rfl⟩ := hw
      refine lv_icmp_ge (tgt := 42) hx hb dX12_hushNow_12 (by decide) (fun c_12 => ?_) (fun c_12 => ?_)
      · skip
        rw [zqG (by omega) (by omega)] at c_12
        refine lv_iload_n hx hb dX12_hushNow_42 rfl (lv_at hl 1 rfl) ?_
        exact z_iret hx hb hr hlocks hI (⟨rfl, by rw [h2, show j = C by omega]⟩) dX12_hushNow_43
      · skip
        rw [zqG (by omega) (by omega)] at c_12
        refine lv_aload_n hx hb dX12_hushNow_15 rfl (lv_at hl 0 rfl) ?_
        refine z_get (C := RX12) (T := TX12) (N := 51) (ci := 12) (v := .ref (za G 90)) hx hb hts hin12 hown hK hI (zo77 hG) rfl 19 (by decide) wF69 (fun _ h9 => h9) rfl dX12_hushNow_16 ?_
        refine lv_iload_n hx hb dX12_hushNow_19 rfl (lv_at hl 2 rfl) ?_
        refine z_iald (v := (x.1 90 i)) hx hb hK hI (zo90 hG) i rfl (by omega) (by decide) rfl dX12_hushNow_20 ?_
        refine lv_iconst (v := (nI 3)) hx hb dX12_hushNow_21 rfl ?_
        refine lv_icmp_ne (tgt := 34) hx hb dX12_hushNow_22 (by decide) (fun c_22 => ?_) (fun c_22 => ?_)
        · skip
          refine lv_iload_n hx hb dX12_hushNow_34 rfl (lv_at hl 1 rfl) ?_
          refine lv_istore_n (lv' := [(1, .int a), (0, .ref (za G 77)), (2, .int (nI i))]) hx hb dX12_hushNow_35 rfl hl (by decide) rfl (fun ls hl => ?_)
          refine lv_iinc (v := (nI (i + 1))) (lv' := [(2, .int (nI (i + 1))), (1, .int a), (0, .ref (za G 77))]) hx hb dX12_hushNow_36 hl (k := 2) rfl (zinc i) (by decide) rfl (fun ls hl => ?_)
          refine lv_goto (tgt := 7) hx hb dX12_hushNow_39 (by decide) ?_
          exact ih7 (i + 1) (j + 1) a (by omega) (by omega) (by subst h0; exact ((if_neg c_22).trans h2.symm).symm) (by omega) _ _ hI ls (lv_sub hl [2, 1, 0] rfl)
        · skip
          refine lv_aload_n hx hb dX12_hushNow_25 rfl (lv_at hl 0 rfl) ?_
          refine z_get (C := RX12) (T := TX12) (N := 51) (ci := 12) (v := .ref (za G 91)) hx hb hts hin12 hown hK hI (zo77 hG) rfl 20 (by decide) wF72 (fun _ h9 => h9) rfl dX12_hushNow_26 ?_
          refine lv_iload_n hx hb dX12_hushNow_29 rfl (lv_at hl 2 rfl) ?_
          refine z_iald (v := (x.1 91 i)) hx hb hK hI (zo91 hG) i rfl (by omega) (by decide) rfl dX12_hushNow_30 ?_
          refine lv_goto (tgt := 35) hx hb dX12_hushNow_31 (by decide) ?_
          refine lv_istore_n (lv' := [(1, .int (x.1 91 i)), (0, .ref (za G 77)), (2, .int (nI i))]) hx hb dX12_hushNow_35 rfl hl (by decide) rfl (fun ls hl => ?_)
          refine lv_iinc (v := (nI (i + 1))) (lv' := [(2, .int (nI (i + 1))), (1, .int (x.1 91 i)), (0, .ref (za G 77))]) hx hb dX12_hushNow_36 hl (k := 2) rfl (zinc i) (by decide) rfl (fun ls hl => ?_)
          refine lv_goto (tgt := 7) hx hb dX12_hushNow_39 (by decide) ?_
          exact ih7 (i + 1) (j + 1) (x.1 91 i) (by omega) (by omega) (by subst h0; exact (if_pos c_22).symm) (by omega) _ _ hI ls (lv_sub hl [2, 1, 0] rfl)
  exact L7 (C + 1) F 0 (nI 5) (by omega) (by omega) rfl (by omega) _ _ hI ls (lv_sub hl [2, 1, 0] rfl)
set_option maxHeartbeats 4000000 in
set_option maxRecDepth 100000 in
theorem c_X12_noiseOf (l : Launch) {G : zG} (hG : zOK G) (x : zX) (N : Nat) (b : Int32) (hr0 : zRef x N) : zMi l yX12_noiseOf wsX12_noiseOf { frames := 1, cells := 0, slots := 0, locals := 22 } G [.ref (za G 77), .int b] x (fun (r : Int32) (u : zX) => x = u ∧ znoiseR x b N = r) := by
  intro A
  refine zBody (cc := cX12_noiseOf) (maxL := 4) (ret := (some .int)) (by decide) rfl (Nat.le_of_ble_eq_true rfl) ?_
  intro p e s m below meth c hx hb hml hown hts hr hlocks hK hN hI ls hl
  have hown : s.vm.findClass RX12 = some m.cls := hown
  have hl : lv_has ls 4 [(0, .ref (za G 77)), (1, .int b)] := hl
  have hin12 : ∀ w ∈ wsX120, w ∈ wsX12_noiseOf := (fun _ h => List.mem_cons_of_mem _ (List.mem_append_right _ (h)))
  have wF7 := hts (.fieldLink RX12 7 "WhoSitsByModel" "pupils" "I") (z_mem 1 rfl)
  have wF23 := hts (.fieldLink RX12 23 "WhoSitsByModel" "talks" "[I") (z_mem 2 rfl)
  have h8 := hr0.1
  refine lv_iconst (v := (nI 0)) hx hb dX12_noiseOf_0 rfl ?_
  refine lv_istore_n (lv' := [(2, .int (nI 0)), (0, .ref (za G 77)), (1, .int b)]) hx hb dX12_noiseOf_1 rfl hl (by decide) rfl (fun ls hl => ?_)
  refine lv_iconst (v := (nI 0)) hx hb dX12_noiseOf_2 rfl ?_
  refine lv_istore_n (lv' := [(3, .int (nI 0)), (2, .int (nI 0)), (0, .ref (za G 77)), (1, .int b)]) hx hb dX12_noiseOf_3 rfl hl (by decide) rfl (fun ls hl => ?_)
  have L4 : ∀ (f : Nat) (j : Nat) (a : Int32), (j ≤ N) → (a = znoiseR x b j) → N + 1 ≤ j + f → ∀ (H : Heap) (locs : List Loc), zI G x A s.heap H locs → ∀ ls : Array Slot, lv_has ls 4 [(0, .ref (za G 77)), (1, .int b), (2, .int a), (3, .int (nI j))] → W p l e { frames := 1, cells := 0, slots := 0, locals := 22 } s m ([.ref (za G 77), .int b] : List Value).toArray below meth c H locs 0 0 (MQ below (va_Qi (fun (r : Int32) (u : zX) => x = u ∧ znoiseR x b N = r) (fun u t => zJ G u A t.heap) A) ([.ref (za G 77), .int b] : List Value).toArray s 0 0 A) (F0 m 4 ls []) := by
    intro f
    induction f with
    | zero =>
      intro j a h1 h2 hf
      exact absurd hf (by omega)
    | succ f ih =>
      intro j a h1 h2 hf H locs hI ls hl
      have ih4 := ih
      refine lv_iload_n hx hb dX12_noiseOf_4 rfl (lv_at hl 3 rfl) ?_
      refine lv_aload_n hx hb dX12_noiseOf_5 rfl (lv_at hl 0 rfl) ?_
      refine z_get (C := RX12) (T := TX12) (N := 51) (ci := 12) (v := .int (nI N)) hx hb hts hin12 hown hK hI (zo77 hG) rfl 0 (by decide) wF7 (fun _ h9 => h9) (congrArg (fun q => some (Value.int q)) hr0.2.1) dX12_noiseOf_6 ?_
      refine lv_icmp_ge (tgt := 40) hx hb dX12_noiseOf_9 (by decide) (fun c_9 => ?_) (fun c_9 => ?_)
      · skip
        rw [zqG (by omega) (by omega)] at c_9
        refine lv_iload_n hx hb dX12_noiseOf_40 rfl (lv_at hl 2 rfl) ?_
        exact z_iret hx hb hr hlocks hI (⟨rfl, by rw [h2, show j = N by omega]⟩) dX12_noiseOf_41
      · skip
        rw [zqG (by omega) (by omega)] at c_9
        refine lv_iload_n hx hb dX12_noiseOf_12 rfl (lv_at hl 2 rfl) ?_
        refine lv_aload_n hx hb dX12_noiseOf_13 rfl (lv_at hl 0 rfl) ?_
        refine lv_iload_n hx hb dX12_noiseOf_14 rfl (lv_at hl 1 rfl) ?_
        refine lv_iload_n hx hb dX12_noiseOf_15 rfl (lv_at hl 3 rfl) ?_
        refine z_calli (va_runV (As := [.int b, .int (nI j)]) (rest := [.int a]) ⟨hx, hb, hml, hown, hts⟩ ((c_X12_has l hG x b (nI j)) A) (cwV 2 hts gX12_noiseOf_X12_has rfl rfl rfl (by decide +kernel) ⟨Nat.le_of_ble_eq_true rfl, Nat.le_of_ble_eq_true rfl⟩) (z_pV hI hK hN (z_recv hK hI (zo77 hG) rfl)) rfl rfl hl.1 rfl (lv_room (Nat.le_of_ble_eq_true rfl)) dX12_noiseOf_16 ⟨Nat.zero_le _, Nat.zero_le _⟩) hI (fun r_16 u H locs hw hI => ?_)
        obtain ⟨rfl, rfl⟩ := hw
        refine lv_if_eq (tgt := 31) hx hb dX12_noiseOf_19 (by decide) (fun c_19 => ?_) (fun c_19 => ?_)
        · skip
          rw [zb_0] at c_19
          refine lv_iconst (v := (nI 0)) hx hb dX12_noiseOf_31 rfl ?_
          refine lv_iadd hx hb dX12_noiseOf_32 ?_
          refine lv_istore_n (lv' := [(2, .int (a + (nI 0))), (0, .ref (za G 77)), (1, .int b), (3, .int (nI j))]) hx hb dX12_noiseOf_33 rfl hl (by decide) rfl (fun ls hl => ?_)
          refine lv_iinc (v := (nI (j + 1))) (lv' := [(3, .int (nI (j + 1))), (2, .int (a + (nI 0))), (0, .ref (za G 77)), (1, .int b)]) hx hb dX12_noiseOf_34 hl (k := 3) rfl (zinc j) (by decide) rfl (fun ls hl => ?_)
          refine lv_goto (tgt := 4) hx hb dX12_noiseOf_37 (by decide) ?_
          exact ih4 (j + 1) (a + (nI 0)) (by omega) (zsum_t h2 (by rw [if_neg c_19]; rfl)) (by omega) _ _ hI ls (lv_sub hl [2, 3, 1, 0] rfl)
        · skip
          rw [zb_0, Classical.not_not] at c_19
          refine lv_aload_n hx hb dX12_noiseOf_22 rfl (lv_at hl 0 rfl) ?_
          refine z_get (C := RX12) (T := TX12) (N := 51) (ci := 12) (v := .ref (za G 80)) hx hb hts hin12 hown hK hI (zo77 hG) rfl 4 (by decide) wF23 (fun _ h9 => h9) rfl dX12_noiseOf_23 ?_
          refine lv_iload_n hx hb dX12_noiseOf_26 rfl (lv_at hl 3 rfl) ?_
          refine z_iald (v := (x.1 80 j)) hx hb hK hI (zo80 hG) j rfl (by omega) (by decide) rfl dX12_noiseOf_27 ?_
          refine lv_goto (tgt := 32) hx hb dX12_noiseOf_28 (by decide) ?_
          refine lv_iadd hx hb dX12_noiseOf_32 ?_
          refine lv_istore_n (lv' := [(2, .int (a + (x.1 80 j))), (0, .ref (za G 77)), (1, .int b), (3, .int (nI j))]) hx hb dX12_noiseOf_33 rfl hl (by decide) rfl (fun ls hl => ?_)
          refine lv_iinc (v := (nI (j + 1))) (lv' := [(3, .int (nI (j + 1))), (2, .int (a + (x.1 80 j))), (0, .ref (za G 77)), (1, .int b)]) hx hb dX12_noiseOf_34 hl (k := 3) rfl (zinc j) (by decide) rfl (fun ls hl => ?_)
          refine lv_goto (tgt := 4) hx hb dX12_noiseOf_37 (by decide) ?_
          exact ih4 (j + 1) (a + (x.1 80 j)) (by omega) (zsum_t h2 (if_pos c_19)) (by omega) _ _ hI ls (lv_sub hl [2, 3, 1, 0] rfl)
  exact L4 (N + 1) 0 (nI 0) (by omega) rfl (by omega) _ _ hI ls (lv_sub hl [2, 3, 1, 0] rfl)
set_option maxHeartbeats 4000000 in
set_option maxRecDepth 100000 in
theorem c_X12_talkBehind (l : Launch) {G : zG} (hG : zOK G) (x : zX) (N F C : Nat) (b w : Int32) (hr0 : zRef x N) (hcl : zClR x F C) : zMi l yX12_talkBehind wsX12_talkBehind { frames := 2, cells := 0, slots := 0, locals := 42 } G [.ref (za G 77), .int b, .int w] x (fun (r : Int32) (u : zX) => x = u ∧ zbehind x b (zhush (x.1 90) (x.1 91) F C) w N = r) := by
  intro A
  refine zBody (cc := cX12_talkBehind) (maxL := 9) (ret := (some .int)) (by decide) rfl (Nat.le_of_ble_eq_true rfl) ?_
  intro p e s m below meth c hx hb hml hown hts hr hlocks hK hN hI ls hl
  have hown : s.vm.findClass RX12 = some m.cls := hown
  have hl : lv_has ls 9 [(0, .ref (za G 77)), (1, .int b), (2, .int w)] := hl
  have hin12 : ∀ w ∈ wsX120, w ∈ wsX12_talkBehind := (fun _ h => List.mem_cons_of_mem _ (List.mem_append_right _ (h)))
  have wF7 := hts (.fieldLink RX12 7 "WhoSitsByModel" "pupils" "I") (z_mem 1 rfl)
  have wF16 := hts (.fieldLink RX12 16 "WhoSitsByModel" "kind" "[I") (z_mem 3 rfl)
  have wF23 := hts (.fieldLink RX12 23 "WhoSitsByModel" "talks" "[I") (z_mem 2 rfl)
  have h8 := hr0.1
  refine lv_iconst (v := (nI 0)) hx hb dX12_talkBehind_0 rfl ?_
  refine lv_istore_n (lv' := [(3, .int (nI 0)), (0, .ref (za G 77)), (1, .int b), (2, .int w)]) hx hb dX12_talkBehind_1 rfl hl (by decide) rfl (fun ls hl => ?_)
  refine lv_aload_n hx hb dX12_talkBehind_2 rfl (lv_at hl 1 rfl) ?_
  refine z_calli (va_runV (As := []) (rest := []) ⟨hx, hb, hml, hown, hts⟩ ((c_X12_hushNow l hG x F C hcl) A) (cwV 0 hts gX12_talkBehind_X12_hushNow rfl rfl rfl (by decide +kernel) ⟨Nat.le_of_ble_eq_true rfl, Nat.le_of_ble_eq_true rfl⟩) (z_pV hI hK hN (z_recv hK hI (zo77 hG) rfl)) rfl rfl hl.1 rfl (lv_room (Nat.le_of_ble_eq_true rfl)) dX12_talkBehind_3 ⟨Nat.zero_le _, Nat.zero_le _⟩) hI (fun r_3 u H locs hw hI => ?_)
  obtain ⟨rfl, rfl⟩ := hw
  refine lv_istore (lv' := [(4, .int (zhush (x.1 90) (x.1 91) F C)), (3, .int (nI 0)), (0, .ref (za G 77)), (1, .int b), (2, .int w)]) hx hb dX12_talkBehind_6 hl (by decide) rfl (fun ls hl => ?_)
  refine lv_iconst (v := (nI 0)) hx hb dX12_talkBehind_8 rfl ?_
  refine lv_istore (lv' := [(5, .int (nI 0)), (4, .int (zhush (x.1 90) (x.1 91) F C)), (3, .int (nI 0)), (0, .ref (za G 77)), (1, .int b), (2, .int w)]) hx hb dX12_talkBehind_9 hl (by decide) rfl (fun ls hl => ?_)
  have L11 : ∀ (f : Nat) (i : Nat) (a : Int32), (i ≤ N) → (a = zors (fun qq => if ¬ nI qq = w ∧ zrk x b (zhush (x.1 90) (x.1 91) F C) N qq then nI 1 <<< (nI qq &&& 31) else 0) i) → N + 1 ≤ i + f → ∀ (H : Heap) (locs : List Loc), zI G x A s.heap H locs → ∀ ls : Array Slot, lv_has ls 9 [(0, .ref (za G 77)), (1, .int b), (2, .int w), (3, .int a), (4, .int (zhush (x.1 90) (x.1 91) F C)), (5, .int (nI i))] → W p l e { frames := 2, cells := 0, slots := 0, locals := 42 } s m ([.ref (za G 77), .int b, .int w] : List Value).toArray below meth c H locs 0 0 (MQ below (va_Qi (fun (r : Int32) (u : zX) => x = u ∧ zbehind x b (zhush (x.1 90) (x.1 91) F C) w N = r) (fun u t => zJ G u A t.heap) A) ([.ref (za G 77), .int b, .int w] : List Value).toArray s 0 0 A) (F0 m 11 ls []) := by
    intro f
    induction f with
    | zero =>
      intro i a h1 h2 hf
      exact absurd hf (by omega)
    | succ f ih =>
      intro i a h1 h2 hf H locs hI ls hl
      have ih11 := ih
      refine lv_iload hx hb dX12_talkBehind_11 (lv_at hl 5 rfl) ?_
      refine lv_aload_n hx hb dX12_talkBehind_13 rfl (lv_at hl 0 rfl) ?_
      refine z_get (C := RX12) (T := TX12) (N := 51) (ci := 12) (v := .int (nI N)) hx hb hts hin12 hown hK hI (zo77 hG) rfl 0 (by decide) wF7 (fun _ h9 => h9) (congrArg (fun q => some (Value.int q)) hr0.2.1) dX12_talkBehind_14 ?_
      refine lv_icmp_ge (tgt := 182) hx hb dX12_talkBehind_17 (by decide) (fun c_17 => ?_) (fun c_17 => ?_)
      · skip
        rw [zqG (by omega) (by omega)] at c_17
        refine lv_iload_n hx hb dX12_talkBehind_182 rfl (lv_at hl 3 rfl) ?_
        exact z_iret hx hb hr hlocks hI (⟨rfl, by rw [h2, show i = N by omega]; rfl⟩) dX12_talkBehind_183
      · skip
        rw [zqG (by omega) (by omega)] at c_17
        refine lv_iload hx hb dX12_talkBehind_20 (lv_at hl 5 rfl) ?_
        refine lv_iload_n hx hb dX12_talkBehind_22 rfl (lv_at hl 2 rfl) ?_
        refine lv_icmp_ne (tgt := 29) hx hb dX12_talkBehind_23 (by decide) (fun c_23 => ?_) (fun c_23 => ?_)
        · skip
          refine lv_iconst (v := (nI 0)) hx hb dX12_talkBehind_29 rfl ?_
          refine lv_istore (lv' := [(6, .int (nI 0)), (0, .ref (za G 77)), (1, .int b), (2, .int w), (3, .int a), (4, .int (zhush (x.1 90) (x.1 91) F C)), (5, .int (nI i))]) hx hb dX12_talkBehind_30 hl (by decide) rfl (fun ls hl => ?_)
          refine lv_iconst (v := (nI 0)) hx hb dX12_talkBehind_32 rfl ?_
          refine lv_istore (lv' := [(7, .int (nI 0)), (6, .int (nI 0)), (0, .ref (za G 77)), (1, .int b), (2, .int w), (3, .int a), (4, .int (zhush (x.1 90) (x.1 91) F C)), (5, .int (nI i))]) hx hb dX12_talkBehind_33 hl (by decide) rfl (fun ls hl => ?_)
          refine lv_iconst (v := (nI 0)) hx hb dX12_talkBehind_35 rfl ?_
          refine lv_istore (lv' := [(8, .int (nI 0)), (7, .int (nI 0)), (6, .int (nI 0)), (0, .ref (za G 77)), (1, .int b), (2, .int w), (3, .int a), (4, .int (zhush (x.1 90) (x.1 91) F C)), (5, .int (nI i))]) hx hb dX12_talkBehind_36 hl (by decide) rfl (fun ls hl => ?_)
          have L38 : ∀ (f : Nat) (j : Nat) (z : Int32) (g : Int32), (j ≤ N) → (z = zrn x b i j) → (g = if (∃ o, o < j ∧ zrb x b i o) then nI 1 else nI 0) → N + 1 ≤ j + f → ∀ (H : Heap) (locs : List Loc), zI G x A s.heap H locs → ∀ ls : Array Slot, lv_has ls 9 [(0, .ref (za G 77)), (1, .int b), (2, .int w), (3, .int a), (4, .int (zhush (x.1 90) (x.1 91) F C)), (5, .int (nI i)), (6, .int z), (7, .int g), (8, .int (nI j))] → W p l e { frames := 2, cells := 0, slots := 0, locals := 42 } s m ([.ref (za G 77), .int b, .int w] : List Value).toArray below meth c H locs 0 0 (MQ below (va_Qi (fun (r : Int32) (u : zX) => x = u ∧ zbehind x b (zhush (x.1 90) (x.1 91) F C) w N = r) (fun u t => zJ G u A t.heap) A) ([.ref (za G 77), .int b, .int w] : List Value).toArray s 0 0 A) (F0 m 38 ls []) := by
            intro f
            induction f with
            | zero =>
              intro j z g h3 h4 h5 hf
              exact absurd hf (by omega)
            | succ f ih =>
              intro j z g h3 h4 h5 hf H locs hI ls hl
              have ih38 := ih
              refine lv_iload hx hb dX12_talkBehind_38 (lv_at hl 8 rfl) ?_
              refine lv_aload_n hx hb dX12_talkBehind_40 rfl (lv_at hl 0 rfl) ?_
              refine z_get (C := RX12) (T := TX12) (N := 51) (ci := 12) (v := .int (nI N)) hx hb hts hin12 hown hK hI (zo77 hG) rfl 0 (by decide) wF7 (fun _ h9 => h9) (congrArg (fun q => some (Value.int q)) hr0.2.1) dX12_talkBehind_41 ?_
              refine lv_icmp_ge (tgt := 99) hx hb dX12_talkBehind_44 (by decide) (fun c_44 => ?_) (fun c_44 => ?_)
              · skip
                rw [zqG (by omega) (by omega)] at c_44
                refine lv_iload hx hb dX12_talkBehind_99 (lv_at hl 7 rfl) ?_
                refine lv_if_eq (tgt := 121) hx hb dX12_talkBehind_101 (by decide) (fun c_101 => ?_) (fun c_101 => ?_)
                · skip
                  rw [h5] at c_101; rw [zb_0] at c_101
                  refine lv_aload_n hx hb dX12_talkBehind_121 rfl (lv_at hl 0 rfl) ?_
                  refine lv_iload_n hx hb dX12_talkBehind_122 rfl (lv_at hl 1 rfl) ?_
                  refine lv_iload hx hb dX12_talkBehind_123 (lv_at hl 5 rfl) ?_
                  refine z_calli (va_runV (As := [.int b, .int (nI i)]) (rest := []) ⟨hx, hb, hml, hown, hts⟩ ((c_X12_has l hG x b (nI i)) A) (cwV 2 hts gX12_talkBehind_X12_has rfl rfl rfl (by decide +kernel) ⟨Nat.le_of_ble_eq_true rfl, Nat.le_of_ble_eq_true rfl⟩) (z_pV hI hK hN (z_recv hK hI (zo77 hG) rfl)) rfl rfl hl.1 rfl (lv_room (Nat.le_of_ble_eq_true rfl)) dX12_talkBehind_125 ⟨Nat.zero_le _, Nat.zero_le _⟩) hI (fun r_125 u H locs hw hI => ?_)
                  obtain ⟨rfl, rfl⟩ := hw
                  refine lv_if_eq (tgt := 157) hx hb dX12_talkBehind_128 (by decide) (fun c_128 => ?_) (fun c_128 => ?_)
                  · skip
                    rw [zb_0] at c_128
                    refine lv_iconst (v := (nI 0)) hx hb dX12_talkBehind_157 rfl ?_
                    refine lv_istore (lv' := [(8, .int (nI 0)), (0, .ref (za G 77)), (1, .int b), (2, .int w), (3, .int a), (4, .int (zhush (x.1 90) (x.1 91) F C)), (5, .int (nI i)), (6, .int z), (7, .int g)]) hx hb dX12_talkBehind_158 hl (by decide) rfl (fun ls hl => ?_)
                    refine lv_iload_n hx hb dX12_talkBehind_160 rfl (lv_at hl 4 rfl) ?_
                    refine lv_iload hx hb dX12_talkBehind_161 (lv_at hl 0 rfl) ?_
                    refine lv_if_eq (tgt := 173) hx hb dX12_talkBehind_163 (by decide) (fun c_163 => ?_) (fun c_163 => absurd c_163 (by decide))
                    refine lv_iconst (v := (nI 0)) hx hb dX12_talkBehind_173 rfl ?_
                    refine lv_ior hx hb dX12_talkBehind_174 ?_
                    refine lv_istore_n (lv' := [(3, .int (a ||| (nI 0))), (8, .int (nI 0)), (0, .ref (za G 77)), (1, .int b), (2, .int w), (4, .int (zhush (x.1 90) (x.1 91) F C)), (5, .int (nI i)), (6, .int z), (7, .int g)]) hx hb dX12_talkBehind_175 rfl hl (by decide) rfl (fun ls hl => ?_)
                    refine lv_iinc (v := (nI (i + 1))) (lv' := [(5, .int (nI (i + 1))), (3, .int (a ||| (nI 0))), (8, .int (nI 0)), (0, .ref (za G 77)), (1, .int b), (2, .int w), (4, .int (zhush (x.1 90) (x.1 91) F C)), (6, .int z), (7, .int g)]) hx hb dX12_talkBehind_176 hl (k := 6) rfl (zinc i) (by decide) rfl (fun ls hl => ?_)
                    refine lv_goto (tgt := 11) hx hb dX12_talkBehind_179 (by decide) ?_
                    exact ih11 (i + 1) (a ||| (nI 0)) (by omega) (zors_t h2 (by rw [if_neg (fun h => h.2.elim (fun h => c_101 (by rw [show j = N by omega]; exact h.1)) (fun h => c_128 h.1))]; rfl)) (by omega) _ _ hI ls (lv_sub hl [3, 4, 5, 1, 6, 0] rfl)
                  · skip
                    rw [zb_0, Classical.not_not] at c_128
                    refine lv_aload_n hx hb dX12_talkBehind_131 rfl (lv_at hl 0 rfl) ?_
                    refine z_get (C := RX12) (T := TX12) (N := 51) (ci := 12) (v := .ref (za G 78)) hx hb hts hin12 hown hK hI (zo77 hG) rfl 2 (by decide) wF16 (fun _ h9 => h9) rfl dX12_talkBehind_132 ?_
                    refine lv_iload hx hb dX12_talkBehind_135 (lv_at hl 5 rfl) ?_
                    refine z_iald (v := (x.1 78 i)) hx hb hK hI (zo78 hG) i rfl (by omega) (by decide) rfl dX12_talkBehind_137 ?_
                    refine lv_iconst (v := (nI 2)) hx hb dX12_talkBehind_138 rfl ?_
                    refine lv_icmp_eq (tgt := 153) hx hb dX12_talkBehind_139 (by decide) (fun c_139 => ?_) (fun c_139 => ?_)
                    · skip
                      refine lv_iconst (v := (nI 1)) hx hb dX12_talkBehind_153 rfl ?_
                      refine lv_goto (tgt := 158) hx hb dX12_talkBehind_154 (by decide) ?_
                      refine lv_istore (lv' := [(8, .int (nI 1)), (0, .ref (za G 77)), (1, .int b), (2, .int w), (3, .int a), (4, .int (zhush (x.1 90) (x.1 91) F C)), (5, .int (nI i)), (6, .int z), (7, .int g)]) hx hb dX12_talkBehind_158 hl (by decide) rfl (fun ls hl => ?_)
                      refine lv_iload_n hx hb dX12_talkBehind_160 rfl (lv_at hl 4 rfl) ?_
                      refine lv_iload hx hb dX12_talkBehind_161 (lv_at hl 0 rfl) ?_
                      refine lv_if_eq (tgt := 173) hx hb dX12_talkBehind_163 (by decide) (fun c_163 => absurd c_163 (by decide)) (fun c_163 => ?_)
                      refine lv_iconst (v := (nI 1)) hx hb dX12_talkBehind_166 rfl ?_
                      refine lv_iload hx hb dX12_talkBehind_167 (lv_at hl 6 rfl) ?_
                      refine lv_ishl hx hb dX12_talkBehind_169 ?_
                      refine lv_goto (tgt := 174) hx hb dX12_talkBehind_170 (by decide) ?_
                      refine lv_ior hx hb dX12_talkBehind_174 ?_
                      refine lv_istore_n (lv' := [(3, .int (a ||| ((nI 1) <<< ((nI i) &&& 31)))), (8, .int (nI 1)), (0, .ref (za G 77)), (1, .int b), (2, .int w), (4, .int (zhush (x.1 90) (x.1 91) F C)), (5, .int (nI i)), (6, .int z), (7, .int g)]) hx hb dX12_talkBehind_175 rfl hl (by decide) rfl (fun ls hl => ?_)
                      refine lv_iinc (v := (nI (i + 1))) (lv' := [(5, .int (nI (i + 1))), (3, .int (a ||| ((nI 1) <<< ((nI i) &&& 31)))), (8, .int (nI 1)), (0, .ref (za G 77)), (1, .int b), (2, .int w), (4, .int (zhush (x.1 90) (x.1 91) F C)), (6, .int z), (7, .int g)]) hx hb dX12_talkBehind_176 hl (k := 6) rfl (zinc i) (by decide) rfl (fun ls hl => ?_)
                      refine lv_goto (tgt := 11) hx hb dX12_talkBehind_179 (by decide) ?_
                      exact ih11 (i + 1) (a ||| ((nI 1) <<< ((nI i) &&& 31))) (by omega) (zors_t h2 (if_pos ⟨c_23, Or.inr ⟨c_128, Or.inl c_139⟩⟩)) (by omega) _ _ hI ls (lv_sub hl [3, 4, 5, 1, 6, 0] rfl)
                    · skip
                      refine lv_aload_n hx hb dX12_talkBehind_142 rfl (lv_at hl 0 rfl) ?_
                      refine z_get (C := RX12) (T := TX12) (N := 51) (ci := 12) (v := .ref (za G 78)) hx hb hts hin12 hown hK hI (zo77 hG) rfl 2 (by decide) wF16 (fun _ h9 => h9) rfl dX12_talkBehind_143 ?_
                      refine lv_iload hx hb dX12_talkBehind_146 (lv_at hl 5 rfl) ?_
                      refine z_iald (v := (x.1 78 i)) hx hb hK hI (zo78 hG) i rfl (by omega) (by decide) rfl dX12_talkBehind_148 ?_
                      refine lv_iconst (v := (nI 5)) hx hb dX12_talkBehind_149 rfl ?_
                      refine lv_icmp_ne (tgt := 157) hx hb dX12_talkBehind_150 (by decide) (fun c_150 => ?_) (fun c_150 => ?_)
                      · skip
                        refine lv_iconst (v := (nI 0)) hx hb dX12_talkBehind_157 rfl ?_
                        refine lv_istore (lv' := [(8, .int (nI 0)), (0, .ref (za G 77)), (1, .int b), (2, .int w), (3, .int a), (4, .int (zhush (x.1 90) (x.1 91) F C)), (5, .int (nI i)), (6, .int z), (7, .int g)]) hx hb dX12_talkBehind_158 hl (by decide) rfl (fun ls hl => ?_)
                        refine lv_iload_n hx hb dX12_talkBehind_160 rfl (lv_at hl 4 rfl) ?_
                        refine lv_iload hx hb dX12_talkBehind_161 (lv_at hl 0 rfl) ?_
                        refine lv_if_eq (tgt := 173) hx hb dX12_talkBehind_163 (by decide) (fun c_163 => ?_) (fun c_163 => absurd c_163 (by decide))
                        refine lv_iconst (v := (nI 0)) hx hb dX12_talkBehind_173 rfl ?_
                        refine lv_ior hx hb dX12_talkBehind_174 ?_
                        refine lv_istore_n (lv' := [(3, .int (a ||| (nI 0))), (8, .int (nI 0)), (0, .ref (za G 77)), (1, .int b), (2, .int w), (4, .int (zhush (x.1 90) (x.1 91) F C)), (5, .int (nI i)), (6, .int z), (7, .int g)]) hx hb dX12_talkBehind_175 rfl hl (by decide) rfl (fun ls hl => ?_)
                        refine lv_iinc (v := (nI (i + 1))) (lv' := [(5, .int (nI (i + 1))), (3, .int (a ||| (nI 0))), (8, .int (nI 0)), (0, .ref (za G 77)), (1, .int b), (2, .int w), (4, .int (zhush (x.1 90) (x.1 91) F C)), (6, .int z), (7, .int g)]) hx hb dX12_talkBehind_176 hl (k := 6) rfl (zinc i) (by decide) rfl (fun ls hl => ?_)
                        refine lv_goto (tgt := 11) hx hb dX12_talkBehind_179 (by decide) ?_
                        exact ih11 (i + 1) (a ||| (nI 0)) (by omega) (zors_t h2 (by rw [if_neg (fun h => h.2.elim (fun h => c_101 (by rw [show j = N by omega]; exact h.1)) (fun h => h.2.elim c_139 c_150))]; rfl)) (by omega) _ _ hI ls (lv_sub hl [3, 4, 5, 1, 6, 0] rfl)
                      · skip
                        refine lv_iconst (v := (nI 1)) hx hb dX12_talkBehind_153 rfl ?_
                        refine lv_goto (tgt := 158) hx hb dX12_talkBehind_154 (by decide) ?_
                        refine lv_istore (lv' := [(8, .int (nI 1)), (0, .ref (za G 77)), (1, .int b), (2, .int w), (3, .int a), (4, .int (zhush (x.1 90) (x.1 91) F C)), (5, .int (nI i)), (6, .int z), (7, .int g)]) hx hb dX12_talkBehind_158 hl (by decide) rfl (fun ls hl => ?_)
                        refine lv_iload_n hx hb dX12_talkBehind_160 rfl (lv_at hl 4 rfl) ?_
                        refine lv_iload hx hb dX12_talkBehind_161 (lv_at hl 0 rfl) ?_
                        refine lv_if_eq (tgt := 173) hx hb dX12_talkBehind_163 (by decide) (fun c_163 => absurd c_163 (by decide)) (fun c_163 => ?_)
                        refine lv_iconst (v := (nI 1)) hx hb dX12_talkBehind_166 rfl ?_
                        refine lv_iload hx hb dX12_talkBehind_167 (lv_at hl 6 rfl) ?_
                        refine lv_ishl hx hb dX12_talkBehind_169 ?_
                        refine lv_goto (tgt := 174) hx hb dX12_talkBehind_170 (by decide) ?_
                        refine lv_ior hx hb dX12_talkBehind_174 ?_
                        refine lv_istore_n (lv' := [(3, .int (a ||| ((nI 1) <<< ((nI i) &&& 31)))), (8, .int (nI 1)), (0, .ref (za G 77)), (1, .int b), (2, .int w), (4, .int (zhush (x.1 90) (x.1 91) F C)), (5, .int (nI i)), (6, .int z), (7, .int g)]) hx hb dX12_talkBehind_175 rfl hl (by decide) rfl (fun ls hl => ?_)
                        refine lv_iinc (v := (nI (i + 1))) (lv' := [(5, .int (nI (i + 1))), (3, .int (a ||| ((nI 1) <<< ((nI i) &&& 31)))), (8, .int (nI 1)), (0, .ref (za G 77)), (1, .int b), (2, .int w), (4, .int (zhush (x.1 90) (x.1 91) F C)), (6, .int z), (7, .int g)]) hx hb dX12_talkBehind_176 hl (k := 6) rfl (zinc i) (by decide) rfl (fun ls hl => ?_)
                        refine lv_goto (tgt := 11) hx hb dX12_talkBehind_179 (by decide) ?_
                        exact ih11 (i + 1) (a ||| ((nI 1) <<< ((nI i) &&& 31))) (by omega) (zors_t h2 (if_pos ⟨c_23, Or.inr ⟨c_128, Or.inr c_150⟩⟩)) (by omega) _ _ hI ls (lv_sub hl [3, 4, 5, 1, 6, 0] rfl)
                · skip
                  rw [h5] at c_101; rw [zb_0, Classical.not_not] at c_101
                  refine lv_iload hx hb dX12_talkBehind_104 (lv_at hl 6 rfl) ?_
                  refine lv_iconst (v := (nI 2)) hx hb dX12_talkBehind_106 rfl ?_
                  refine lv_idiv hx hb dX12_talkBehind_107 (by decide) ?_
                  refine lv_aload_n hx hb dX12_talkBehind_108 rfl (lv_at hl 0 rfl) ?_
                  refine z_get (C := RX12) (T := TX12) (N := 51) (ci := 12) (v := .ref (za G 80)) hx hb hts hin12 hown hK hI (zo77 hG) rfl 4 (by decide) wF23 (fun _ h9 => h9) rfl dX12_talkBehind_109 ?_
                  refine lv_iload hx hb dX12_talkBehind_112 (lv_at hl 5 rfl) ?_
                  refine z_iald (v := (x.1 80 i)) hx hb hK hI (zo80 hG) i rfl (by omega) (by decide) rfl dX12_talkBehind_114 ?_
                  refine lv_iadd hx hb dX12_talkBehind_115 ?_
                  refine lv_iload hx hb dX12_talkBehind_116 (lv_at hl 4 rfl) ?_
                  refine lv_icmp_gt (tgt := 153) hx hb dX12_talkBehind_118 (by decide) (fun c_118 => ?_) (fun c_118 => ?_)
                  · skip
                    refine lv_iconst (v := (nI 1)) hx hb dX12_talkBehind_153 rfl ?_
                    refine lv_goto (tgt := 158) hx hb dX12_talkBehind_154 (by decide) ?_
                    refine lv_istore (lv' := [(8, .int (nI 1)), (0, .ref (za G 77)), (1, .int b), (2, .int w), (3, .int a), (4, .int (zhush (x.1 90) (x.1 91) F C)), (5, .int (nI i)), (6, .int z), (7, .int g)]) hx hb dX12_talkBehind_158 hl (by decide) rfl (fun ls hl => ?_)
                    refine lv_iload_n hx hb dX12_talkBehind_160 rfl (lv_at hl 4 rfl) ?_
                    refine lv_iload hx hb dX12_talkBehind_161 (lv_at hl 0 rfl) ?_
                    refine lv_if_eq (tgt := 173) hx hb dX12_talkBehind_163 (by decide) (fun c_163 => absurd c_163 (by decide)) (fun c_163 => ?_)
                    refine lv_iconst (v := (nI 1)) hx hb dX12_talkBehind_166 rfl ?_
                    refine lv_iload hx hb dX12_talkBehind_167 (lv_at hl 6 rfl) ?_
                    refine lv_ishl hx hb dX12_talkBehind_169 ?_
                    refine lv_goto (tgt := 174) hx hb dX12_talkBehind_170 (by decide) ?_
                    refine lv_ior hx hb dX12_talkBehind_174 ?_
                    refine lv_istore_n (lv' := [(3, .int (a ||| ((nI 1) <<< ((nI i) &&& 31)))), (8, .int (nI 1)), (0, .ref (za G 77)), (1, .int b), (2, .int w), (4, .int (zhush (x.1 90) (x.1 91) F C)), (5, .int (nI i)), (6, .int z), (7, .int g)]) hx hb dX12_talkBehind_175 rfl hl (by decide) rfl (fun ls hl => ?_)
                    refine lv_iinc (v := (nI (i + 1))) (lv' := [(5, .int (nI (i + 1))), (3, .int (a ||| ((nI 1) <<< ((nI i) &&& 31)))), (8, .int (nI 1)), (0, .ref (za G 77)), (1, .int b), (2, .int w), (4, .int (zhush (x.1 90) (x.1 91) F C)), (6, .int z), (7, .int g)]) hx hb dX12_talkBehind_176 hl (k := 6) rfl (zinc i) (by decide) rfl (fun ls hl => ?_)
                    refine lv_goto (tgt := 11) hx hb dX12_talkBehind_179 (by decide) ?_
                    exact ih11 (i + 1) (a ||| ((nI 1) <<< ((nI i) &&& 31))) (by omega) (zors_t h2 (if_pos ⟨c_23, Or.inl ⟨(by rw [show N = j by omega]; exact c_101), (by rw [show N = j by omega, ← h4]; exact c_118)⟩⟩)) (by omega) _ _ hI ls (lv_sub hl [3, 4, 5, 1, 6, 0] rfl)
                  · skip
                    refine lv_aload_n hx hb dX12_talkBehind_121 rfl (lv_at hl 0 rfl) ?_
                    refine lv_iload_n hx hb dX12_talkBehind_122 rfl (lv_at hl 1 rfl) ?_
                    refine lv_iload hx hb dX12_talkBehind_123 (lv_at hl 5 rfl) ?_
                    refine z_calli (va_runV (As := [.int b, .int (nI i)]) (rest := []) ⟨hx, hb, hml, hown, hts⟩ ((c_X12_has l hG x b (nI i)) A) (cwV 2 hts gX12_talkBehind_X12_has rfl rfl rfl (by decide +kernel) ⟨Nat.le_of_ble_eq_true rfl, Nat.le_of_ble_eq_true rfl⟩) (z_pV hI hK hN (z_recv hK hI (zo77 hG) rfl)) rfl rfl hl.1 rfl (lv_room (Nat.le_of_ble_eq_true rfl)) dX12_talkBehind_125 ⟨Nat.zero_le _, Nat.zero_le _⟩) hI (fun r_125 u H locs hw hI => ?_)
                    obtain ⟨rfl, rfl⟩ := hw
                    refine lv_if_eq (tgt := 157) hx hb dX12_talkBehind_128 (by decide) (fun c_128 => ?_) (fun c_128 => ?_)
                    · skip
                      rw [zb_0] at c_128
                      refine lv_iconst (v := (nI 0)) hx hb dX12_talkBehind_157 rfl ?_
                      refine lv_istore (lv' := [(8, .int (nI 0)), (0, .ref (za G 77)), (1, .int b), (2, .int w), (3, .int a), (4, .int (zhush (x.1 90) (x.1 91) F C)), (5, .int (nI i)), (6, .int z), (7, .int g)]) hx hb dX12_talkBehind_158 hl (by decide) rfl (fun ls hl => ?_)
                      refine lv_iload_n hx hb dX12_talkBehind_160 rfl (lv_at hl 4 rfl) ?_
                      refine lv_iload hx hb dX12_talkBehind_161 (lv_at hl 0 rfl) ?_
                      refine lv_if_eq (tgt := 173) hx hb dX12_talkBehind_163 (by decide) (fun c_163 => ?_) (fun c_163 => absurd c_163 (by decide))
                      refine lv_iconst (v := (nI 0)) hx hb dX12_talkBehind_173 rfl ?_
                      refine lv_ior hx hb dX12_talkBehind_174 ?_
                      refine lv_istore_n (lv' := [(3, .int (a ||| (nI 0))), (8, .int (nI 0)), (0, .ref (za G 77)), (1, .int b), (2, .int w), (4, .int (zhush (x.1 90) (x.1 91) F C)), (5, .int (nI i)), (6, .int z), (7, .int g)]) hx hb dX12_talkBehind_175 rfl hl (by decide) rfl (fun ls hl => ?_)
                      refine lv_iinc (v := (nI (i + 1))) (lv' := [(5, .int (nI (i + 1))), (3, .int (a ||| (nI 0))), (8, .int (nI 0)), (0, .ref (za G 77)), (1, .int b), (2, .int w), (4, .int (zhush (x.1 90) (x.1 91) F C)), (6, .int z), (7, .int g)]) hx hb dX12_talkBehind_176 hl (k := 6) rfl (zinc i) (by decide) rfl (fun ls hl => ?_)
                      refine lv_goto (tgt := 11) hx hb dX12_talkBehind_179 (by decide) ?_
                      exact ih11 (i + 1) (a ||| (nI 0)) (by omega) (zors_t h2 (by rw [if_neg (fun h => h.2.elim (fun h => c_118 (by rw [h4, show j = N by omega]; exact h.2)) (fun h => c_128 h.1))]; rfl)) (by omega) _ _ hI ls (lv_sub hl [3, 4, 5, 1, 6, 0] rfl)
                    · skip
                      rw [zb_0, Classical.not_not] at c_128
                      refine lv_aload_n hx hb dX12_talkBehind_131 rfl (lv_at hl 0 rfl) ?_
                      refine z_get (C := RX12) (T := TX12) (N := 51) (ci := 12) (v := .ref (za G 78)) hx hb hts hin12 hown hK hI (zo77 hG) rfl 2 (by decide) wF16 (fun _ h9 => h9) rfl dX12_talkBehind_132 ?_
                      refine lv_iload hx hb dX12_talkBehind_135 (lv_at hl 5 rfl) ?_
                      refine z_iald (v := (x.1 78 i)) hx hb hK hI (zo78 hG) i rfl (by omega) (by decide) rfl dX12_talkBehind_137 ?_
                      refine lv_iconst (v := (nI 2)) hx hb dX12_talkBehind_138 rfl ?_
                      refine lv_icmp_eq (tgt := 153) hx hb dX12_talkBehind_139 (by decide) (fun c_139 => ?_) (fun c_139 => ?_)
                      · skip
                        refine lv_iconst (v := (nI 1)) hx hb dX12_talkBehind_153 rfl ?_
                        refine lv_goto (tgt := 158) hx hb dX12_talkBehind_154 (by decide) ?_
                        refine lv_istore (lv' := [(8, .int (nI 1)), (0, .ref (za G 77)), (1, .int b), (2, .int w), (3, .int a), (4, .int (zhush (x.1 90) (x.1 91) F C)), (5, .int (nI i)), (6, .int z), (7, .int g)]) hx hb dX12_talkBehind_158 hl (by decide) rfl (fun ls hl => ?_)
                        refine lv_iload_n hx hb dX12_talkBehind_160 rfl (lv_at hl 4 rfl) ?_
                        refine lv_iload hx hb dX12_talkBehind_161 (lv_at hl 0 rfl) ?_
                        refine lv_if_eq (tgt := 173) hx hb dX12_talkBehind_163 (by decide) (fun c_163 => absurd c_163 (by decide)) (fun c_163 => ?_)
                        refine lv_iconst (v := (nI 1)) hx hb dX12_talkBehind_166 rfl ?_
                        refine lv_iload hx hb dX12_talkBehind_167 (lv_at hl 6 rfl) ?_
                        refine lv_ishl hx hb dX12_talkBehind_169 ?_
                        refine lv_goto (tgt := 174) hx hb dX12_talkBehind_170 (by decide) ?_
                        refine lv_ior hx hb dX12_talkBehind_174 ?_
                        refine lv_istore_n (lv' := [(3, .int (a ||| ((nI 1) <<< ((nI i) &&& 31)))), (8, .int (nI 1)), (0, .ref (za G 77)), (1, .int b), (2, .int w), (4, .int (zhush (x.1 90) (x.1 91) F C)), (5, .int (nI i)), (6, .int z), (7, .int g)]) hx hb dX12_talkBehind_175 rfl hl (by decide) rfl (fun ls hl => ?_)
                        refine lv_iinc (v := (nI (i + 1))) (lv' := [(5, .int (nI (i + 1))), (3, .int (a ||| ((nI 1) <<< ((nI i) &&& 31)))), (8, .int (nI 1)), (0, .ref (za G 77)), (1, .int b), (2, .int w), (4, .int (zhush (x.1 90) (x.1 91) F C)), (6, .int z), (7, .int g)]) hx hb dX12_talkBehind_176 hl (k := 6) rfl (zinc i) (by decide) rfl (fun ls hl => ?_)
                        refine lv_goto (tgt := 11) hx hb dX12_talkBehind_179 (by decide) ?_
                        exact ih11 (i + 1) (a ||| ((nI 1) <<< ((nI i) &&& 31))) (by omega) (zors_t h2 (if_pos ⟨c_23, Or.inr ⟨c_128, Or.inl c_139⟩⟩)) (by omega) _ _ hI ls (lv_sub hl [3, 4, 5, 1, 6, 0] rfl)
                      · skip
                        refine lv_aload_n hx hb dX12_talkBehind_142 rfl (lv_at hl 0 rfl) ?_
                        refine z_get (C := RX12) (T := TX12) (N := 51) (ci := 12) (v := .ref (za G 78)) hx hb hts hin12 hown hK hI (zo77 hG) rfl 2 (by decide) wF16 (fun _ h9 => h9) rfl dX12_talkBehind_143 ?_
                        refine lv_iload hx hb dX12_talkBehind_146 (lv_at hl 5 rfl) ?_
                        refine z_iald (v := (x.1 78 i)) hx hb hK hI (zo78 hG) i rfl (by omega) (by decide) rfl dX12_talkBehind_148 ?_
                        refine lv_iconst (v := (nI 5)) hx hb dX12_talkBehind_149 rfl ?_
                        refine lv_icmp_ne (tgt := 157) hx hb dX12_talkBehind_150 (by decide) (fun c_150 => ?_) (fun c_150 => ?_)
                        · skip
                          refine lv_iconst (v := (nI 0)) hx hb dX12_talkBehind_157 rfl ?_
                          refine lv_istore (lv' := [(8, .int (nI 0)), (0, .ref (za G 77)), (1, .int b), (2, .int w), (3, .int a), (4, .int (zhush (x.1 90) (x.1 91) F C)), (5, .int (nI i)), (6, .int z), (7, .int g)]) hx hb dX12_talkBehind_158 hl (by decide) rfl (fun ls hl => ?_)
                          refine lv_iload_n hx hb dX12_talkBehind_160 rfl (lv_at hl 4 rfl) ?_
                          refine lv_iload hx hb dX12_talkBehind_161 (lv_at hl 0 rfl) ?_
                          refine lv_if_eq (tgt := 173) hx hb dX12_talkBehind_163 (by decide) (fun c_163 => ?_) (fun c_163 => absurd c_163 (by decide))
                          refine lv_iconst (v := (nI 0)) hx hb dX12_talkBehind_173 rfl ?_
                          refine lv_ior hx hb dX12_talkBehind_174 ?_
                          refine lv_istore_n (lv' := [(3, .int (a ||| (nI 0))), (8, .int (nI 0)), (0, .ref (za G 77)), (1, .int b), (2, .int w), (4, .int (zhush (x.1 90) (x.1 91) F C)), (5, .int (nI i)), (6, .int z), (7, .int g)]) hx hb dX12_talkBehind_175 rfl hl (by decide) rfl (fun ls hl => ?_)
                          refine lv_iinc (v := (nI (i + 1))) (lv' := [(5, .int (nI (i + 1))), (3, .int (a ||| (nI 0))), (8, .int (nI 0)), (0, .ref (za G 77)), (1, .int b), (2, .int w), (4, .int (zhush (x.1 90) (x.1 91) F C)), (6, .int z), (7, .int g)]) hx hb dX12_talkBehind_176 hl (k := 6) rfl (zinc i) (by decide) rfl (fun ls hl => ?_)
                          refine lv_goto (tgt := 11) hx hb dX12_talkBehind_179 (by decide) ?_
                          exact ih11 (i + 1) (a ||| (nI 0)) (by omega) (zors_t h2 (by rw [if_neg (fun h => h.2.elim (fun h => c_118 (by rw [h4, show j = N by omega]; exact h.2)) (fun h => h.2.elim c_139 c_150))]; rfl)) (by omega) _ _ hI ls (lv_sub hl [3, 4, 5, 1, 6, 0] rfl)
                        · skip
                          refine lv_iconst (v := (nI 1)) hx hb dX12_talkBehind_153 rfl ?_
                          refine lv_goto (tgt := 158) hx hb dX12_talkBehind_154 (by decide) ?_
                          refine lv_istore (lv' := [(8, .int (nI 1)), (0, .ref (za G 77)), (1, .int b), (2, .int w), (3, .int a), (4, .int (zhush (x.1 90) (x.1 91) F C)), (5, .int (nI i)), (6, .int z), (7, .int g)]) hx hb dX12_talkBehind_158 hl (by decide) rfl (fun ls hl => ?_)
                          refine lv_iload_n hx hb dX12_talkBehind_160 rfl (lv_at hl 4 rfl) ?_
                          refine lv_iload hx hb dX12_talkBehind_161 (lv_at hl 0 rfl) ?_
                          refine lv_if_eq (tgt := 173) hx hb dX12_talkBehind_163 (by decide) (fun c_163 => absurd c_163 (by decide)) (fun c_163 => ?_)
                          refine lv_iconst (v := (nI 1)) hx hb dX12_talkBehind_166 rfl ?_
                          refine lv_iload hx hb dX12_talkBehind_167 (lv_at hl 6 rfl) ?_
                          refine lv_ishl hx hb dX12_talkBehind_169 ?_
                          refine lv_goto (tgt := 174) hx hb dX12_talkBehind_170 (by decide) ?_
                          refine lv_ior hx hb dX12_talkBehind_174 ?_
                          refine lv_istore_n (lv' := [(3, .int (a ||| ((nI 1) <<< ((nI i) &&& 31)))), (8, .int (nI 1)), (0, .ref (za G 77)), (1, .int b), (2, .int w), (4, .int (zhush (x.1 90) (x.1 91) F C)), (5, .int (nI i)), (6, .int z), (7, .int g)]) hx hb dX12_talkBehind_175 rfl hl (by decide) rfl (fun ls hl => ?_)
                          refine lv_iinc (v := (nI (i + 1))) (lv' := [(5, .int (nI (i + 1))), (3, .int (a ||| ((nI 1) <<< ((nI i) &&& 31)))), (8, .int (nI 1)), (0, .ref (za G 77)), (1, .int b), (2, .int w), (4, .int (zhush (x.1 90) (x.1 91) F C)), (6, .int z), (7, .int g)]) hx hb dX12_talkBehind_176 hl (k := 6) rfl (zinc i) (by decide) rfl (fun ls hl => ?_)
                          refine lv_goto (tgt := 11) hx hb dX12_talkBehind_179 (by decide) ?_
                          exact ih11 (i + 1) (a ||| ((nI 1) <<< ((nI i) &&& 31))) (by omega) (zors_t h2 (if_pos ⟨c_23, Or.inr ⟨c_128, Or.inr c_150⟩⟩)) (by omega) _ _ hI ls (lv_sub hl [3, 4, 5, 1, 6, 0] rfl)
              · skip
                rw [zqG (by omega) (by omega)] at c_44
                refine lv_iload hx hb dX12_talkBehind_47 (lv_at hl 8 rfl) ?_
                refine lv_iload hx hb dX12_talkBehind_49 (lv_at hl 5 rfl) ?_
                refine lv_icmp_eq (tgt := 93) hx hb dX12_talkBehind_51 (by decide) (fun c_51 => ?_) (fun c_51 => ?_)
                · skip
                  rw [zqE (by omega) (by omega)] at c_51
                  refine lv_iinc (v := (nI (j + 1))) (lv' := [(8, .int (nI (j + 1))), (0, .ref (za G 77)), (1, .int b), (2, .int w), (3, .int a), (4, .int (zhush (x.1 90) (x.1 91) F C)), (5, .int (nI i)), (6, .int z), (7, .int g)]) hx hb dX12_talkBehind_93 hl (k := 8) rfl (zinc j) (by decide) rfl (fun ls hl => ?_)
                  refine lv_goto (tgt := 38) hx hb dX12_talkBehind_96 (by decide) ?_
                  exact ih38 (j + 1) z g (by omega) (zsum_f h4 (if_neg (fun h => h.1 c_51))) (zex_f h5 (fun h => h.1 c_51)) (by omega) _ _ hI ls (lv_sub hl [1, 2, 3, 4, 5, 6, 7, 8, 0] rfl)
                · skip
                  rw [zqE (by omega) (by omega)] at c_51
                  refine lv_aload_n hx hb dX12_talkBehind_54 rfl (lv_at hl 0 rfl) ?_
                  refine lv_iload_n hx hb dX12_talkBehind_55 rfl (lv_at hl 1 rfl) ?_
                  refine lv_iload hx hb dX12_talkBehind_56 (lv_at hl 8 rfl) ?_
                  refine z_calli (va_runV (As := [.int b, .int (nI j)]) (rest := []) ⟨hx, hb, hml, hown, hts⟩ ((c_X12_has l hG x b (nI j)) A) (cwV 2 hts gX12_talkBehind_X12_has rfl rfl rfl (by decide +kernel) ⟨Nat.le_of_ble_eq_true rfl, Nat.le_of_ble_eq_true rfl⟩) (z_pV hI hK hN (z_recv hK hI (zo77 hG) rfl)) rfl rfl hl.1 rfl (lv_room (Nat.le_of_ble_eq_true rfl)) dX12_talkBehind_58 ⟨Nat.zero_le _, Nat.zero_le _⟩) hI (fun r_58 u H locs hw hI => ?_)
                  obtain ⟨rfl, rfl⟩ := hw
                  refine lv_if_eq (tgt := 93) hx hb dX12_talkBehind_61 (by decide) (fun c_61 => ?_) (fun c_61 => ?_)
                  · skip
                    rw [zb_0] at c_61
                    refine lv_iinc (v := (nI (j + 1))) (lv' := [(8, .int (nI (j + 1))), (0, .ref (za G 77)), (1, .int b), (2, .int w), (3, .int a), (4, .int (zhush (x.1 90) (x.1 91) F C)), (5, .int (nI i)), (6, .int z), (7, .int g)]) hx hb dX12_talkBehind_93 hl (k := 8) rfl (zinc j) (by decide) rfl (fun ls hl => ?_)
                    refine lv_goto (tgt := 38) hx hb dX12_talkBehind_96 (by decide) ?_
                    exact ih38 (j + 1) z g (by omega) (zsum_f h4 (if_neg (fun h => c_61 h.2.1))) (zex_f h5 (fun h => c_61 h.2.1)) (by omega) _ _ hI ls (lv_sub hl [1, 2, 3, 4, 5, 6, 7, 8, 0] rfl)
                  · skip
                    rw [zb_0, Classical.not_not] at c_61
                    refine lv_aload_n hx hb dX12_talkBehind_64 rfl (lv_at hl 0 rfl) ?_
                    refine lv_iload hx hb dX12_talkBehind_65 (lv_at hl 5 rfl) ?_
                    refine lv_iload hx hb dX12_talkBehind_67 (lv_at hl 8 rfl) ?_
                    refine z_calli (va_runV (As := [.int (nI i), .int (nI j)]) (rest := []) ⟨hx, hb, hml, hown, hts⟩ ((c_X12_areNear l hG x N i j hr0 (by omega) (by omega)) A) (cwV 2 hts gX12_talkBehind_X12_areNear rfl rfl rfl (by decide +kernel) ⟨Nat.le_of_ble_eq_true rfl, Nat.le_of_ble_eq_true rfl⟩) (z_pV hI hK hN (z_recv hK hI (zo77 hG) rfl)) rfl rfl hl.1 rfl (lv_room (Nat.le_of_ble_eq_true rfl)) dX12_talkBehind_69 ⟨Nat.zero_le _, Nat.zero_le _⟩) hI (fun r_69 u H locs hw hI => ?_)
                    obtain ⟨rfl, rfl⟩ := hw
                    refine lv_if_ne (tgt := 78) hx hb dX12_talkBehind_72 (by decide) (fun c_72 => ?_) (fun c_72 => ?_)
                    · skip
                      rw [zb_0, Classical.not_not] at c_72
                      have hnb : zrb x b i j := ⟨c_51, c_61, c_72⟩
                      refine lv_iconst (v := (nI 1)) hx hb dX12_talkBehind_78 rfl ?_
                      refine lv_istore (lv' := [(7, .int (nI 1)), (0, .ref (za G 77)), (1, .int b), (2, .int w), (3, .int a), (4, .int (zhush (x.1 90) (x.1 91) F C)), (5, .int (nI i)), (6, .int z), (8, .int (nI j))]) hx hb dX12_talkBehind_79 hl (by decide) rfl (fun ls hl => ?_)
                      refine lv_iload hx hb dX12_talkBehind_81 (lv_at hl 7 rfl) ?_
                      refine lv_aload_n hx hb dX12_talkBehind_83 rfl (lv_at hl 1 rfl) ?_
                      refine z_get (C := RX12) (T := TX12) (N := 51) (ci := 12) (v := .ref (za G 80)) hx hb hts hin12 hown hK hI (zo77 hG) rfl 4 (by decide) wF23 (fun _ h9 => h9) rfl dX12_talkBehind_84 ?_
                      refine lv_iload hx hb dX12_talkBehind_87 (lv_at hl 8 rfl) ?_
                      refine z_iald (v := (x.1 80 j)) hx hb hK hI (zo80 hG) j rfl (by omega) (by decide) rfl dX12_talkBehind_89 ?_
                      refine lv_iadd hx hb dX12_talkBehind_90 ?_
                      refine lv_istore (lv' := [(6, .int (z + (x.1 80 j))), (7, .int (nI 1)), (0, .ref (za G 77)), (1, .int b), (2, .int w), (3, .int a), (4, .int (zhush (x.1 90) (x.1 91) F C)), (5, .int (nI i)), (8, .int (nI j))]) hx hb dX12_talkBehind_91 hl (by decide) rfl (fun ls hl => ?_)
                      refine lv_iinc (v := (nI (j + 1))) (lv' := [(8, .int (nI (j + 1))), (6, .int (z + (x.1 80 j))), (7, .int (nI 1)), (0, .ref (za G 77)), (1, .int b), (2, .int w), (3, .int a), (4, .int (zhush (x.1 90) (x.1 91) F C)), (5, .int (nI i))]) hx hb dX12_talkBehind_93 hl (k := 8) rfl (zinc j) (by decide) rfl (fun ls hl => ?_)
                      refine lv_goto (tgt := 38) hx hb dX12_talkBehind_96 (by decide) ?_
                      exact ih38 (j + 1) (z + (x.1 80 j)) (nI 1) (by omega) (zsum_t h4 (if_pos hnb)) (zex_t hnb) (by omega) _ _ hI ls (lv_sub hl [3, 4, 5, 6, 7, 8, 1, 2, 0] rfl)
                    · skip
                      rw [zb_0] at c_72
                      refine lv_goto (tgt := 93) hx hb dX12_talkBehind_75 (by decide) ?_
                      refine lv_iinc (v := (nI (j + 1))) (lv' := [(8, .int (nI (j + 1))), (0, .ref (za G 77)), (1, .int b), (2, .int w), (3, .int a), (4, .int (zhush (x.1 90) (x.1 91) F C)), (5, .int (nI i)), (6, .int z), (7, .int g)]) hx hb dX12_talkBehind_93 hl (k := 8) rfl (zinc j) (by decide) rfl (fun ls hl => ?_)
                      refine lv_goto (tgt := 38) hx hb dX12_talkBehind_96 (by decide) ?_
                      exact ih38 (j + 1) z g (by omega) (zsum_f h4 (if_neg (fun h => c_72 h.2.2))) (zex_f h5 (fun h => c_72 h.2.2)) (by omega) _ _ hI ls (lv_sub hl [1, 2, 3, 4, 5, 6, 7, 8, 0] rfl)
          exact L38 (N + 1) 0 (nI 0) (nI 0) (by omega) rfl (by rw [if_neg (by rintro ⟨o, h, -⟩; omega)]) (by omega) _ _ hI ls (lv_sub hl [3, 4, 5, 6, 7, 8, 2, 1, 0] rfl)
        · skip
          refine lv_goto (tgt := 176) hx hb dX12_talkBehind_26 (by decide) ?_
          refine lv_iinc (v := (nI (i + 1))) (lv' := [(5, .int (nI (i + 1))), (0, .ref (za G 77)), (1, .int b), (2, .int w), (3, .int a), (4, .int (zhush (x.1 90) (x.1 91) F C))]) hx hb dX12_talkBehind_176 hl (k := 5) rfl (zinc i) (by decide) rfl (fun ls hl => ?_)
          refine lv_goto (tgt := 11) hx hb dX12_talkBehind_179 (by decide) ?_
          exact ih11 (i + 1) a (by omega) (zors_f h2 (if_neg (fun h => h.1 c_23))) (by omega) _ _ hI ls (lv_sub hl [1, 2, 3, 4, 5, 0] rfl)
  exact L11 (N + 1) 0 (nI 0) (by omega) rfl (by omega) _ _ hI ls (lv_sub hl [3, 4, 5, 2, 1, 0] rfl)
set_option maxHeartbeats 4000000 in
set_option maxRecDepth 100000 in
theorem c_X12_talkIn (l : Launch) {G : zG} (hG : zOK G) (x : zX) (N F C n : Nat) (b : Int32) (hr0 : zRef x N) (hcl : zClR x F C) (hn60 : n ≤ 60) : zMi l yX12_talkIn wsX12_talkIn { frames := 3, cells := 0, slots := 0, locals := 70 } G [.ref (za G 77), .int b, .int (nI n)] x (fun (r : Int32) (u : zX) => x = u ∧ ziter (fun y => zbehind x y (zhush (x.1 90) (x.1 91) F C) (-1) N) n b = r) := by
  intro A
  refine zBody (cc := cX12_talkIn) (maxL := 5) (ret := (some .int)) (by decide) rfl (Nat.le_of_ble_eq_true rfl) ?_
  intro p e s m below meth c hx hb hml hown hts hr hlocks hK hN hI ls hl
  have hown : s.vm.findClass RX12 = some m.cls := hown
  have hl : lv_has ls 5 [(0, .ref (za G 77)), (1, .int b), (2, .int (nI n))] := hl
  have h8 := hr0.1
  refine lv_iload_n hx hb dX12_talkIn_0 rfl (lv_at hl 1 rfl) ?_
  refine lv_istore_n (lv' := [(3, .int b), (0, .ref (za G 77)), (1, .int b), (2, .int (nI n))]) hx hb dX12_talkIn_1 rfl hl (by decide) rfl (fun ls hl => ?_)
  refine lv_iconst (v := (nI 0)) hx hb dX12_talkIn_2 rfl ?_
  refine lv_istore (lv' := [(4, .int (nI 0)), (3, .int b), (0, .ref (za G 77)), (1, .int b), (2, .int (nI n))]) hx hb dX12_talkIn_3 hl (by decide) rfl (fun ls hl => ?_)
  have L5 : ∀ (f : Nat) (j : Nat) (a : Int32), (j ≤ n) → (a = ziter (fun y => zbehind x y (zhush (x.1 90) (x.1 91) F C) (-1) N) j b) → n + 1 ≤ j + f → ∀ (H : Heap) (locs : List Loc), zI G x A s.heap H locs → ∀ ls : Array Slot, lv_has ls 5 [(0, .ref (za G 77)), (1, .int b), (2, .int (nI n)), (3, .int a), (4, .int (nI j))] → W p l e { frames := 3, cells := 0, slots := 0, locals := 70 } s m ([.ref (za G 77), .int b, .int (nI n)] : List Value).toArray below meth c H locs 0 0 (MQ below (va_Qi (fun (r : Int32) (u : zX) => x = u ∧ ziter (fun y => zbehind x y (zhush (x.1 90) (x.1 91) F C) (-1) N) n b = r) (fun u t => zJ G u A t.heap) A) ([.ref (za G 77), .int b, .int (nI n)] : List Value).toArray s 0 0 A) (F0 m 5 ls []) := by
    intro f
    induction f with
    | zero =>
      intro j a h1 h2 hf
      exact absurd hf (by omega)
    | succ f ih =>
      intro j a h1 h2 hf H locs hI ls hl
      have ih5 := ih
      refine lv_iload hx hb dX12_talkIn_5 (lv_at hl 4 rfl) ?_
      refine lv_iload_n hx hb dX12_talkIn_7 rfl (lv_at hl 2 rfl) ?_
      refine lv_icmp_ge (tgt := 24) hx hb dX12_talkIn_8 (by decide) (fun c_8 => ?_) (fun c_8 => ?_)
      · skip
        rw [zqG (by omega) (by omega)] at c_8
        refine lv_iload_n hx hb dX12_talkIn_24 rfl (lv_at hl 3 rfl) ?_
        exact z_iret hx hb hr hlocks hI (⟨rfl, by rw [h2, show j = n by omega]⟩) dX12_talkIn_25
      · skip
        rw [zqG (by omega) (by omega)] at c_8
        refine lv_aload_n hx hb dX12_talkIn_11 rfl (lv_at hl 0 rfl) ?_
        refine lv_iload_n hx hb dX12_talkIn_12 rfl (lv_at hl 3 rfl) ?_
        refine lv_iconst (v := (-1)) hx hb dX12_talkIn_13 rfl ?_
        refine z_calli (va_runV (As := [.int a, .int (-1)]) (rest := []) ⟨hx, hb, hml, hown, hts⟩ ((c_X12_talkBehind l hG x N F C a (-1) hr0 hcl) A) (cwV 2 hts gX12_talkIn_X12_talkBehind rfl rfl rfl (by decide +kernel) ⟨Nat.le_of_ble_eq_true rfl, Nat.le_of_ble_eq_true rfl⟩) (z_pV hI hK hN (z_recv hK hI (zo77 hG) rfl)) rfl rfl hl.1 rfl (lv_room (Nat.le_of_ble_eq_true rfl)) dX12_talkIn_14 ⟨Nat.zero_le _, Nat.zero_le _⟩) hI (fun r_14 u H locs hw hI => ?_)
        obtain ⟨rfl, rfl⟩ := hw
        refine lv_istore_n (lv' := [(3, .int (zbehind x a (zhush (x.1 90) (x.1 91) F C) (-1) N)), (0, .ref (za G 77)), (1, .int b), (2, .int (nI n)), (4, .int (nI j))]) hx hb dX12_talkIn_17 rfl hl (by decide) rfl (fun ls hl => ?_)
        refine lv_iinc (v := (nI (j + 1))) (lv' := [(4, .int (nI (j + 1))), (3, .int (zbehind x a (zhush (x.1 90) (x.1 91) F C) (-1) N)), (0, .ref (za G 77)), (1, .int b), (2, .int (nI n))]) hx hb dX12_talkIn_18 hl (k := 4) rfl (zinc j) (by decide) rfl (fun ls hl => ?_)
        refine lv_goto (tgt := 5) hx hb dX12_talkIn_21 (by decide) ?_
        exact ih5 (j + 1) (zbehind x a (zhush (x.1 90) (x.1 91) F C) (-1) N) (by omega) (by rw [ziter_s, ← h2]) (by omega) _ _ hI ls (lv_sub hl [2, 3, 4, 1, 0] rfl)
  exact L5 (n + 1) 0 b (by omega) rfl (by omega) _ _ hI ls (lv_sub hl [2, 3, 4, 1, 0] rfl)
