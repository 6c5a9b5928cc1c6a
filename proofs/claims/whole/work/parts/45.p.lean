set_option maxHeartbeats 1000000 in
set_option maxRecDepth 100000 in
theorem c_X12_codes (l : Launch) {G : zG} (hG : zOK G) (x : zX) (N : Nat) (hr0 : zRef x N) (hN6 : N ≤ 6) : zMi l yX12_codes wsX12_codes { frames := 0, cells := 0, slots := 0, locals := 0 } G [.ref (za G 77)] x (fun (r : Int32) (u : zX) => x = u ∧ nI (8 ^ N) = r) := by
  intro A
  refine zBody (cc := cX12_codes) (maxL := 3) (ret := (some .int)) (by decide) rfl (Nat.le_of_ble_eq_true rfl) ?_
  intro p e s m below meth c hx hb hml hown hts hr hlocks hK hN hI ls hl
  have hown : s.vm.findClass RX12 = some m.cls := hown
  have hl : lv_has ls 3 [(0, .ref (za G 77))] := hl
  have hin12 : ∀ w ∈ wsX120, w ∈ wsX12_codes := (fun _ h => List.mem_cons_of_mem _ (List.mem_append_right _ (h)))
  have wF7 := hts (.fieldLink RX12 7 "WhoSitsByModel" "pupils" "I") (z_mem 1 rfl)
  refine lv_iconst (v := (nI 1)) hx hb dX12_codes_0 rfl ?_
  refine lv_istore_n (lv' := [(1, .int (nI 1)), (0, .ref (za G 77))]) hx hb dX12_codes_1 rfl hl (by decide) rfl (fun ls hl => ?_)
  refine lv_iconst (v := (nI 0)) hx hb dX12_codes_2 rfl ?_
  refine lv_istore_n (lv' := [(2, .int (nI 0)), (1, .int (nI 1)), (0, .ref (za G 77))]) hx hb dX12_codes_3 rfl hl (by decide) rfl (fun ls hl => ?_)
  have L4 : ∀ (f : Nat) (j : Nat) (v : Nat), (j ≤ N) → (v = 8 ^ j) → N + 1 ≤ j + f → ∀ (H : Heap) (locs : List Loc), zI G x A s.heap H locs → ∀ ls : Array Slot, lv_has ls 3 [(0, .ref (za G 77)), (1, .int (nI v)), (2, .int (nI j))] → W p l e { frames := 0, cells := 0, slots := 0, locals := 0 } s m ([.ref (za G 77)] : List Value).toArray below meth c H locs 0 0 (MQ below (va_Qi (fun (r : Int32) (u : zX) => x = u ∧ nI (8 ^ N) = r) (fun u t => zJ G u A t.heap) A) ([.ref (za G 77)] : List Value).toArray s 0 0 A) (F0 m 4 ls []) := by
    intro f
    induction f with
    | zero =>
      intro j v h1 h2 hf
      exact absurd hf (by omega)
    | succ f ih =>
      intro j v h1 h2 hf H locs hI ls hl
      have ih4 := ih
      refine lv_iload_n hx hb dX12_codes_4 rfl (lv_at hl 2 rfl) ?_
      refine lv_aload_n hx hb dX12_codes_5 rfl (lv_at hl 0 rfl) ?_
      refine z_get (C := RX12) (T := TX12) (N := 51) (ci := 12) (v := .int (nI N)) hx hb hts hin12 hown hK hI (zo77 hG) rfl 0 (by decide) wF7 (fun _ h9 => h9) (congrArg (fun q => some (Value.int q)) hr0.2.1) dX12_codes_6 ?_
      refine lv_icmp_ge (tgt := 23) hx hb dX12_codes_9 (by decide) (fun c_9 => ?_) (fun c_9 => ?_)
      · skip
        rw [zqG (by omega) (by omega)] at c_9
        refine lv_iload_n hx hb dX12_codes_23 rfl (lv_at hl 1 rfl) ?_
        exact z_iret hx hb hr hlocks hI (⟨rfl, by rw [h2, show j = N by omega]⟩) dX12_codes_24
      · skip
        rw [zqG (by omega) (by omega)] at c_9
        refine lv_iload_n hx hb dX12_codes_12 rfl (lv_at hl 1 rfl) ?_
        refine lv_bipush (v := (nI 8)) hx hb dX12_codes_13 rfl ?_
        refine z_imul (v := (nI (v * 8))) hx hb (pk_mul _ _) dX12_codes_15 ?_
        refine lv_istore_n (lv' := [(1, .int (nI (v * 8))), (0, .ref (za G 77)), (2, .int (nI j))]) hx hb dX12_codes_16 rfl hl (by decide) rfl (fun ls hl => ?_)
        refine lv_iinc (v := (nI (j + 1))) (lv' := [(2, .int (nI (j + 1))), (1, .int (nI (v * 8))), (0, .ref (za G 77))]) hx hb dX12_codes_17 hl (k := 2) rfl (zinc j) (by decide) rfl (fun ls hl => ?_)
        refine lv_goto (tgt := 4) hx hb dX12_codes_20 (by decide) ?_
        exact ih4 (j + 1) (v * 8) (by omega) (by rw [h2, Nat.pow_succ]) (by omega) _ _ hI ls (lv_sub hl [2, 1, 0] rfl)
  exact L4 (N + 1) 0 1 (by omega) rfl (by omega) _ _ hI ls (lv_sub hl [2, 1, 0] rfl)
set_option maxHeartbeats 1000000 in
set_option maxRecDepth 100000 in
theorem c_X12_next (l : Launch) {G : zG} (hG : zOK G) (x : zX) (p1 F : Nat) (hat : x.1 77 15 = nI p1) (hfd : x.1 77 14 = nI F) (hF : F ≤ 100) (hp1 : p1 ≤ 100) : zMi l yX12_next wsX12_next { frames := 0, cells := 0, slots := 0, locals := 0 } G [.ref (za G 77)] x (fun (r : Int32) (u : zX) => x = u ∧ (if p1 < F then x.1 88 p1 else -1) = r) := by
  intro A
  refine zBody (cc := cX12_next) (maxL := 1) (ret := (some .int)) (by decide) rfl (Nat.le_of_ble_eq_true rfl) ?_
  intro p e s m below meth c hx hb hml hown hts hr hlocks hK hN hI ls hl
  have hown : s.vm.findClass RX12 = some m.cls := hown
  have hl : lv_has ls 1 [(0, .ref (za G 77))] := hl
  have hin12 : ∀ w ∈ wsX120, w ∈ wsX12_next := (fun _ h => List.mem_cons_of_mem _ (List.mem_append_right _ (h)))
  have wF57 := hts (.fieldLink RX12 57 "WhoSitsByModel" "at" "I") (z_mem 1 rfl)
  have wF54 := hts (.fieldLink RX12 54 "WhoSitsByModel" "fed" "I") (z_mem 2 rfl)
  have wF63 := hts (.fieldLink RX12 63 "WhoSitsByModel" "text" "[I") (z_mem 3 rfl)
  refine lv_aload_n hx hb dX12_next_0 rfl (lv_at hl 0 rfl) ?_
  refine z_get (C := RX12) (T := TX12) (N := 51) (ci := 12) (v := .int (nI p1)) hx hb hts hin12 hown hK hI (zo77 hG) rfl 15 (by decide) wF57 (fun _ h9 => h9) (congrArg (fun q => some (Value.int q)) hat) dX12_next_1 ?_
  refine lv_aload_n hx hb dX12_next_4 rfl (lv_at hl 0 rfl) ?_
  refine z_get (C := RX12) (T := TX12) (N := 51) (ci := 12) (v := .int (nI F)) hx hb hts hin12 hown hK hI (zo77 hG) rfl 14 (by decide) wF54 (fun _ h9 => h9) (congrArg (fun q => some (Value.int q)) hfd) dX12_next_5 ?_
  refine lv_icmp_ge (tgt := 23) hx hb dX12_next_8 (by decide) (fun c_8 => ?_) (fun c_8 => ?_)
  · skip
    rw [zqG (by omega) (by omega)] at c_8
    refine lv_iconst (v := (-1)) hx hb dX12_next_23 rfl ?_
    exact z_iret hx hb hr hlocks hI (⟨rfl, if_neg (by omega)⟩) dX12_next_24
  · skip
    rw [zqG (by omega) (by omega)] at c_8
    refine lv_aload_n hx hb dX12_next_11 rfl (lv_at hl 0 rfl) ?_
    refine z_get (C := RX12) (T := TX12) (N := 51) (ci := 12) (v := .ref (za G 88)) hx hb hts hin12 hown hK hI (zo77 hG) rfl 17 (by decide) wF63 (fun _ h9 => h9) rfl dX12_next_12 ?_
    refine lv_aload_n hx hb dX12_next_15 rfl (lv_at hl 0 rfl) ?_
    refine z_get (C := RX12) (T := TX12) (N := 51) (ci := 12) (v := .int (nI p1)) hx hb hts hin12 hown hK hI (zo77 hG) rfl 15 (by decide) wF57 (fun _ h9 => h9) (congrArg (fun q => some (Value.int q)) hat) dX12_next_16 ?_
    refine z_iald (v := (x.1 88 p1)) hx hb hK hI (zo88 hG) p1 rfl (by omega) (by decide) rfl dX12_next_19 ?_
    refine lv_goto (tgt := 24) hx hb dX12_next_20 (by decide) ?_
    exact z_iret hx hb hr hlocks hI (⟨rfl, if_pos (by omega)⟩) dX12_next_24
set_option maxHeartbeats 1000000 in
set_option maxRecDepth 100000 in
theorem c_X12_layRow (l : Launch) {G : zG} (hG : zOK G) (x : zX) (N c1 : Nat) (hr0 : zRef x N) (hN6 : N ≤ 6) (hc1 : c1 < 262144) : zMi l yX12_layRow wsX12_layRow { frames := 0, cells := 0, slots := 0, locals := 0 } G [.ref (za G 77), .int (nI c1)] x (fun (r : Int32) (u : zX) => zsrI x 100 (zlay x N c1).1 = u ∧ (if (zlay x N c1).2 = true then nI 1 else nI 0) = r) := by
  intro A
  refine zBody (cc := cX12_layRow) (maxL := 5) (ret := (some .boolean)) (by decide) rfl (Nat.le_of_ble_eq_true rfl) ?_
  intro p e s m below meth c hx hb hml hown hts hr hlocks hK hN hI ls hl
  have hown : s.vm.findClass RX12 = some m.cls := hown
  have hl : lv_has ls 5 [(0, .ref (za G 77)), (1, .int (nI c1))] := hl
  have hin12 : ∀ w ∈ wsX120, w ∈ wsX12_layRow := (fun _ h => List.mem_cons_of_mem _ (List.mem_append_right _ (h)))
  have wF7 := hts (.fieldLink RX12 7 "WhoSitsByModel" "pupils" "I") (z_mem 2 rfl)
  have wF108 := hts (.fieldLink RX12 108 "WhoSitsByModel" "there" "[I") (z_mem 1 rfl)
  have h8 := hr0.1
  refine lv_iconst (v := (nI 0)) hx hb dX12_layRow_0 rfl ?_
  refine lv_istore_n (lv' := [(2, .int (nI 0)), (0, .ref (za G 77)), (1, .int (nI c1))]) hx hb dX12_layRow_1 rfl hl (by decide) rfl (fun ls hl => ?_)
  have L2 : ∀ (f : Nat) (j : Nat) (u0 : zX), (j ≤ 8) → (zsrI x 100 (zputn (fun _ => -1) (x.1 100) j) = u0) → 9 ≤ j + f → ∀ (H : Heap) (locs : List Loc), zI G u0 A s.heap H locs → ∀ ls : Array Slot, lv_has ls 5 [(0, .ref (za G 77)), (1, .int (nI c1)), (2, .int (nI j))] → W p l e { frames := 0, cells := 0, slots := 0, locals := 0 } s m ([.ref (za G 77), .int (nI c1)] : List Value).toArray below meth c H locs 0 0 (MQ below (va_Qi (fun (r : Int32) (u : zX) => zsrI x 100 (zlay x N c1).1 = u ∧ (if (zlay x N c1).2 = true then nI 1 else nI 0) = r) (fun u t => zJ G u A t.heap) A) ([.ref (za G 77), .int (nI c1)] : List Value).toArray s 0 0 A) (F0 m 2 ls []) := by
    intro f
    induction f with
    | zero =>
      intro j u0 h1 hst0 hf
      exact absurd hf (by omega)
    | succ f ih =>
      intro j u0 h1 hst0 hf H locs hI ls hl
      have ih2 := ih
      refine lv_iload_n hx hb dX12_layRow_2 rfl (lv_at hl 2 rfl) ?_
      refine lv_bipush (v := (nI 8)) hx hb dX12_layRow_3 rfl ?_
      refine lv_icmp_ge (tgt := 21) hx hb dX12_layRow_5 (by decide) (fun c_5 => ?_) (fun c_5 => ?_)
      · skip
        rw [zqG (by omega) (by omega)] at c_5
        refine lv_iload_n hx hb dX12_layRow_21 rfl (lv_at hl 1 rfl) ?_
        refine lv_istore_n (lv' := [(2, .int (nI c1)), (0, .ref (za G 77)), (1, .int (nI c1))]) hx hb dX12_layRow_22 rfl hl (by decide) rfl (fun ls hl => ?_)
        refine lv_aload_n hx hb dX12_layRow_23 rfl (lv_at hl 1 rfl) ?_
        refine z_get (C := RX12) (T := TX12) (N := 51) (ci := 12) (v := .int (nI N)) hx hb hts hin12 hown hK hI (zo77 hG) rfl 0 (by decide) wF7 (fun _ h9 => h9) (congrArg (fun q => some (Value.int q)) (by rw [← hst0]; exact hr0.2.1)) dX12_layRow_24 ?_
        refine lv_iconst (v := (nI 1)) hx hb dX12_layRow_27 rfl ?_
        refine z_isub (v := (nI N - nI 1)) hx hb rfl dX12_layRow_28 ?_
        refine lv_istore_n (lv' := [(3, .int (nI N - nI 1)), (2, .int (nI c1)), (0, .ref (za G 77)), (1, .int (nI c1))]) hx hb dX12_layRow_29 rfl hl (by decide) rfl (fun ls hl => ?_)
        have L30 : ∀ (f : Nat) (i1 : Nat) (v : Nat) (y : Int32) (g : Nat → Int32) (u : zX), (i1 ≤ N) → (v < 262144) → (y = nI i1 - nI 1) → (zsrI x 100 g = u) → (zlay x N c1 = zlr i1 v g) → i1 < f → ∀ (H : Heap) (locs : List Loc), zI G u A s.heap H locs → ∀ ls : Array Slot, lv_has ls 5 [(0, .ref (za G 77)), (1, .int (nI c1)), (2, .int (nI v)), (3, .int y)] → W p l e { frames := 0, cells := 0, slots := 0, locals := 0 } s m ([.ref (za G 77), .int (nI c1)] : List Value).toArray below meth c H locs 0 0 (MQ below (va_Qi (fun (r : Int32) (u : zX) => zsrI x 100 (zlay x N c1).1 = u ∧ (if (zlay x N c1).2 = true then nI 1 else nI 0) = r) (fun u t => zJ G u A t.heap) A) ([.ref (za G 77), .int (nI c1)] : List Value).toArray s 0 0 A) (F0 m 30 ls []) := by
          intro f
          induction f with
          | zero =>
            intro i1 v y g u h3 hv hy hst h4 hf
            exact absurd hf (by omega)
          | succ f ih =>
            intro i1 v y g u h3 hv hy hst h4 hf H locs hI ls hl
            have ih30 := ih
            refine lv_iload_n hx hb dX12_layRow_30 rfl (lv_at hl 3 rfl) ?_
            refine lv_if_lt (tgt := 71) hx hb dX12_layRow_31 (by decide) (fun c_31 => ?_) (fun c_31 => ?_)
            · skip
              refine lv_iconst (v := (nI 1)) hx hb dX12_layRow_71 rfl ?_
              exact z_zret hx hb hr hlocks hI (Or.inr rfl) (⟨(by rw [h4, (z_pred (show i1 ≤ 8 by omega)).mp (by rw [← hy]; exact c_31)]; exact hst), by rw [h4, (z_pred (show i1 ≤ 8 by omega)).mp (by rw [← hy]; exact c_31)]; rfl⟩) dX12_layRow_72
            · skip
              obtain ⟨i2, rfl⟩ : ∃ i2, i1 = i2 + 1 := ⟨i1 - 1, by have h9 : ¬ i1 = 0 := fun q => c_31 (by rw [hy]; exact (z_pred (by omega)).mpr q); omega⟩
              have hy2 : y = nI i2 := hy.trans (z_sub1 (by omega))
              subst hy2
              refine lv_iload_n hx hb dX12_layRow_34 rfl (lv_at hl 2 rfl) ?_
              refine lv_bipush (v := (nI 8)) hx hb dX12_layRow_35 rfl ?_
              refine z_irem (v := (nI (v % 8))) hx hb (pk_rem (by omega) (by omega) (by omega)) dX12_layRow_37 (by decide) ?_
              refine lv_istore (lv' := [(4, .int (nI (v % 8))), (0, .ref (za G 77)), (1, .int (nI c1)), (2, .int (nI v)), (3, .int (nI i2))]) hx hb dX12_layRow_38 hl (by decide) rfl (fun ls hl => ?_)
              refine lv_iload_n hx hb dX12_layRow_40 rfl (lv_at hl 3 rfl) ?_
              refine lv_bipush (v := (nI 8)) hx hb dX12_layRow_41 rfl ?_
              refine z_idiv (v := (nI (v / 8))) hx hb (pk_div (by omega) (by omega) (by omega)) dX12_layRow_43 (by decide) ?_
              refine lv_istore_n (lv' := [(2, .int (nI (v / 8))), (4, .int (nI (v % 8))), (0, .ref (za G 77)), (1, .int (nI c1)), (3, .int (nI i2))]) hx hb dX12_layRow_44 rfl hl (by decide) rfl (fun ls hl => ?_)
              refine lv_aload_n hx hb dX12_layRow_45 rfl (lv_at hl 2 rfl) ?_
              refine z_get (C := RX12) (T := TX12) (N := 51) (ci := 12) (v := .ref (za G 100)) hx hb hts hin12 hown hK hI (zo77 hG) rfl 32 (by decide) wF108 (fun _ h9 => h9) rfl dX12_layRow_46 ?_
              refine lv_iload hx hb dX12_layRow_49 (lv_at hl 1 rfl) ?_
              refine z_iald (v := (g (v % 8))) hx hb hK hI (zo100 hG) (v % 8) rfl (by omega) (by decide) (by rw [← hst]; exact congrFun zsrI_u _) dX12_layRow_51 ?_
              refine lv_if_lt (tgt := 57) hx hb dX12_layRow_52 (by decide) (fun c_52 => ?_) (fun c_52 => ?_)
              · skip
                refine lv_aload_n hx hb dX12_layRow_57 rfl (lv_at hl 2 rfl) ?_
                refine z_get (C := RX12) (T := TX12) (N := 51) (ci := 12) (v := .ref (za G 100)) hx hb hts hin12 hown hK hI (zo77 hG) rfl 32 (by decide) wF108 (fun _ h9 => h9) rfl dX12_layRow_58 ?_
                refine lv_iload hx hb dX12_layRow_61 (lv_at hl 1 rfl) ?_
                refine lv_iload_n hx hb dX12_layRow_63 rfl (lv_at hl 4 rfl) ?_
                refine z_iast (y := (nI i2)) hx hb hK hI (zo100 hG) (v % 8) rfl (by omega) (by decide) dX12_layRow_64 (fun H locs hI => ?_)
                refine lv_iinc (v := (nI i2 - nI 1)) (lv' := [(3, .int (nI i2 - nI 1)), (2, .int (nI (v / 8))), (4, .int (nI (v % 8))), (0, .ref (za G 77)), (1, .int (nI c1))]) hx hb dX12_layRow_65 hl (k := 4) rfl (z_dec i2) (by decide) rfl (fun ls hl => ?_)
                refine lv_goto (tgt := 30) hx hb dX12_layRow_68 (by decide) ?_
                exact ih30 i2 (v / 8) (nI i2 - nI 1) (upd g (v % 8) (nI i2)) (zsI u 100 (v % 8) (nI i2)) (by omega) (by omega) rfl (by subst hst; rw [zsI_r, zsrI_u, zsrI_t]) (by rw [h4, zlr_y c_52]) (by omega) _ _ hI ls (lv_sub hl [3, 4, 1, 0] rfl)
              · skip
                refine lv_iconst (v := (nI 0)) hx hb dX12_layRow_55 rfl ?_
                exact z_zret hx hb hr hlocks hI (Or.inl rfl) (⟨(by rw [h4, zlr_n c_52]; exact hst), by rw [h4, zlr_n c_52]; rfl⟩) dX12_layRow_56
        exact L30 (N + 1) N c1 (nI N - nI 1) (zputn (fun _ => -1) (x.1 100) 8) u0 (by omega) hc1 rfl (by rw [← hst0, show j = 8 by omega]) rfl (by omega) _ _ hI ls (lv_sub hl [2, 3, 1, 0] rfl)
      · skip
        rw [zqG (by omega) (by omega)] at c_5
        refine lv_aload_n hx hb dX12_layRow_8 rfl (lv_at hl 0 rfl) ?_
        refine z_get (C := RX12) (T := TX12) (N := 51) (ci := 12) (v := .ref (za G 100)) hx hb hts hin12 hown hK hI (zo77 hG) rfl 32 (by decide) wF108 (fun _ h9 => h9) rfl dX12_layRow_9 ?_
        refine lv_iload_n hx hb dX12_layRow_12 rfl (lv_at hl 2 rfl) ?_
        refine lv_iconst (v := (-1)) hx hb dX12_layRow_13 rfl ?_
        refine z_iast (y := (-1)) hx hb hK hI (zo100 hG) j rfl (by omega) (by decide) dX12_layRow_14 (fun H locs hI => ?_)
        refine lv_iinc (v := (nI (j + 1))) (lv' := [(2, .int (nI (j + 1))), (0, .ref (za G 77)), (1, .int (nI c1))]) hx hb dX12_layRow_15 hl (k := 2) rfl (zinc j) (by decide) rfl (fun ls hl => ?_)
        refine lv_goto (tgt := 2) hx hb dX12_layRow_18 (by decide) ?_
        exact ih2 (j + 1) (zsI u0 100 j (-1)) (by omega) (by subst hst0; exact (zput_w (g := fun _ => -1)).symm) (by omega) _ _ hI ls (lv_sub hl [1, 2, 0] rfl)
  exact L2 (9) 0 x (by omega) (by rw [zput_0]; exact zsrI_e) (by omega) _ _ hI ls (lv_sub hl [1, 2, 0] rfl)
set_option maxHeartbeats 1000000 in
set_option maxRecDepth 100000 in
theorem c_X12_keepRow (l : Launch) {G : zG} (hG : zOK G) (x : zX)  (hrw : zrow (x.1 100)) : zMv l yX12_keepRow wsX12_keepRow { frames := 0, cells := 0, slots := 0, locals := 0 } G [.ref (za G 77)] x (fun (u : zX) => zsrI x 101 (zkp (x.1 100) (x.1 101) 8) = u) := by
  intro A
  refine zBody (cc := cX12_keepRow) (maxL := 2) (ret := none) (by decide) rfl (Nat.le_of_ble_eq_true rfl) ?_
  intro p e s m below meth c hx hb hml hown hts hr hlocks hK hN hI ls hl
  have hown : s.vm.findClass RX12 = some m.cls := hown
  have hl : lv_has ls 2 [(0, .ref (za G 77))] := hl
  have hin12 : ∀ w ∈ wsX120, w ∈ wsX12_keepRow := (fun _ h => List.mem_cons_of_mem _ (List.mem_append_right _ (h)))
  have wF108 := hts (.fieldLink RX12 108 "WhoSitsByModel" "there" "[I") (z_mem 1 rfl)
  have wF111 := hts (.fieldLink RX12 111 "WhoSitsByModel" "foundSeat" "[I") (z_mem 2 rfl)
  refine lv_iconst (v := (nI 0)) hx hb dX12_keepRow_0 rfl ?_
  refine lv_istore_n (lv' := [(1, .int (nI 0)), (0, .ref (za G 77))]) hx hb dX12_keepRow_1 rfl hl (by decide) rfl (fun ls hl => ?_)
  have L2 : ∀ (f : Nat) (j : Nat) (u : zX), (j ≤ 8) → (zsrI x 101 (zkp (x.1 100) (x.1 101) j) = u) → 9 ≤ j + f → ∀ (H : Heap) (locs : List Loc), zI G u A s.heap H locs → ∀ ls : Array Slot, lv_has ls 2 [(0, .ref (za G 77)), (1, .int (nI j))] → W p l e { frames := 0, cells := 0, slots := 0, locals := 0 } s m ([.ref (za G 77)] : List Value).toArray below meth c H locs 0 0 (MQ below (va_Qv (fun (u : zX) => zsrI x 101 (zkp (x.1 100) (x.1 101) 8) = u) (fun u t => zJ G u A t.heap) A) ([.ref (za G 77)] : List Value).toArray s 0 0 A) (F0 m 2 ls []) := by
    intro f
    induction f with
    | zero =>
      intro j u h1 hst hf
      exact absurd hf (by omega)
    | succ f ih =>
      intro j u h1 hst hf H locs hI ls hl
      have ih2 := ih
      refine lv_iload_n hx hb dX12_keepRow_2 rfl (lv_at hl 1 rfl) ?_
      refine lv_bipush (v := (nI 8)) hx hb dX12_keepRow_3 rfl ?_
      refine lv_icmp_ge (tgt := 35) hx hb dX12_keepRow_5 (by decide) (fun c_5 => ?_) (fun c_5 => ?_)
      · skip
        rw [zqG (by omega) (by omega)] at c_5
        exact z_vret hx hb hr hlocks hI ((by rw [← hst, show j = 8 by omega])) dX12_keepRow_35
      · skip
        rw [zqG (by omega) (by omega)] at c_5
        rcases hrw j (by omega) with hA | ⟨qa, hqa, hA⟩
        · skip
          refine lv_aload_n hx hb dX12_keepRow_8 rfl (lv_at hl 0 rfl) ?_
          refine z_get (C := RX12) (T := TX12) (N := 51) (ci := 12) (v := .ref (za G 100)) hx hb hts hin12 hown hK hI (zo77 hG) rfl 32 (by decide) wF108 (fun _ h9 => h9) rfl dX12_keepRow_9 ?_
          refine lv_iload_n hx hb dX12_keepRow_12 rfl (lv_at hl 1 rfl) ?_
          refine z_iald (v := (-1)) hx hb hK hI (zo100 hG) j rfl (by omega) (by decide) ((show u.1 100 j = x.1 100 j by rw [← hst]; rfl).trans hA) dX12_keepRow_13 ?_
          refine lv_if_lt (tgt := 29) hx hb dX12_keepRow_14 (by decide) (fun c_14 => ?_) (fun c_14 => ?_)
          · skip
            refine lv_iinc (v := (nI (j + 1))) (lv' := [(1, .int (nI (j + 1))), (0, .ref (za G 77))]) hx hb dX12_keepRow_29 hl (k := 1) rfl (zinc j) (by decide) rfl (fun ls hl => ?_)
            refine lv_goto (tgt := 2) hx hb dX12_keepRow_32 (by decide) ?_
            exact ih2 (j + 1) u (by omega) (by rw [zkp, if_pos (show x.1 100 j < 0 by rw [hA]; decide)]; exact hst) (by omega) _ _ hI ls (lv_sub hl [1, 0] rfl)
          · skip
            exact absurd (by decide) c_14
        · skip
          refine lv_aload_n hx hb dX12_keepRow_8 rfl (lv_at hl 0 rfl) ?_
          refine z_get (C := RX12) (T := TX12) (N := 51) (ci := 12) (v := .ref (za G 100)) hx hb hts hin12 hown hK hI (zo77 hG) rfl 32 (by decide) wF108 (fun _ h9 => h9) rfl dX12_keepRow_9 ?_
          refine lv_iload_n hx hb dX12_keepRow_12 rfl (lv_at hl 1 rfl) ?_
          refine z_iald (v := (nI qa)) hx hb hK hI (zo100 hG) j rfl (by omega) (by decide) ((show u.1 100 j = x.1 100 j by rw [← hst]; rfl).trans hA) dX12_keepRow_13 ?_
          refine lv_if_lt (tgt := 29) hx hb dX12_keepRow_14 (by decide) (fun c_14 => ?_) (fun c_14 => ?_)
          · skip
            rw [show (0 : Int32) = nI 0 from rfl] at c_14; rw [zqL (by omega) (by omega)] at c_14
            exact absurd c_14 (by omega)
          · skip
            rw [show (0 : Int32) = nI 0 from rfl] at c_14; rw [zqL (by omega) (by omega)] at c_14
            refine lv_aload_n hx hb dX12_keepRow_17 rfl (lv_at hl 0 rfl) ?_
            refine z_get (C := RX12) (T := TX12) (N := 51) (ci := 12) (v := .ref (za G 101)) hx hb hts hin12 hown hK hI (zo77 hG) rfl 33 (by decide) wF111 (fun _ h9 => h9) rfl dX12_keepRow_18 ?_
            refine lv_aload_n hx hb dX12_keepRow_21 rfl (lv_at hl 0 rfl) ?_
            refine z_get (C := RX12) (T := TX12) (N := 51) (ci := 12) (v := .ref (za G 100)) hx hb hts hin12 hown hK hI (zo77 hG) rfl 32 (by decide) wF108 (fun _ h9 => h9) rfl dX12_keepRow_22 ?_
            refine lv_iload_n hx hb dX12_keepRow_25 rfl (lv_at hl 1 rfl) ?_
            refine z_iald (v := (nI qa)) hx hb hK hI (zo100 hG) j rfl (by omega) (by decide) ((show u.1 100 j = x.1 100 j by rw [← hst]; rfl).trans hA) dX12_keepRow_26 ?_
            refine lv_iload_n hx hb dX12_keepRow_27 rfl (lv_at hl 1 rfl) ?_
            refine z_iast (y := (nI j)) hx hb hK hI (zo101 hG) qa rfl (by omega) (by decide) dX12_keepRow_28 (fun H locs hI => ?_)
            refine lv_iinc (v := (nI (j + 1))) (lv' := [(1, .int (nI (j + 1))), (0, .ref (za G 77))]) hx hb dX12_keepRow_29 hl (k := 1) rfl (zinc j) (by decide) rfl (fun ls hl => ?_)
            refine lv_goto (tgt := 2) hx hb dX12_keepRow_32 (by decide) ?_
            exact ih2 (j + 1) (zsI u 101 qa (nI j)) (by omega) (by rw [zkp, if_neg (show ¬ x.1 100 j < 0 by rw [hA]; exact nI_pos (by omega)), hA, nI_clamp (by omega)]; subst hst; rw [zsI_r, zsrI_u, zsrI_t]) (by omega) _ _ hI ls (lv_sub hl [1, 0] rfl)
  exact L2 (9) 0 x (by omega) zsrI_e (by omega) _ _ hI ls (lv_sub hl [1, 0] rfl)
