set_option maxHeartbeats 1000000 in
set_option maxRecDepth 100000 in
theorem c_X12_across (l : Launch) {G : zG} (hG : zOK G) (x : zX) (t : Nat) (ht : t < 8) : zMi l yX12_across wsX12_across { frames := 0, cells := 0, slots := 0, locals := 0 } G [.ref (za G 77), .int (nI t)] x (fun (r : Int32) (u : zX) => x = u ∧ zac x t = r) := by
  intro A
  refine zBody (cc := cX12_across) (maxL := 3) (ret := (some .int)) (by decide) rfl (Nat.le_of_ble_eq_true rfl) ?_
  intro p e s m below meth c hx hb hml hown hts hr hlocks hK hN hI ls hl
  have hown : s.vm.findClass RX12 = some m.cls := hown
  have hl : lv_has ls 3 [(0, .ref (za G 77)), (1, .int (nI t))] := hl
  have hin12 : ∀ w ∈ wsX120, w ∈ wsX12_across := (fun _ h => List.mem_cons_of_mem _ (List.mem_append_right _ (h)))
  have wF108 := hts (.fieldLink RX12 108 "WhoSitsByModel" "there" "[I") (z_mem 1 rfl)
  have hz3 := zxor3 ht
  refine lv_iload_n hx hb dX12_across_0 rfl (lv_at hl 1 rfl) ?_
  refine lv_iconst (v := (nI 2)) hx hb dX12_across_1 rfl ?_
  refine z_idiv (v := (nI (t / 2))) hx hb (pk_div (by omega) (by omega) (by omega)) dX12_across_2 (by decide) ?_
  refine lv_iconst (v := (nI 2)) hx hb dX12_across_3 rfl ?_
  refine z_imul (v := (nI ((t / 2) * 2))) hx hb (pk_mul _ _) dX12_across_4 ?_
  refine lv_iconst (v := (nI 2)) hx hb dX12_across_5 rfl ?_
  refine z_ixor (v := (nI (2 * (t / 2 ^^^ 1)))) hx hb (zxor2 ht) dX12_across_6 ?_
  refine lv_istore_n (lv' := [(2, .int (nI (2 * (t / 2 ^^^ 1)))), (0, .ref (za G 77)), (1, .int (nI t))]) hx hb dX12_across_7 rfl hl (by decide) rfl (fun ls hl => ?_)
  refine lv_aload_n hx hb dX12_across_8 rfl (lv_at hl 1 rfl) ?_
  refine z_get (C := RX12) (T := TX12) (N := 51) (ci := 12) (v := .ref (za G 100)) hx hb hts hin12 hown hK hI (zo77 hG) rfl 32 (by decide) wF108 (fun _ h9 => h9) rfl dX12_across_9 ?_
  refine lv_iload_n hx hb dX12_across_12 rfl (lv_at hl 0 rfl) ?_
  refine z_iald (v := (x.1 100 (2 * (t / 2 ^^^ 1)))) hx hb hK hI (zo100 hG) (2 * (t / 2 ^^^ 1)) rfl (by omega) (by decide) rfl dX12_across_13 ?_
  refine lv_if_lt (tgt := 21) hx hb dX12_across_14 (by decide) (fun c_14 => ?_) (fun c_14 => ?_)
  · skip
    refine lv_iconst (v := (nI 0)) hx hb dX12_across_21 rfl ?_
    refine lv_aload_n hx hb dX12_across_22 rfl (lv_at hl 1 rfl) ?_
    refine z_get (C := RX12) (T := TX12) (N := 51) (ci := 12) (v := .ref (za G 100)) hx hb hts hin12 hown hK hI (zo77 hG) rfl 32 (by decide) wF108 (fun _ h9 => h9) rfl dX12_across_23 ?_
    refine lv_iload_n hx hb dX12_across_26 rfl (lv_at hl 0 rfl) ?_
    refine lv_iconst (v := (nI 1)) hx hb dX12_across_27 rfl ?_
    refine z_iadd (v := (nI ((2 * (t / 2 ^^^ 1)) + 1))) hx hb (nI_add _ _) dX12_across_28 ?_
    refine z_iald (v := (x.1 100 ((2 * (t / 2 ^^^ 1)) + 1))) hx hb hK hI (zo100 hG) ((2 * (t / 2 ^^^ 1)) + 1) rfl (by omega) (by decide) rfl dX12_across_29 ?_
    refine lv_if_lt (tgt := 37) hx hb dX12_across_30 (by decide) (fun c_30 => ?_) (fun c_30 => ?_)
    · skip
      refine lv_iconst (v := (nI 0)) hx hb dX12_across_37 rfl ?_
      refine z_iadd (v := (nI (0 + 0))) hx hb (nI_add _ _) dX12_across_38 ?_
      exact z_iret hx hb hr hlocks hI (⟨rfl, by unfold zac zocR; rw [if_pos c_14, if_pos c_30]; exact nI_add _ _⟩) dX12_across_39
    · skip
      refine lv_iconst (v := (nI 1)) hx hb dX12_across_33 rfl ?_
      refine lv_goto (tgt := 38) hx hb dX12_across_34 (by decide) ?_
      refine z_iadd (v := (nI (0 + 1))) hx hb (nI_add _ _) dX12_across_38 ?_
      exact z_iret hx hb hr hlocks hI (⟨rfl, by unfold zac zocR; rw [if_pos c_14, if_neg c_30]; exact nI_add _ _⟩) dX12_across_39
  · skip
    refine lv_iconst (v := (nI 1)) hx hb dX12_across_17 rfl ?_
    refine lv_goto (tgt := 22) hx hb dX12_across_18 (by decide) ?_
    refine lv_aload_n hx hb dX12_across_22 rfl (lv_at hl 1 rfl) ?_
    refine z_get (C := RX12) (T := TX12) (N := 51) (ci := 12) (v := .ref (za G 100)) hx hb hts hin12 hown hK hI (zo77 hG) rfl 32 (by decide) wF108 (fun _ h9 => h9) rfl dX12_across_23 ?_
    refine lv_iload_n hx hb dX12_across_26 rfl (lv_at hl 0 rfl) ?_
    refine lv_iconst (v := (nI 1)) hx hb dX12_across_27 rfl ?_
    refine z_iadd (v := (nI ((2 * (t / 2 ^^^ 1)) + 1))) hx hb (nI_add _ _) dX12_across_28 ?_
    refine z_iald (v := (x.1 100 ((2 * (t / 2 ^^^ 1)) + 1))) hx hb hK hI (zo100 hG) ((2 * (t / 2 ^^^ 1)) + 1) rfl (by omega) (by decide) rfl dX12_across_29 ?_
    refine lv_if_lt (tgt := 37) hx hb dX12_across_30 (by decide) (fun c_30 => ?_) (fun c_30 => ?_)
    · skip
      refine lv_iconst (v := (nI 0)) hx hb dX12_across_37 rfl ?_
      refine z_iadd (v := (nI (1 + 0))) hx hb (nI_add _ _) dX12_across_38 ?_
      exact z_iret hx hb hr hlocks hI (⟨rfl, by unfold zac zocR; rw [if_neg c_14, if_pos c_30]; exact nI_add _ _⟩) dX12_across_39
    · skip
      refine lv_iconst (v := (nI 1)) hx hb dX12_across_33 rfl ?_
      refine lv_goto (tgt := 38) hx hb dX12_across_34 (by decide) ?_
      refine z_iadd (v := (nI (1 + 1))) hx hb (nI_add _ _) dX12_across_38 ?_
      exact z_iret hx hb hr hlocks hI (⟨rfl, by unfold zac zocR; rw [if_neg c_14, if_neg c_30]; exact nI_add _ _⟩) dX12_across_39
set_option maxHeartbeats 1000000 in
set_option maxRecDepth 100000 in
theorem c_X12_change (l : Launch) {G : zG} (hG : zOK G) (x : zX) (a b : Nat) (h1 : a < 8) (h2 : b < 8) : zMv l yX12_change wsX12_change { frames := 0, cells := 0, slots := 0, locals := 0 } G [.ref (za G 77), .int (nI a), .int (nI b)] x (fun (u : zX) => zsI (zsI x 100 a (x.1 100 b)) 100 b (x.1 100 a) = u) := by
  intro A
  refine zBody (cc := cX12_change) (maxL := 4) (ret := none) (by decide) rfl (Nat.le_of_ble_eq_true rfl) ?_
  intro p e s m below meth c hx hb hml hown hts hr hlocks hK hN hI ls hl
  have hown : s.vm.findClass RX12 = some m.cls := hown
  have hl : lv_has ls 4 [(0, .ref (za G 77)), (1, .int (nI a)), (2, .int (nI b))] := hl
  have hin12 : ∀ w ∈ wsX120, w ∈ wsX12_change := (fun _ h => List.mem_cons_of_mem _ (List.mem_append_right _ (h)))
  have wF108 := hts (.fieldLink RX12 108 "WhoSitsByModel" "there" "[I") (z_mem 1 rfl)
  refine lv_aload_n hx hb dX12_change_0 rfl (lv_at hl 0 rfl) ?_
  refine z_get (C := RX12) (T := TX12) (N := 51) (ci := 12) (v := .ref (za G 100)) hx hb hts hin12 hown hK hI (zo77 hG) rfl 32 (by decide) wF108 (fun _ h9 => h9) rfl dX12_change_1 ?_
  refine lv_iload_n hx hb dX12_change_4 rfl (lv_at hl 1 rfl) ?_
  refine z_iald (v := (x.1 100 a)) hx hb hK hI (zo100 hG) a rfl (by omega) (by decide) rfl dX12_change_5 ?_
  refine lv_istore_n (lv' := [(3, .int (x.1 100 a)), (0, .ref (za G 77)), (1, .int (nI a)), (2, .int (nI b))]) hx hb dX12_change_6 rfl hl (by decide) rfl (fun ls hl => ?_)
  refine lv_aload_n hx hb dX12_change_7 rfl (lv_at hl 1 rfl) ?_
  refine z_get (C := RX12) (T := TX12) (N := 51) (ci := 12) (v := .ref (za G 100)) hx hb hts hin12 hown hK hI (zo77 hG) rfl 32 (by decide) wF108 (fun _ h9 => h9) rfl dX12_change_8 ?_
  refine lv_iload_n hx hb dX12_change_11 rfl (lv_at hl 2 rfl) ?_
  refine lv_aload_n hx hb dX12_change_12 rfl (lv_at hl 1 rfl) ?_
  refine z_get (C := RX12) (T := TX12) (N := 51) (ci := 12) (v := .ref (za G 100)) hx hb hts hin12 hown hK hI (zo77 hG) rfl 32 (by decide) wF108 (fun _ h9 => h9) rfl dX12_change_13 ?_
  refine lv_iload_n hx hb dX12_change_16 rfl (lv_at hl 3 rfl) ?_
  refine z_iald (v := (x.1 100 b)) hx hb hK hI (zo100 hG) b rfl (by omega) (by decide) rfl dX12_change_17 ?_
  refine z_iast (y := (x.1 100 b)) hx hb hK hI (zo100 hG) a rfl (by omega) (by decide) dX12_change_18 (fun H locs hI => ?_)
  refine lv_aload_n hx hb dX12_change_19 rfl (lv_at hl 1 rfl) ?_
  refine z_get (C := RX12) (T := TX12) (N := 51) (ci := 12) (v := .ref (za G 100)) hx hb hts hin12 hown hK hI (zo77 hG) rfl 32 (by decide) wF108 (fun _ h9 => h9) rfl dX12_change_20 ?_
  refine lv_iload_n hx hb dX12_change_23 rfl (lv_at hl 3 rfl) ?_
  refine lv_iload_n hx hb dX12_change_24 rfl (lv_at hl 0 rfl) ?_
  refine z_iast (y := (x.1 100 a)) hx hb hK hI (zo100 hG) b rfl (by omega) (by decide) dX12_change_25 (fun H locs hI => ?_)
  exact z_vret hx hb hr hlocks hI (rfl) dX12_change_26
set_option maxHeartbeats 1000000 in
set_option maxRecDepth 100000 in
theorem c_X12_asIs (l : Launch) {G : zG} (hG : zOK G) (x : zX)   : zMv l yX12_asIs wsX12_asIs { frames := 0, cells := 0, slots := 0, locals := 0 } G [.ref (za G 77)] x (fun (u : zX) => zsrI x 100 (zputn (x.1 85) (x.1 100) 8) = u) := by
  intro A
  refine zBody (cc := cX12_asIs) (maxL := 2) (ret := none) (by decide) rfl (Nat.le_of_ble_eq_true rfl) ?_
  intro p e s m below meth c hx hb hml hown hts hr hlocks hK hN hI ls hl
  have hown : s.vm.findClass RX12 = some m.cls := hown
  have hl : lv_has ls 2 [(0, .ref (za G 77))] := hl
  have hin12 : ∀ w ∈ wsX120, w ∈ wsX12_asIs := (fun _ h => List.mem_cons_of_mem _ (List.mem_append_right _ (h)))
  have wF108 := hts (.fieldLink RX12 108 "WhoSitsByModel" "there" "[I") (z_mem 1 rfl)
  have wF38 := hts (.fieldLink RX12 38 "WhoSitsByModel" "sitter" "[I") (z_mem 2 rfl)
  refine lv_iconst (v := (nI 0)) hx hb dX12_asIs_0 rfl ?_
  refine lv_istore_n (lv' := [(1, .int (nI 0)), (0, .ref (za G 77))]) hx hb dX12_asIs_1 rfl hl (by decide) rfl (fun ls hl => ?_)
  have L2 : ∀ (f : Nat) (j : Nat) (u : zX), (j ≤ 8) → (zsrI x 100 (zputn (x.1 85) (x.1 100) j) = u) → 9 ≤ j + f → ∀ (H : Heap) (locs : List Loc), zI G u A s.heap H locs → ∀ ls : Array Slot, lv_has ls 2 [(0, .ref (za G 77)), (1, .int (nI j))] → W p l e { frames := 0, cells := 0, slots := 0, locals := 0 } s m ([.ref (za G 77)] : List Value).toArray below meth c H locs 0 0 (MQ below (va_Qv (fun (u : zX) => zsrI x 100 (zputn (x.1 85) (x.1 100) 8) = u) (fun u t => zJ G u A t.heap) A) ([.ref (za G 77)] : List Value).toArray s 0 0 A) (F0 m 2 ls []) := by
    intro f
    induction f with
    | zero =>
      intro j u h1 hst hf
      exact absurd hf (by omega)
    | succ f ih =>
      intro j u h1 hst hf H locs hI ls hl
      have ih2 := ih
      refine lv_iload_n hx hb dX12_asIs_2 rfl (lv_at hl 1 rfl) ?_
      refine lv_bipush (v := (nI 8)) hx hb dX12_asIs_3 rfl ?_
      refine lv_icmp_ge (tgt := 26) hx hb dX12_asIs_5 (by decide) (fun c_5 => ?_) (fun c_5 => ?_)
      · skip
        rw [zqG (by omega) (by omega)] at c_5
        exact z_vret hx hb hr hlocks hI ((by rw [← hst, show j = 8 by omega])) dX12_asIs_26
      · skip
        rw [zqG (by omega) (by omega)] at c_5
        refine lv_aload_n hx hb dX12_asIs_8 rfl (lv_at hl 0 rfl) ?_
        refine z_get (C := RX12) (T := TX12) (N := 51) (ci := 12) (v := .ref (za G 100)) hx hb hts hin12 hown hK hI (zo77 hG) rfl 32 (by decide) wF108 (fun _ h9 => h9) rfl dX12_asIs_9 ?_
        refine lv_iload_n hx hb dX12_asIs_12 rfl (lv_at hl 1 rfl) ?_
        refine lv_aload_n hx hb dX12_asIs_13 rfl (lv_at hl 0 rfl) ?_
        refine z_get (C := RX12) (T := TX12) (N := 51) (ci := 12) (v := .ref (za G 85)) hx hb hts hin12 hown hK hI (zo77 hG) rfl 9 (by decide) wF38 (fun _ h9 => h9) rfl dX12_asIs_14 ?_
        refine lv_iload_n hx hb dX12_asIs_17 rfl (lv_at hl 1 rfl) ?_
        refine z_iald (v := (x.1 85 j)) hx hb hK hI (zo85 hG) j rfl (by omega) (by decide) (by rw [← hst]; rfl) dX12_asIs_18 ?_
        refine z_iast (y := (x.1 85 j)) hx hb hK hI (zo100 hG) j rfl (by omega) (by decide) dX12_asIs_19 (fun H locs hI => ?_)
        refine lv_iinc (v := (nI (j + 1))) (lv' := [(1, .int (nI (j + 1))), (0, .ref (za G 77))]) hx hb dX12_asIs_20 hl (k := 1) rfl (zinc j) (by decide) rfl (fun ls hl => ?_)
        refine lv_goto (tgt := 2) hx hb dX12_asIs_23 (by decide) ?_
        exact ih2 (j + 1) (zsI u 100 j (x.1 85 j)) (by omega) (by subst hst; exact (zput_w (g := x.1 85)).symm) (by omega) _ _ hI ls (lv_sub hl [1, 0] rfl)
  exact L2 (9) 0 x (by omega) (by rw [zput_0]; exact zsrI_e) (by omega) _ _ hI ls (lv_sub hl [1, 0] rfl)
set_option maxHeartbeats 1000000 in
set_option maxRecDepth 100000 in
theorem c_X12_worthThere (l : Launch) {G : zG} (hG : zOK G) (x : zX)  (hrw : zrow (x.1 100)) : zMi l yX12_worthThere wsX12_worthThere { frames := 1, cells := 0, slots := 0, locals := 22 } G [.ref (za G 77)] x (fun (r : Int32) (u : zX) => x = u ∧ zsum (zsw x) 8 = r) := by
  intro A
  refine zBody (cc := cX12_worthThere) (maxL := 5) (ret := (some .int)) (by decide) rfl (Nat.le_of_ble_eq_true rfl) ?_
  intro p e s m below meth c hx hb hml hown hts hr hlocks hK hN hI ls hl
  have hown : s.vm.findClass RX12 = some m.cls := hown
  have hl : lv_has ls 5 [(0, .ref (za G 77))] := hl
  have hin12 : ∀ w ∈ wsX120, w ∈ wsX12_worthThere := (fun _ h => List.mem_cons_of_mem _ (List.mem_append_right _ (h)))
  have wF108 := hts (.fieldLink RX12 108 "WhoSitsByModel" "there" "[I") (z_mem 1 rfl)
  have wF102 := hts (.fieldLink RX12 102 "WhoSitsByModel" "worthOf" "[I") (z_mem 2 rfl)
  have wF16 := hts (.fieldLink RX12 16 "WhoSitsByModel" "kind" "[I") (z_mem 3 rfl)
  have wF20 := hts (.fieldLink RX12 20 "WhoSitsByModel" "v" "[I") (z_mem 4 rfl)
  refine lv_iconst (v := (nI 0)) hx hb dX12_worthThere_0 rfl ?_
  refine lv_istore_n (lv' := [(1, .int (nI 0)), (0, .ref (za G 77))]) hx hb dX12_worthThere_1 rfl hl (by decide) rfl (fun ls hl => ?_)
  refine lv_iconst (v := (nI 0)) hx hb dX12_worthThere_2 rfl ?_
  refine lv_istore_n (lv' := [(2, .int (nI 0)), (1, .int (nI 0)), (0, .ref (za G 77))]) hx hb dX12_worthThere_3 rfl hl (by decide) rfl (fun ls hl => ?_)
  have L4 : ∀ (f : Nat) (j : Nat) (a : Int32), (j ≤ 8) → (a = zsum (zsw x) j) → 9 ≤ j + f → ∀ (H : Heap) (locs : List Loc), zI G x A s.heap H locs → ∀ ls : Array Slot, lv_has ls 5 [(0, .ref (za G 77)), (1, .int a), (2, .int (nI j))] → W p l e { frames := 1, cells := 0, slots := 0, locals := 22 } s m ([.ref (za G 77)] : List Value).toArray below meth c H locs 0 0 (MQ below (va_Qi (fun (r : Int32) (u : zX) => x = u ∧ zsum (zsw x) 8 = r) (fun u t => zJ G u A t.heap) A) ([.ref (za G 77)] : List Value).toArray s 0 0 A) (F0 m 4 ls []) := by
    intro f
    induction f with
    | zero =>
      intro j a h1 h2 hf
      exact absurd hf (by omega)
    | succ f ih =>
      intro j a h1 h2 hf H locs hI ls hl
      have ih4 := ih
      refine lv_iload_n hx hb dX12_worthThere_4 rfl (lv_at hl 2 rfl) ?_
      refine lv_bipush (v := (nI 8)) hx hb dX12_worthThere_5 rfl ?_
      refine lv_icmp_ge (tgt := 93) hx hb dX12_worthThere_7 (by decide) (fun c_7 => ?_) (fun c_7 => ?_)
      · skip
        rw [zqG (by omega) (by omega)] at c_7
        refine lv_iload_n hx hb dX12_worthThere_93 rfl (lv_at hl 1 rfl) ?_
        exact z_iret hx hb hr hlocks hI (⟨rfl, by rw [h2, show j = 8 by omega]⟩) dX12_worthThere_94
      · skip
        rw [zqG (by omega) (by omega)] at c_7
        have hz8 : j ^^^ 1 < 8 := zxor8 (by omega)
        rcases hrw j (by omega) with hA | ⟨qa, hqa, hA⟩
        · skip
          refine lv_aload_n hx hb dX12_worthThere_10 rfl (lv_at hl 0 rfl) ?_
          refine z_get (C := RX12) (T := TX12) (N := 51) (ci := 12) (v := .ref (za G 100)) hx hb hts hin12 hown hK hI (zo77 hG) rfl 32 (by decide) wF108 (fun _ h9 => h9) rfl dX12_worthThere_11 ?_
          refine lv_iload_n hx hb dX12_worthThere_14 rfl (lv_at hl 2 rfl) ?_
          refine z_iald (v := (-1)) hx hb hK hI (zo100 hG) j rfl (by omega) (by decide) hA dX12_worthThere_15 ?_
          refine lv_istore_n (lv' := [(3, .int (-1)), (0, .ref (za G 77)), (1, .int a), (2, .int (nI j))]) hx hb dX12_worthThere_16 rfl hl (by decide) rfl (fun ls hl => ?_)
          rcases hrw (j ^^^ 1) hz8 with hB | ⟨qb, hqb, hB⟩
          · skip
            refine lv_aload_n hx hb dX12_worthThere_17 rfl (lv_at hl 1 rfl) ?_
            refine z_get (C := RX12) (T := TX12) (N := 51) (ci := 12) (v := .ref (za G 100)) hx hb hts hin12 hown hK hI (zo77 hG) rfl 32 (by decide) wF108 (fun _ h9 => h9) rfl dX12_worthThere_18 ?_
            refine lv_iload_n hx hb dX12_worthThere_21 rfl (lv_at hl 3 rfl) ?_
            refine lv_iconst (v := (nI 1)) hx hb dX12_worthThere_22 rfl ?_
            refine z_ixor (v := (nI (j ^^^ 1))) hx hb (zxor1 (by omega)) dX12_worthThere_23 ?_
            refine z_iald (v := (-1)) hx hb hK hI (zo100 hG) (j ^^^ 1) rfl hz8 (by decide) hB dX12_worthThere_24 ?_
            refine lv_istore (lv' := [(4, .int (-1)), (3, .int (-1)), (0, .ref (za G 77)), (1, .int a), (2, .int (nI j))]) hx hb dX12_worthThere_25 hl (by decide) rfl (fun ls hl => ?_)
            refine lv_iload_n hx hb dX12_worthThere_27 rfl (lv_at hl 1 rfl) ?_
            refine lv_if_lt (tgt := 87) hx hb dX12_worthThere_28 (by decide) (fun c_28 => ?_) (fun c_28 => ?_)
            · skip
              refine lv_iinc (v := (nI (j + 1))) (lv' := [(2, .int (nI (j + 1))), (4, .int (-1)), (3, .int (-1)), (0, .ref (za G 77)), (1, .int a)]) hx hb dX12_worthThere_87 hl (k := 4) rfl (zinc j) (by decide) rfl (fun ls hl => ?_)
              refine lv_goto (tgt := 4) hx hb dX12_worthThere_90 (by decide) ?_
              exact ih4 (j + 1) a (by omega) (zsum_f h2 (zsw_0 (Or.inl hA))) (by omega) _ _ hI ls (lv_sub hl [3, 4, 0] rfl)
            · skip
              exact absurd (by decide) c_28
          · skip
            refine lv_aload_n hx hb dX12_worthThere_17 rfl (lv_at hl 1 rfl) ?_
            refine z_get (C := RX12) (T := TX12) (N := 51) (ci := 12) (v := .ref (za G 100)) hx hb hts hin12 hown hK hI (zo77 hG) rfl 32 (by decide) wF108 (fun _ h9 => h9) rfl dX12_worthThere_18 ?_
            refine lv_iload_n hx hb dX12_worthThere_21 rfl (lv_at hl 3 rfl) ?_
            refine lv_iconst (v := (nI 1)) hx hb dX12_worthThere_22 rfl ?_
            refine z_ixor (v := (nI (j ^^^ 1))) hx hb (zxor1 (by omega)) dX12_worthThere_23 ?_
            refine z_iald (v := (nI qb)) hx hb hK hI (zo100 hG) (j ^^^ 1) rfl hz8 (by decide) hB dX12_worthThere_24 ?_
            refine lv_istore (lv' := [(4, .int (nI qb)), (3, .int (-1)), (0, .ref (za G 77)), (1, .int a), (2, .int (nI j))]) hx hb dX12_worthThere_25 hl (by decide) rfl (fun ls hl => ?_)
            refine lv_iload_n hx hb dX12_worthThere_27 rfl (lv_at hl 1 rfl) ?_
            refine lv_if_lt (tgt := 87) hx hb dX12_worthThere_28 (by decide) (fun c_28 => ?_) (fun c_28 => ?_)
            · skip
              refine lv_iinc (v := (nI (j + 1))) (lv' := [(2, .int (nI (j + 1))), (4, .int (nI qb)), (3, .int (-1)), (0, .ref (za G 77)), (1, .int a)]) hx hb dX12_worthThere_87 hl (k := 4) rfl (zinc j) (by decide) rfl (fun ls hl => ?_)
              refine lv_goto (tgt := 4) hx hb dX12_worthThere_90 (by decide) ?_
              exact ih4 (j + 1) a (by omega) (zsum_f h2 (zsw_0 (Or.inl hA))) (by omega) _ _ hI ls (lv_sub hl [3, 4, 0] rfl)
            · skip
              exact absurd (by decide) c_28
        · skip
          refine lv_aload_n hx hb dX12_worthThere_10 rfl (lv_at hl 0 rfl) ?_
          refine z_get (C := RX12) (T := TX12) (N := 51) (ci := 12) (v := .ref (za G 100)) hx hb hts hin12 hown hK hI (zo77 hG) rfl 32 (by decide) wF108 (fun _ h9 => h9) rfl dX12_worthThere_11 ?_
          refine lv_iload_n hx hb dX12_worthThere_14 rfl (lv_at hl 2 rfl) ?_
          refine z_iald (v := (nI qa)) hx hb hK hI (zo100 hG) j rfl (by omega) (by decide) hA dX12_worthThere_15 ?_
          refine lv_istore_n (lv' := [(3, .int (nI qa)), (0, .ref (za G 77)), (1, .int a), (2, .int (nI j))]) hx hb dX12_worthThere_16 rfl hl (by decide) rfl (fun ls hl => ?_)
          rcases hrw (j ^^^ 1) hz8 with hB | ⟨qb, hqb, hB⟩
          · skip
            refine lv_aload_n hx hb dX12_worthThere_17 rfl (lv_at hl 1 rfl) ?_
            refine z_get (C := RX12) (T := TX12) (N := 51) (ci := 12) (v := .ref (za G 100)) hx hb hts hin12 hown hK hI (zo77 hG) rfl 32 (by decide) wF108 (fun _ h9 => h9) rfl dX12_worthThere_18 ?_
            refine lv_iload_n hx hb dX12_worthThere_21 rfl (lv_at hl 3 rfl) ?_
            refine lv_iconst (v := (nI 1)) hx hb dX12_worthThere_22 rfl ?_
            refine z_ixor (v := (nI (j ^^^ 1))) hx hb (zxor1 (by omega)) dX12_worthThere_23 ?_
            refine z_iald (v := (-1)) hx hb hK hI (zo100 hG) (j ^^^ 1) rfl hz8 (by decide) hB dX12_worthThere_24 ?_
            refine lv_istore (lv' := [(4, .int (-1)), (3, .int (nI qa)), (0, .ref (za G 77)), (1, .int a), (2, .int (nI j))]) hx hb dX12_worthThere_25 hl (by decide) rfl (fun ls hl => ?_)
            refine lv_iload_n hx hb dX12_worthThere_27 rfl (lv_at hl 1 rfl) ?_
            refine lv_if_lt (tgt := 87) hx hb dX12_worthThere_28 (by decide) (fun c_28 => ?_) (fun c_28 => ?_)
            · skip
              rw [show (0 : Int32) = nI 0 from rfl] at c_28; rw [zqL (by omega) (by omega)] at c_28
              exact absurd c_28 (by omega)
            · skip
              rw [show (0 : Int32) = nI 0 from rfl] at c_28; rw [zqL (by omega) (by omega)] at c_28
              refine lv_iload hx hb dX12_worthThere_31 (lv_at hl 0 rfl) ?_
              refine lv_if_ge (tgt := 39) hx hb dX12_worthThere_33 (by decide) (fun c_33 => ?_) (fun c_33 => ?_)
              · skip
                exact absurd c_33 (by decide)
              · skip
                refine lv_goto (tgt := 87) hx hb dX12_worthThere_36 (by decide) ?_
                refine lv_iinc (v := (nI (j + 1))) (lv' := [(2, .int (nI (j + 1))), (4, .int (-1)), (3, .int (nI qa)), (0, .ref (za G 77)), (1, .int a)]) hx hb dX12_worthThere_87 hl (k := 4) rfl (zinc j) (by decide) rfl (fun ls hl => ?_)
                refine lv_goto (tgt := 4) hx hb dX12_worthThere_90 (by decide) ?_
                exact ih4 (j + 1) a (by omega) (zsum_f h2 (zsw_0 (Or.inr hB))) (by omega) _ _ hI ls (lv_sub hl [3, 4, 0] rfl)
          · skip
            refine lv_aload_n hx hb dX12_worthThere_17 rfl (lv_at hl 1 rfl) ?_
            refine z_get (C := RX12) (T := TX12) (N := 51) (ci := 12) (v := .ref (za G 100)) hx hb hts hin12 hown hK hI (zo77 hG) rfl 32 (by decide) wF108 (fun _ h9 => h9) rfl dX12_worthThere_18 ?_
            refine lv_iload_n hx hb dX12_worthThere_21 rfl (lv_at hl 3 rfl) ?_
            refine lv_iconst (v := (nI 1)) hx hb dX12_worthThere_22 rfl ?_
            refine z_ixor (v := (nI (j ^^^ 1))) hx hb (zxor1 (by omega)) dX12_worthThere_23 ?_
            refine z_iald (v := (nI qb)) hx hb hK hI (zo100 hG) (j ^^^ 1) rfl hz8 (by decide) hB dX12_worthThere_24 ?_
            refine lv_istore (lv' := [(4, .int (nI qb)), (3, .int (nI qa)), (0, .ref (za G 77)), (1, .int a), (2, .int (nI j))]) hx hb dX12_worthThere_25 hl (by decide) rfl (fun ls hl => ?_)
            refine lv_iload_n hx hb dX12_worthThere_27 rfl (lv_at hl 1 rfl) ?_
            refine lv_if_lt (tgt := 87) hx hb dX12_worthThere_28 (by decide) (fun c_28 => ?_) (fun c_28 => ?_)
            · skip
              rw [show (0 : Int32) = nI 0 from rfl] at c_28; rw [zqL (by omega) (by omega)] at c_28
              exact absurd c_28 (by omega)
            · skip
              rw [show (0 : Int32) = nI 0 from rfl] at c_28; rw [zqL (by omega) (by omega)] at c_28
              refine lv_iload hx hb dX12_worthThere_31 (lv_at hl 0 rfl) ?_
              refine lv_if_ge (tgt := 39) hx hb dX12_worthThere_33 (by decide) (fun c_33 => ?_) (fun c_33 => ?_)
              · skip
                rw [show (0 : Int32) = nI 0 from rfl] at c_33; rw [zqG (by omega) (by omega)] at c_33
                refine lv_iload_n hx hb dX12_worthThere_39 rfl (lv_at hl 3 rfl) ?_
                refine lv_aload_n hx hb dX12_worthThere_40 rfl (lv_at hl 2 rfl) ?_
                refine z_get (C := RX12) (T := TX12) (N := 51) (ci := 12) (v := .ref (za G 98)) hx hb hts hin12 hown hK hI (zo77 hG) rfl 30 (by decide) wF102 (fun _ h9 => h9) rfl dX12_worthThere_41 ?_
                refine lv_bipush (v := (nI 16)) hx hb dX12_worthThere_44 rfl ?_
                refine lv_iload_n hx hb dX12_worthThere_46 rfl (lv_at hl 1 rfl) ?_
                refine z_imul (v := (nI (16 * qa))) hx hb (pk_mul _ _) dX12_worthThere_47 ?_
                refine lv_iconst (v := (nI 2)) hx hb dX12_worthThere_48 rfl ?_
                refine lv_iload hx hb dX12_worthThere_49 (lv_at hl 0 rfl) ?_
                refine z_imul (v := (nI (2 * qb))) hx hb (pk_mul _ _) dX12_worthThere_51 ?_
                refine z_iadd (v := (nI ((16 * qa) + (2 * qb)))) hx hb (nI_add _ _) dX12_worthThere_52 ?_
                refine lv_iload_n hx hb dX12_worthThere_53 rfl (lv_at hl 4 rfl) ?_
                refine lv_iconst (v := (nI 4)) hx hb dX12_worthThere_54 rfl ?_
                refine z_idiv (v := (nI (j / 4))) hx hb (pk_div (by omega) (by omega) (by omega)) dX12_worthThere_55 (by decide) ?_
                refine z_iadd (v := (nI (((16 * qa) + (2 * qb)) + (j / 4)))) hx hb (nI_add _ _) dX12_worthThere_56 ?_
                refine z_iald (v := (x.1 98 (((16 * qa) + (2 * qb)) + (j / 4)))) hx hb hK hI (zo98 hG) (((16 * qa) + (2 * qb)) + (j / 4)) rfl (by omega) (by decide) rfl dX12_worthThere_57 ?_
                refine lv_aload_n hx hb dX12_worthThere_58 rfl (lv_at hl 2 rfl) ?_
                refine z_get (C := RX12) (T := TX12) (N := 51) (ci := 12) (v := .ref (za G 78)) hx hb hts hin12 hown hK hI (zo77 hG) rfl 2 (by decide) wF16 (fun _ h9 => h9) rfl dX12_worthThere_59 ?_
                refine lv_iload_n hx hb dX12_worthThere_62 rfl (lv_at hl 1 rfl) ?_
                refine z_iald (v := (x.1 78 qa)) hx hb hK hI (zo78 hG) qa rfl (by omega) (by decide) rfl dX12_worthThere_63 ?_
                refine lv_iconst (v := (nI 5)) hx hb dX12_worthThere_64 rfl ?_
                refine lv_icmp_ne (tgt := 83) hx hb dX12_worthThere_65 (by decide) (fun c_65 => ?_) (fun c_65 => ?_)
                · skip
                  refine lv_iconst (v := (nI 0)) hx hb dX12_worthThere_83 rfl ?_
                  refine lv_isub hx hb dX12_worthThere_84 ?_
                  refine lv_iadd hx hb dX12_worthThere_85 ?_
                  refine lv_istore_n (lv' := [(1, .int (a + ((x.1 98 (((16 * qa) + (2 * qb)) + (j / 4))) - (nI 0)))), (4, .int (nI qb)), (3, .int (nI qa)), (0, .ref (za G 77)), (2, .int (nI j))]) hx hb dX12_worthThere_86 rfl hl (by decide) rfl (fun ls hl => ?_)
                  refine lv_iinc (v := (nI (j + 1))) (lv' := [(2, .int (nI (j + 1))), (1, .int (a + ((x.1 98 (((16 * qa) + (2 * qb)) + (j / 4))) - (nI 0)))), (4, .int (nI qb)), (3, .int (nI qa)), (0, .ref (za G 77))]) hx hb dX12_worthThere_87 hl (k := 4) rfl (zinc j) (by decide) rfl (fun ls hl => ?_)
                  refine lv_goto (tgt := 4) hx hb dX12_worthThere_90 (by decide) ?_
                  exact ih4 (j + 1) (a + ((x.1 98 (((16 * qa) + (2 * qb)) + (j / 4))) - (nI 0))) (by omega) (zsum_t h2 ((zsw_v hA hB hqa hqb).trans (by rw [if_neg c_65]))) (by omega) _ _ hI ls (lv_sub hl [4, 1, 0] rfl)
                · skip
                  refine lv_aload_n hx hb dX12_worthThere_68 rfl (lv_at hl 2 rfl) ?_
                  refine z_get (C := RX12) (T := TX12) (N := 51) (ci := 12) (v := .ref (za G 79)) hx hb hts hin12 hown hK hI (zo77 hG) rfl 3 (by decide) wF20 (fun _ h9 => h9) rfl dX12_worthThere_69 ?_
                  refine lv_iload_n hx hb dX12_worthThere_72 rfl (lv_at hl 1 rfl) ?_
                  refine z_iald (v := (x.1 79 qa)) hx hb hK hI (zo79 hG) qa rfl (by omega) (by decide) rfl dX12_worthThere_73 ?_
                  refine lv_aload_n hx hb dX12_worthThere_74 rfl (lv_at hl 2 rfl) ?_
                  refine lv_iload_n hx hb dX12_worthThere_75 rfl (lv_at hl 4 rfl) ?_
                  refine z_calli (va_runV (As := [.int (nI j)]) (rest := [.int (x.1 79 qa), .int (x.1 98 (((16 * qa) + (2 * qb)) + (j / 4))), .int a]) ⟨hx, hb, hml, hown, hts⟩ ((c_X12_across l hG x j (by omega)) A) (cwV 1 hts gX12_worthThere_X12_across rfl rfl rfl (by decide +kernel) ⟨Nat.le_of_ble_eq_true rfl, Nat.le_of_ble_eq_true rfl⟩) (z_pV hI hK hN (z_recv hK hI (zo77 hG) rfl)) rfl rfl hl.1 rfl (lv_room (Nat.le_of_ble_eq_true rfl)) dX12_worthThere_76 ⟨Nat.zero_le _, Nat.zero_le _⟩) hI (fun r_76 u H locs hw hI => ?_)
                  obtain ⟨rfl, rfl⟩ := hw
                  refine lv_imul hx hb dX12_worthThere_79 ?_
                  refine lv_goto (tgt := 84) hx hb dX12_worthThere_80 (by decide) ?_
                  refine lv_isub hx hb dX12_worthThere_84 ?_
                  refine lv_iadd hx hb dX12_worthThere_85 ?_
                  refine lv_istore_n (lv' := [(1, .int (a + ((x.1 98 (((16 * qa) + (2 * qb)) + (j / 4))) - ((x.1 79 qa) * (zac x j))))), (4, .int (nI qb)), (3, .int (nI qa)), (0, .ref (za G 77)), (2, .int (nI j))]) hx hb dX12_worthThere_86 rfl hl (by decide) rfl (fun ls hl => ?_)
                  refine lv_iinc (v := (nI (j + 1))) (lv' := [(2, .int (nI (j + 1))), (1, .int (a + ((x.1 98 (((16 * qa) + (2 * qb)) + (j / 4))) - ((x.1 79 qa) * (zac x j))))), (4, .int (nI qb)), (3, .int (nI qa)), (0, .ref (za G 77))]) hx hb dX12_worthThere_87 hl (k := 4) rfl (zinc j) (by decide) rfl (fun ls hl => ?_)
                  refine lv_goto (tgt := 4) hx hb dX12_worthThere_90 (by decide) ?_
                  exact ih4 (j + 1) (a + ((x.1 98 (((16 * qa) + (2 * qb)) + (j / 4))) - ((x.1 79 qa) * (zac x j)))) (by omega) (zsum_t h2 ((zsw_v hA hB hqa hqb).trans (by rw [if_pos c_65]))) (by omega) _ _ hI ls (lv_sub hl [4, 1, 0] rfl)
              · skip
                rw [show (0 : Int32) = nI 0 from rfl] at c_33; rw [zqG (by omega) (by omega)] at c_33
                exact absurd c_33 (by omega)
  exact L4 (9) 0 (nI 0) (by omega) rfl (by omega) _ _ hI ls (lv_sub hl [2, 1, 0] rfl)
set_option maxHeartbeats 1000000 in
set_option maxRecDepth 100000 in
theorem c_X12_breaksThere (l : Launch) {G : zG} (hG : zOK G) (x : zX) (aim : Int32) (hrw : zrow (x.1 100)) : zMi l yX12_breaksThere wsX12_breaksThere { frames := 0, cells := 0, slots := 0, locals := 0 } G [.ref (za G 77), .int aim] x (fun (r : Int32) (u : zX) => x = u ∧ zsum (zsk x aim) 8 = r) := by
  intro A
  refine zBody (cc := cX12_breaksThere) (maxL := 6) (ret := (some .int)) (by decide) rfl (Nat.le_of_ble_eq_true rfl) ?_
  intro p e s m below meth c hx hb hml hown hts hr hlocks hK hN hI ls hl
  have hown : s.vm.findClass RX12 = some m.cls := hown
  have hl : lv_has ls 6 [(0, .ref (za G 77)), (1, .int aim)] := hl
  have hin12 : ∀ w ∈ wsX120, w ∈ wsX12_breaksThere := (fun _ h => List.mem_cons_of_mem _ (List.mem_append_right _ (h)))
  have wF108 := hts (.fieldLink RX12 108 "WhoSitsByModel" "there" "[I") (z_mem 1 rfl)
  have wF41 := hts (.fieldLink RX12 41 "WhoSitsByModel" "needsFront" "[Z") (z_mem 3 rfl)
  have wF105 := hts (.fieldLink RX12 105 "WhoSitsByModel" "barredOf" "[Z") (z_mem 2 rfl)
  refine lv_iconst (v := (nI 0)) hx hb dX12_breaksThere_0 rfl ?_
  refine lv_istore_n (lv' := [(2, .int (nI 0)), (0, .ref (za G 77)), (1, .int aim)]) hx hb dX12_breaksThere_1 rfl hl (by decide) rfl (fun ls hl => ?_)
  refine lv_iconst (v := (nI 0)) hx hb dX12_breaksThere_2 rfl ?_
  refine lv_istore_n (lv' := [(3, .int (nI 0)), (2, .int (nI 0)), (0, .ref (za G 77)), (1, .int aim)]) hx hb dX12_breaksThere_3 rfl hl (by decide) rfl (fun ls hl => ?_)
  have L4 : ∀ (f : Nat) (j : Nat) (a : Int32), (j ≤ 8) → (a = zsum (zsk x aim) j) → 9 ≤ j + f → ∀ (H : Heap) (locs : List Loc), zI G x A s.heap H locs → ∀ ls : Array Slot, lv_has ls 6 [(0, .ref (za G 77)), (1, .int aim), (2, .int a), (3, .int (nI j))] → W p l e { frames := 0, cells := 0, slots := 0, locals := 0 } s m ([.ref (za G 77), .int aim] : List Value).toArray below meth c H locs 0 0 (MQ below (va_Qi (fun (r : Int32) (u : zX) => x = u ∧ zsum (zsk x aim) 8 = r) (fun u t => zJ G u A t.heap) A) ([.ref (za G 77), .int aim] : List Value).toArray s 0 0 A) (F0 m 4 ls []) := by
    intro f
    induction f with
    | zero =>
      intro j a h1 h2 hf
      exact absurd hf (by omega)
    | succ f ih =>
      intro j a h1 h2 hf H locs hI ls hl
      have ih4 := ih
      refine lv_iload_n hx hb dX12_breaksThere_4 rfl (lv_at hl 3 rfl) ?_
      refine lv_bipush (v := (nI 8)) hx hb dX12_breaksThere_5 rfl ?_
      refine lv_icmp_ge (tgt := 117) hx hb dX12_breaksThere_7 (by decide) (fun c_7 => ?_) (fun c_7 => ?_)
      · skip
        rw [zqG (by omega) (by omega)] at c_7
        refine lv_iload_n hx hb dX12_breaksThere_117 rfl (lv_at hl 2 rfl) ?_
        exact z_iret hx hb hr hlocks hI (⟨rfl, by rw [h2, show j = 8 by omega]⟩) dX12_breaksThere_118
      · skip
        rw [zqG (by omega) (by omega)] at c_7
        have hz8 : j ^^^ 1 < 8 := zxor8 (by omega)
        rcases hrw j (by omega) with hA | ⟨qa, hqa, hA⟩
        · skip
          refine lv_aload_n hx hb dX12_breaksThere_10 rfl (lv_at hl 0 rfl) ?_
          refine z_get (C := RX12) (T := TX12) (N := 51) (ci := 12) (v := .ref (za G 100)) hx hb hts hin12 hown hK hI (zo77 hG) rfl 32 (by decide) wF108 (fun _ h9 => h9) rfl dX12_breaksThere_11 ?_
          refine lv_iload_n hx hb dX12_breaksThere_14 rfl (lv_at hl 3 rfl) ?_
          refine z_iald (v := (-1)) hx hb hK hI (zo100 hG) j rfl (by omega) (by decide) hA dX12_breaksThere_15 ?_
          refine lv_istore (lv' := [(4, .int (-1)), (0, .ref (za G 77)), (1, .int aim), (2, .int a), (3, .int (nI j))]) hx hb dX12_breaksThere_16 hl (by decide) rfl (fun ls hl => ?_)
          rcases hrw (j ^^^ 1) hz8 with hB | ⟨qb, hqb, hB⟩
          · skip
            refine lv_aload_n hx hb dX12_breaksThere_18 rfl (lv_at hl 1 rfl) ?_
            refine z_get (C := RX12) (T := TX12) (N := 51) (ci := 12) (v := .ref (za G 100)) hx hb hts hin12 hown hK hI (zo77 hG) rfl 32 (by decide) wF108 (fun _ h9 => h9) rfl dX12_breaksThere_19 ?_
            refine lv_iload_n hx hb dX12_breaksThere_22 rfl (lv_at hl 4 rfl) ?_
            refine lv_iconst (v := (nI 1)) hx hb dX12_breaksThere_23 rfl ?_
            refine z_ixor (v := (nI (j ^^^ 1))) hx hb (zxor1 (by omega)) dX12_breaksThere_24 ?_
            refine z_iald (v := (-1)) hx hb hK hI (zo100 hG) (j ^^^ 1) rfl hz8 (by decide) hB dX12_breaksThere_25 ?_
            refine lv_istore (lv' := [(5, .int (-1)), (4, .int (-1)), (0, .ref (za G 77)), (1, .int aim), (2, .int a), (3, .int (nI j))]) hx hb dX12_breaksThere_26 hl (by decide) rfl (fun ls hl => ?_)
            refine lv_iload_n hx hb dX12_breaksThere_28 rfl (lv_at hl 4 rfl) ?_
            have J29 : ∀ (jv : Int32), jv = (if zk1 x aim j then nI 1 else nI 0) → ∀ (H : Heap) (locs : List Loc), zI G x A s.heap H locs → W p l e { frames := 0, cells := 0, slots := 0, locals := 0 } s m ([.ref (za G 77), .int aim] : List Value).toArray below meth c H locs 0 0 (MQ below (va_Qi (fun (r : Int32) (u : zX) => x = u ∧ zsum (zsk x aim) 8 = r) (fun u t => zJ G u A t.heap) A) ([.ref (za G 77), .int aim] : List Value).toArray s 0 0 A) (F0 m 76 ls [.int jv, .int a]) := by
              intro jv hjv H locs hI
              subst hjv
              refine lv_iadd hx hb dX12_breaksThere_76 ?_
              refine lv_istore_n (lv' := [(2, .int (a + (if zk1 x aim j then nI 1 else nI 0))), (5, .int (-1)), (4, .int (-1)), (0, .ref (za G 77)), (1, .int aim), (3, .int (nI j))]) hx hb dX12_breaksThere_77 rfl hl (by decide) rfl (fun ls hl => ?_)
              refine lv_iload_n hx hb dX12_breaksThere_78 rfl (lv_at hl 0 rfl) ?_
              have J79 : ∀ (jv : Int32), jv = (if zk2 x aim j then nI 1 else nI 0) → ∀ (H : Heap) (locs : List Loc), zI G x A s.heap H locs → W p l e { frames := 0, cells := 0, slots := 0, locals := 0 } s m ([.ref (za G 77), .int aim] : List Value).toArray below meth c H locs 0 0 (MQ below (va_Qi (fun (r : Int32) (u : zX) => x = u ∧ zsum (zsk x aim) 8 = r) (fun u t => zJ G u A t.heap) A) ([.ref (za G 77), .int aim] : List Value).toArray s 0 0 A) (F0 m 109 ls [.int jv, .int (a + (if zk1 x aim j then nI 1 else nI 0))]) := by
                intro jv hjv H locs hI
                subst hjv
                refine lv_iadd hx hb dX12_breaksThere_109 ?_
                refine lv_istore_n (lv' := [(2, .int ((a + (if zk1 x aim j then nI 1 else nI 0)) + (if zk2 x aim j then nI 1 else nI 0))), (5, .int (-1)), (4, .int (-1)), (0, .ref (za G 77)), (1, .int aim), (3, .int (nI j))]) hx hb dX12_breaksThere_110 rfl hl (by decide) rfl (fun ls hl => ?_)
                refine lv_iinc (v := (nI (j + 1))) (lv' := [(3, .int (nI (j + 1))), (2, .int ((a + (if zk1 x aim j then nI 1 else nI 0)) + (if zk2 x aim j then nI 1 else nI 0))), (5, .int (-1)), (4, .int (-1)), (0, .ref (za G 77)), (1, .int aim)]) hx hb dX12_breaksThere_111 hl (k := 5) rfl (zinc j) (by decide) rfl (fun ls hl => ?_)
                refine lv_goto (tgt := 4) hx hb dX12_breaksThere_114 (by decide) ?_
                exact ih4 (j + 1) ((a + (if zk1 x aim j then nI 1 else nI 0)) + (if zk2 x aim j then nI 1 else nI 0)) (by omega) (by rw [zsum, ← h2]; exact Int32.add_assoc _ _ _) (by omega) _ _ hI ls (lv_sub hl [4, 5, 1, 0] rfl)
              refine lv_iload_n hx hb dX12_breaksThere_79 rfl (lv_at hl 4 rfl) ?_
              refine lv_iconst (v := (nI 1)) hx hb dX12_breaksThere_80 rfl ?_
              refine lv_icmp_eq (tgt := 108) hx hb dX12_breaksThere_81 (by decide) (fun c_81 => ?_) (fun c_81 => ?_)
              · skip
                refine lv_iconst (v := (nI 0)) hx hb dX12_breaksThere_108 rfl ?_
                exact J79 _ (if_neg (fun h : zk2 x aim j => h.1 c_81)).symm _ _ hI
              · skip
                refine lv_iload_n hx hb dX12_breaksThere_84 rfl (lv_at hl 5 rfl) ?_
                refine lv_iconst (v := (nI 3)) hx hb dX12_breaksThere_85 rfl ?_
                refine lv_icmp_le (tgt := 108) hx hb dX12_breaksThere_86 (by decide) (fun c_86 => ?_) (fun c_86 => ?_)
                · skip
                  rw [zqG (by omega) (by omega)] at c_86
                  refine lv_iconst (v := (nI 0)) hx hb dX12_breaksThere_108 rfl ?_
                  exact J79 _ (if_neg (fun h : zk2 x aim j => h.2.1 (by omega))).symm _ _ hI
                · skip
                  rw [zqG (by omega) (by omega)] at c_86
                  refine lv_iload hx hb dX12_breaksThere_89 (lv_at hl 2 rfl) ?_
                  refine lv_if_lt (tgt := 108) hx hb dX12_breaksThere_91 (by decide) (fun c_91 => ?_) (fun c_91 => ?_)
                  · skip
                    refine lv_iconst (v := (nI 0)) hx hb dX12_breaksThere_108 rfl ?_
                    exact J79 _ (if_neg (fun h : zk2 x aim j => h.2.2.1 (by rw [hA]; decide))).symm _ _ hI
                  · skip
                    exact absurd (by decide) c_91
            refine lv_iload_n hx hb dX12_breaksThere_29 rfl (lv_at hl 3 rfl) ?_
            refine lv_if_eq (tgt := 75) hx hb dX12_breaksThere_30 (by decide) (fun c_30 => ?_) (fun c_30 => ?_)
            · skip
              refine lv_iconst (v := (nI 0)) hx hb dX12_breaksThere_75 rfl ?_
              exact J29 _ (if_neg (fun h : zk1 x aim j => h.1 c_30)).symm _ _ hI
            · skip
              refine lv_iload_n hx hb dX12_breaksThere_33 rfl (lv_at hl 5 rfl) ?_
              refine lv_iconst (v := (nI 2)) hx hb dX12_breaksThere_34 rfl ?_
              refine z_irem (v := (nI (j % 2))) hx hb (pk_rem (by omega) (by omega) (by omega)) dX12_breaksThere_35 (by decide) ?_
              refine lv_if_ne (tgt := 75) hx hb dX12_breaksThere_36 (by decide) (fun c_36 => ?_) (fun c_36 => ?_)
              · skip
                rw [show (0 : Int32) = nI 0 from rfl] at c_36; rw [zqE (by omega) (by omega)] at c_36
                refine lv_iconst (v := (nI 0)) hx hb dX12_breaksThere_75 rfl ?_
                exact J29 _ (if_neg (fun h : zk1 x aim j => c_36 h.2.1)).symm _ _ hI
              · skip
                rw [show (0 : Int32) = nI 0 from rfl] at c_36; rw [zqE (by omega) (by omega)] at c_36
                refine lv_iload hx hb dX12_breaksThere_39 (lv_at hl 1 rfl) ?_
                refine lv_if_lt (tgt := 75) hx hb dX12_breaksThere_41 (by decide) (fun c_41 => ?_) (fun c_41 => ?_)
                · skip
                  refine lv_iconst (v := (nI 0)) hx hb dX12_breaksThere_75 rfl ?_
                  exact J29 _ (if_neg (fun h : zk1 x aim j => h.2.2.1 (by rw [hA]; decide))).symm _ _ hI
                · skip
                  exact absurd (by decide) c_41
          · skip
            refine lv_aload_n hx hb dX12_breaksThere_18 rfl (lv_at hl 1 rfl) ?_
            refine z_get (C := RX12) (T := TX12) (N := 51) (ci := 12) (v := .ref (za G 100)) hx hb hts hin12 hown hK hI (zo77 hG) rfl 32 (by decide) wF108 (fun _ h9 => h9) rfl dX12_breaksThere_19 ?_
            refine lv_iload_n hx hb dX12_breaksThere_22 rfl (lv_at hl 4 rfl) ?_
            refine lv_iconst (v := (nI 1)) hx hb dX12_breaksThere_23 rfl ?_
            refine z_ixor (v := (nI (j ^^^ 1))) hx hb (zxor1 (by omega)) dX12_breaksThere_24 ?_
            refine z_iald (v := (nI qb)) hx hb hK hI (zo100 hG) (j ^^^ 1) rfl hz8 (by decide) hB dX12_breaksThere_25 ?_
            refine lv_istore (lv' := [(5, .int (nI qb)), (4, .int (-1)), (0, .ref (za G 77)), (1, .int aim), (2, .int a), (3, .int (nI j))]) hx hb dX12_breaksThere_26 hl (by decide) rfl (fun ls hl => ?_)
            refine lv_iload_n hx hb dX12_breaksThere_28 rfl (lv_at hl 4 rfl) ?_
            have J29 : ∀ (jv : Int32), jv = (if zk1 x aim j then nI 1 else nI 0) → ∀ (H : Heap) (locs : List Loc), zI G x A s.heap H locs → W p l e { frames := 0, cells := 0, slots := 0, locals := 0 } s m ([.ref (za G 77), .int aim] : List Value).toArray below meth c H locs 0 0 (MQ below (va_Qi (fun (r : Int32) (u : zX) => x = u ∧ zsum (zsk x aim) 8 = r) (fun u t => zJ G u A t.heap) A) ([.ref (za G 77), .int aim] : List Value).toArray s 0 0 A) (F0 m 76 ls [.int jv, .int a]) := by
              intro jv hjv H locs hI
              subst hjv
              refine lv_iadd hx hb dX12_breaksThere_76 ?_
              refine lv_istore_n (lv' := [(2, .int (a + (if zk1 x aim j then nI 1 else nI 0))), (5, .int (nI qb)), (4, .int (-1)), (0, .ref (za G 77)), (1, .int aim), (3, .int (nI j))]) hx hb dX12_breaksThere_77 rfl hl (by decide) rfl (fun ls hl => ?_)
              refine lv_iload_n hx hb dX12_breaksThere_78 rfl (lv_at hl 0 rfl) ?_
              have J79 : ∀ (jv : Int32), jv = (if zk2 x aim j then nI 1 else nI 0) → ∀ (H : Heap) (locs : List Loc), zI G x A s.heap H locs → W p l e { frames := 0, cells := 0, slots := 0, locals := 0 } s m ([.ref (za G 77), .int aim] : List Value).toArray below meth c H locs 0 0 (MQ below (va_Qi (fun (r : Int32) (u : zX) => x = u ∧ zsum (zsk x aim) 8 = r) (fun u t => zJ G u A t.heap) A) ([.ref (za G 77), .int aim] : List Value).toArray s 0 0 A) (F0 m 109 ls [.int jv, .int (a + (if zk1 x aim j then nI 1 else nI 0))]) := by
                intro jv hjv H locs hI
                subst hjv
                refine lv_iadd hx hb dX12_breaksThere_109 ?_
                refine lv_istore_n (lv' := [(2, .int ((a + (if zk1 x aim j then nI 1 else nI 0)) + (if zk2 x aim j then nI 1 else nI 0))), (5, .int (nI qb)), (4, .int (-1)), (0, .ref (za G 77)), (1, .int aim), (3, .int (nI j))]) hx hb dX12_breaksThere_110 rfl hl (by decide) rfl (fun ls hl => ?_)
                refine lv_iinc (v := (nI (j + 1))) (lv' := [(3, .int (nI (j + 1))), (2, .int ((a + (if zk1 x aim j then nI 1 else nI 0)) + (if zk2 x aim j then nI 1 else nI 0))), (5, .int (nI qb)), (4, .int (-1)), (0, .ref (za G 77)), (1, .int aim)]) hx hb dX12_breaksThere_111 hl (k := 5) rfl (zinc j) (by decide) rfl (fun ls hl => ?_)
                refine lv_goto (tgt := 4) hx hb dX12_breaksThere_114 (by decide) ?_
                exact ih4 (j + 1) ((a + (if zk1 x aim j then nI 1 else nI 0)) + (if zk2 x aim j then nI 1 else nI 0)) (by omega) (by rw [zsum, ← h2]; exact Int32.add_assoc _ _ _) (by omega) _ _ hI ls (lv_sub hl [4, 5, 1, 0] rfl)
              refine lv_iload_n hx hb dX12_breaksThere_79 rfl (lv_at hl 4 rfl) ?_
              refine lv_iconst (v := (nI 1)) hx hb dX12_breaksThere_80 rfl ?_
              refine lv_icmp_eq (tgt := 108) hx hb dX12_breaksThere_81 (by decide) (fun c_81 => ?_) (fun c_81 => ?_)
              · skip
                refine lv_iconst (v := (nI 0)) hx hb dX12_breaksThere_108 rfl ?_
                exact J79 _ (if_neg (fun h : zk2 x aim j => h.1 c_81)).symm _ _ hI
              · skip
                refine lv_iload_n hx hb dX12_breaksThere_84 rfl (lv_at hl 5 rfl) ?_
                refine lv_iconst (v := (nI 3)) hx hb dX12_breaksThere_85 rfl ?_
                refine lv_icmp_le (tgt := 108) hx hb dX12_breaksThere_86 (by decide) (fun c_86 => ?_) (fun c_86 => ?_)
                · skip
                  rw [zqG (by omega) (by omega)] at c_86
                  refine lv_iconst (v := (nI 0)) hx hb dX12_breaksThere_108 rfl ?_
                  exact J79 _ (if_neg (fun h : zk2 x aim j => h.2.1 (by omega))).symm _ _ hI
                · skip
                  rw [zqG (by omega) (by omega)] at c_86
                  refine lv_iload hx hb dX12_breaksThere_89 (lv_at hl 2 rfl) ?_
                  refine lv_if_lt (tgt := 108) hx hb dX12_breaksThere_91 (by decide) (fun c_91 => ?_) (fun c_91 => ?_)
                  · skip
                    refine lv_iconst (v := (nI 0)) hx hb dX12_breaksThere_108 rfl ?_
                    exact J79 _ (if_neg (fun h : zk2 x aim j => h.2.2.1 (by rw [hA]; decide))).symm _ _ hI
                  · skip
                    exact absurd (by decide) c_91
            refine lv_iload_n hx hb dX12_breaksThere_29 rfl (lv_at hl 3 rfl) ?_
            refine lv_if_eq (tgt := 75) hx hb dX12_breaksThere_30 (by decide) (fun c_30 => ?_) (fun c_30 => ?_)
            · skip
              refine lv_iconst (v := (nI 0)) hx hb dX12_breaksThere_75 rfl ?_
              exact J29 _ (if_neg (fun h : zk1 x aim j => h.1 c_30)).symm _ _ hI
            · skip
              refine lv_iload_n hx hb dX12_breaksThere_33 rfl (lv_at hl 5 rfl) ?_
              refine lv_iconst (v := (nI 2)) hx hb dX12_breaksThere_34 rfl ?_
              refine z_irem (v := (nI (j % 2))) hx hb (pk_rem (by omega) (by omega) (by omega)) dX12_breaksThere_35 (by decide) ?_
              refine lv_if_ne (tgt := 75) hx hb dX12_breaksThere_36 (by decide) (fun c_36 => ?_) (fun c_36 => ?_)
              · skip
                rw [show (0 : Int32) = nI 0 from rfl] at c_36; rw [zqE (by omega) (by omega)] at c_36
                refine lv_iconst (v := (nI 0)) hx hb dX12_breaksThere_75 rfl ?_
                exact J29 _ (if_neg (fun h : zk1 x aim j => c_36 h.2.1)).symm _ _ hI
              · skip
                rw [show (0 : Int32) = nI 0 from rfl] at c_36; rw [zqE (by omega) (by omega)] at c_36
                refine lv_iload hx hb dX12_breaksThere_39 (lv_at hl 1 rfl) ?_
                refine lv_if_lt (tgt := 75) hx hb dX12_breaksThere_41 (by decide) (fun c_41 => ?_) (fun c_41 => ?_)
                · skip
                  refine lv_iconst (v := (nI 0)) hx hb dX12_breaksThere_75 rfl ?_
                  exact J29 _ (if_neg (fun h : zk1 x aim j => h.2.2.1 (by rw [hA]; decide))).symm _ _ hI
                · skip
                  exact absurd (by decide) c_41
        · skip
          refine lv_aload_n hx hb dX12_breaksThere_10 rfl (lv_at hl 0 rfl) ?_
          refine z_get (C := RX12) (T := TX12) (N := 51) (ci := 12) (v := .ref (za G 100)) hx hb hts hin12 hown hK hI (zo77 hG) rfl 32 (by decide) wF108 (fun _ h9 => h9) rfl dX12_breaksThere_11 ?_
          refine lv_iload_n hx hb dX12_breaksThere_14 rfl (lv_at hl 3 rfl) ?_
          refine z_iald (v := (nI qa)) hx hb hK hI (zo100 hG) j rfl (by omega) (by decide) hA dX12_breaksThere_15 ?_
          refine lv_istore (lv' := [(4, .int (nI qa)), (0, .ref (za G 77)), (1, .int aim), (2, .int a), (3, .int (nI j))]) hx hb dX12_breaksThere_16 hl (by decide) rfl (fun ls hl => ?_)
          rcases hrw (j ^^^ 1) hz8 with hB | ⟨qb, hqb, hB⟩
          · skip
            refine lv_aload_n hx hb dX12_breaksThere_18 rfl (lv_at hl 1 rfl) ?_
            refine z_get (C := RX12) (T := TX12) (N := 51) (ci := 12) (v := .ref (za G 100)) hx hb hts hin12 hown hK hI (zo77 hG) rfl 32 (by decide) wF108 (fun _ h9 => h9) rfl dX12_breaksThere_19 ?_
            refine lv_iload_n hx hb dX12_breaksThere_22 rfl (lv_at hl 4 rfl) ?_
            refine lv_iconst (v := (nI 1)) hx hb dX12_breaksThere_23 rfl ?_
            refine z_ixor (v := (nI (j ^^^ 1))) hx hb (zxor1 (by omega)) dX12_breaksThere_24 ?_
            refine z_iald (v := (-1)) hx hb hK hI (zo100 hG) (j ^^^ 1) rfl hz8 (by decide) hB dX12_breaksThere_25 ?_
            refine lv_istore (lv' := [(5, .int (-1)), (4, .int (nI qa)), (0, .ref (za G 77)), (1, .int aim), (2, .int a), (3, .int (nI j))]) hx hb dX12_breaksThere_26 hl (by decide) rfl (fun ls hl => ?_)
            refine lv_iload_n hx hb dX12_breaksThere_28 rfl (lv_at hl 4 rfl) ?_
            have J29 : ∀ (jv : Int32), jv = (if zk1 x aim j then nI 1 else nI 0) → ∀ (H : Heap) (locs : List Loc), zI G x A s.heap H locs → W p l e { frames := 0, cells := 0, slots := 0, locals := 0 } s m ([.ref (za G 77), .int aim] : List Value).toArray below meth c H locs 0 0 (MQ below (va_Qi (fun (r : Int32) (u : zX) => x = u ∧ zsum (zsk x aim) 8 = r) (fun u t => zJ G u A t.heap) A) ([.ref (za G 77), .int aim] : List Value).toArray s 0 0 A) (F0 m 76 ls [.int jv, .int a]) := by
              intro jv hjv H locs hI
              subst hjv
              refine lv_iadd hx hb dX12_breaksThere_76 ?_
              refine lv_istore_n (lv' := [(2, .int (a + (if zk1 x aim j then nI 1 else nI 0))), (5, .int (-1)), (4, .int (nI qa)), (0, .ref (za G 77)), (1, .int aim), (3, .int (nI j))]) hx hb dX12_breaksThere_77 rfl hl (by decide) rfl (fun ls hl => ?_)
              refine lv_iload_n hx hb dX12_breaksThere_78 rfl (lv_at hl 0 rfl) ?_
              have J79 : ∀ (jv : Int32), jv = (if zk2 x aim j then nI 1 else nI 0) → ∀ (H : Heap) (locs : List Loc), zI G x A s.heap H locs → W p l e { frames := 0, cells := 0, slots := 0, locals := 0 } s m ([.ref (za G 77), .int aim] : List Value).toArray below meth c H locs 0 0 (MQ below (va_Qi (fun (r : Int32) (u : zX) => x = u ∧ zsum (zsk x aim) 8 = r) (fun u t => zJ G u A t.heap) A) ([.ref (za G 77), .int aim] : List Value).toArray s 0 0 A) (F0 m 109 ls [.int jv, .int (a + (if zk1 x aim j then nI 1 else nI 0))]) := by
                intro jv hjv H locs hI
                subst hjv
                refine lv_iadd hx hb dX12_breaksThere_109 ?_
                refine lv_istore_n (lv' := [(2, .int ((a + (if zk1 x aim j then nI 1 else nI 0)) + (if zk2 x aim j then nI 1 else nI 0))), (5, .int (-1)), (4, .int (nI qa)), (0, .ref (za G 77)), (1, .int aim), (3, .int (nI j))]) hx hb dX12_breaksThere_110 rfl hl (by decide) rfl (fun ls hl => ?_)
                refine lv_iinc (v := (nI (j + 1))) (lv' := [(3, .int (nI (j + 1))), (2, .int ((a + (if zk1 x aim j then nI 1 else nI 0)) + (if zk2 x aim j then nI 1 else nI 0))), (5, .int (-1)), (4, .int (nI qa)), (0, .ref (za G 77)), (1, .int aim)]) hx hb dX12_breaksThere_111 hl (k := 5) rfl (zinc j) (by decide) rfl (fun ls hl => ?_)
                refine lv_goto (tgt := 4) hx hb dX12_breaksThere_114 (by decide) ?_
                exact ih4 (j + 1) ((a + (if zk1 x aim j then nI 1 else nI 0)) + (if zk2 x aim j then nI 1 else nI 0)) (by omega) (by rw [zsum, ← h2]; exact Int32.add_assoc _ _ _) (by omega) _ _ hI ls (lv_sub hl [4, 5, 1, 0] rfl)
              refine lv_iload_n hx hb dX12_breaksThere_79 rfl (lv_at hl 4 rfl) ?_
              refine lv_iconst (v := (nI 1)) hx hb dX12_breaksThere_80 rfl ?_
              refine lv_icmp_eq (tgt := 108) hx hb dX12_breaksThere_81 (by decide) (fun c_81 => ?_) (fun c_81 => ?_)
              · skip
                refine lv_iconst (v := (nI 0)) hx hb dX12_breaksThere_108 rfl ?_
                exact J79 _ (if_neg (fun h : zk2 x aim j => h.1 c_81)).symm _ _ hI
              · skip
                refine lv_iload_n hx hb dX12_breaksThere_84 rfl (lv_at hl 5 rfl) ?_
                refine lv_iconst (v := (nI 3)) hx hb dX12_breaksThere_85 rfl ?_
                refine lv_icmp_le (tgt := 108) hx hb dX12_breaksThere_86 (by decide) (fun c_86 => ?_) (fun c_86 => ?_)
                · skip
                  rw [zqG (by omega) (by omega)] at c_86
                  refine lv_iconst (v := (nI 0)) hx hb dX12_breaksThere_108 rfl ?_
                  exact J79 _ (if_neg (fun h : zk2 x aim j => h.2.1 (by omega))).symm _ _ hI
                · skip
                  rw [zqG (by omega) (by omega)] at c_86
                  refine lv_iload hx hb dX12_breaksThere_89 (lv_at hl 2 rfl) ?_
                  refine lv_if_lt (tgt := 108) hx hb dX12_breaksThere_91 (by decide) (fun c_91 => ?_) (fun c_91 => ?_)
                  · skip
                    rw [show (0 : Int32) = nI 0 from rfl] at c_91; rw [zqL (by omega) (by omega)] at c_91
                    exact absurd c_91 (by omega)
                  · skip
                    rw [show (0 : Int32) = nI 0 from rfl] at c_91; rw [zqL (by omega) (by omega)] at c_91
                    refine lv_aload_n hx hb dX12_breaksThere_94 rfl (lv_at hl 3 rfl) ?_
                    refine z_get (C := RX12) (T := TX12) (N := 51) (ci := 12) (v := .ref (za G 86)) hx hb hts hin12 hown hK hI (zo77 hG) rfl 10 (by decide) wF41 (fun _ h9 => h9) rfl dX12_breaksThere_95 ?_
                    refine lv_iload hx hb dX12_breaksThere_98 (lv_at hl 2 rfl) ?_
                    refine z_zald (v := (x.1 86 qa)) hx hb hK hI (zo86 hG) qa rfl (by omega) (by decide) rfl dX12_breaksThere_100 ?_
                    refine lv_if_eq (tgt := 108) hx hb dX12_breaksThere_101 (by decide) (fun c_101 => ?_) (fun c_101 => ?_)
                    · skip
                      refine lv_iconst (v := (nI 0)) hx hb dX12_breaksThere_108 rfl ?_
                      exact J79 _ (if_neg (fun h : zk2 x aim j => h.2.2.2 (by rw [hA, nI_clamp (by omega)]; exact c_101))).symm _ _ hI
                    · skip
                      refine lv_iconst (v := (nI 1)) hx hb dX12_breaksThere_104 rfl ?_
                      refine lv_goto (tgt := 109) hx hb dX12_breaksThere_105 (by decide) ?_
                      exact J79 _ (if_pos (show zk2 x aim j from ⟨c_81, by omega, by rw [hA]; exact nI_pos (by omega), by rw [hA, nI_clamp (by omega)]; exact c_101⟩)).symm _ _ hI
            refine lv_iload_n hx hb dX12_breaksThere_29 rfl (lv_at hl 3 rfl) ?_
            refine lv_if_eq (tgt := 75) hx hb dX12_breaksThere_30 (by decide) (fun c_30 => ?_) (fun c_30 => ?_)
            · skip
              refine lv_iconst (v := (nI 0)) hx hb dX12_breaksThere_75 rfl ?_
              exact J29 _ (if_neg (fun h : zk1 x aim j => h.1 c_30)).symm _ _ hI
            · skip
              refine lv_iload_n hx hb dX12_breaksThere_33 rfl (lv_at hl 5 rfl) ?_
              refine lv_iconst (v := (nI 2)) hx hb dX12_breaksThere_34 rfl ?_
              refine z_irem (v := (nI (j % 2))) hx hb (pk_rem (by omega) (by omega) (by omega)) dX12_breaksThere_35 (by decide) ?_
              refine lv_if_ne (tgt := 75) hx hb dX12_breaksThere_36 (by decide) (fun c_36 => ?_) (fun c_36 => ?_)
              · skip
                rw [show (0 : Int32) = nI 0 from rfl] at c_36; rw [zqE (by omega) (by omega)] at c_36
                refine lv_iconst (v := (nI 0)) hx hb dX12_breaksThere_75 rfl ?_
                exact J29 _ (if_neg (fun h : zk1 x aim j => c_36 h.2.1)).symm _ _ hI
              · skip
                rw [show (0 : Int32) = nI 0 from rfl] at c_36; rw [zqE (by omega) (by omega)] at c_36
                refine lv_iload hx hb dX12_breaksThere_39 (lv_at hl 1 rfl) ?_
                refine lv_if_lt (tgt := 75) hx hb dX12_breaksThere_41 (by decide) (fun c_41 => ?_) (fun c_41 => ?_)
                · skip
                  rw [show (0 : Int32) = nI 0 from rfl] at c_41; rw [zqL (by omega) (by omega)] at c_41
                  exact absurd c_41 (by omega)
                · skip
                  rw [show (0 : Int32) = nI 0 from rfl] at c_41; rw [zqL (by omega) (by omega)] at c_41
                  refine lv_iload hx hb dX12_breaksThere_44 (lv_at hl 0 rfl) ?_
                  refine lv_if_lt (tgt := 75) hx hb dX12_breaksThere_46 (by decide) (fun c_46 => ?_) (fun c_46 => ?_)
                  · skip
                    refine lv_iconst (v := (nI 0)) hx hb dX12_breaksThere_75 rfl ?_
                    exact J29 _ (if_neg (fun h : zk1 x aim j => h.2.2.2.1 (by rw [hB]; decide))).symm _ _ hI
                  · skip
                    exact absurd (by decide) c_46
          · skip
            refine lv_aload_n hx hb dX12_breaksThere_18 rfl (lv_at hl 1 rfl) ?_
            refine z_get (C := RX12) (T := TX12) (N := 51) (ci := 12) (v := .ref (za G 100)) hx hb hts hin12 hown hK hI (zo77 hG) rfl 32 (by decide) wF108 (fun _ h9 => h9) rfl dX12_breaksThere_19 ?_
            refine lv_iload_n hx hb dX12_breaksThere_22 rfl (lv_at hl 4 rfl) ?_
            refine lv_iconst (v := (nI 1)) hx hb dX12_breaksThere_23 rfl ?_
            refine z_ixor (v := (nI (j ^^^ 1))) hx hb (zxor1 (by omega)) dX12_breaksThere_24 ?_
            refine z_iald (v := (nI qb)) hx hb hK hI (zo100 hG) (j ^^^ 1) rfl hz8 (by decide) hB dX12_breaksThere_25 ?_
            refine lv_istore (lv' := [(5, .int (nI qb)), (4, .int (nI qa)), (0, .ref (za G 77)), (1, .int aim), (2, .int a), (3, .int (nI j))]) hx hb dX12_breaksThere_26 hl (by decide) rfl (fun ls hl => ?_)
            refine lv_iload_n hx hb dX12_breaksThere_28 rfl (lv_at hl 4 rfl) ?_
            have J29 : ∀ (jv : Int32), jv = (if zk1 x aim j then nI 1 else nI 0) → ∀ (H : Heap) (locs : List Loc), zI G x A s.heap H locs → W p l e { frames := 0, cells := 0, slots := 0, locals := 0 } s m ([.ref (za G 77), .int aim] : List Value).toArray below meth c H locs 0 0 (MQ below (va_Qi (fun (r : Int32) (u : zX) => x = u ∧ zsum (zsk x aim) 8 = r) (fun u t => zJ G u A t.heap) A) ([.ref (za G 77), .int aim] : List Value).toArray s 0 0 A) (F0 m 76 ls [.int jv, .int a]) := by
              intro jv hjv H locs hI
              subst hjv
              refine lv_iadd hx hb dX12_breaksThere_76 ?_
              refine lv_istore_n (lv' := [(2, .int (a + (if zk1 x aim j then nI 1 else nI 0))), (5, .int (nI qb)), (4, .int (nI qa)), (0, .ref (za G 77)), (1, .int aim), (3, .int (nI j))]) hx hb dX12_breaksThere_77 rfl hl (by decide) rfl (fun ls hl => ?_)
              refine lv_iload_n hx hb dX12_breaksThere_78 rfl (lv_at hl 0 rfl) ?_
              have J79 : ∀ (jv : Int32), jv = (if zk2 x aim j then nI 1 else nI 0) → ∀ (H : Heap) (locs : List Loc), zI G x A s.heap H locs → W p l e { frames := 0, cells := 0, slots := 0, locals := 0 } s m ([.ref (za G 77), .int aim] : List Value).toArray below meth c H locs 0 0 (MQ below (va_Qi (fun (r : Int32) (u : zX) => x = u ∧ zsum (zsk x aim) 8 = r) (fun u t => zJ G u A t.heap) A) ([.ref (za G 77), .int aim] : List Value).toArray s 0 0 A) (F0 m 109 ls [.int jv, .int (a + (if zk1 x aim j then nI 1 else nI 0))]) := by
                intro jv hjv H locs hI
                subst hjv
                refine lv_iadd hx hb dX12_breaksThere_109 ?_
                refine lv_istore_n (lv' := [(2, .int ((a + (if zk1 x aim j then nI 1 else nI 0)) + (if zk2 x aim j then nI 1 else nI 0))), (5, .int (nI qb)), (4, .int (nI qa)), (0, .ref (za G 77)), (1, .int aim), (3, .int (nI j))]) hx hb dX12_breaksThere_110 rfl hl (by decide) rfl (fun ls hl => ?_)
                refine lv_iinc (v := (nI (j + 1))) (lv' := [(3, .int (nI (j + 1))), (2, .int ((a + (if zk1 x aim j then nI 1 else nI 0)) + (if zk2 x aim j then nI 1 else nI 0))), (5, .int (nI qb)), (4, .int (nI qa)), (0, .ref (za G 77)), (1, .int aim)]) hx hb dX12_breaksThere_111 hl (k := 5) rfl (zinc j) (by decide) rfl (fun ls hl => ?_)
                refine lv_goto (tgt := 4) hx hb dX12_breaksThere_114 (by decide) ?_
                exact ih4 (j + 1) ((a + (if zk1 x aim j then nI 1 else nI 0)) + (if zk2 x aim j then nI 1 else nI 0)) (by omega) (by rw [zsum, ← h2]; exact Int32.add_assoc _ _ _) (by omega) _ _ hI ls (lv_sub hl [4, 5, 1, 0] rfl)
              refine lv_iload_n hx hb dX12_breaksThere_79 rfl (lv_at hl 4 rfl) ?_
              refine lv_iconst (v := (nI 1)) hx hb dX12_breaksThere_80 rfl ?_
              refine lv_icmp_eq (tgt := 108) hx hb dX12_breaksThere_81 (by decide) (fun c_81 => ?_) (fun c_81 => ?_)
              · skip
                refine lv_iconst (v := (nI 0)) hx hb dX12_breaksThere_108 rfl ?_
                exact J79 _ (if_neg (fun h : zk2 x aim j => h.1 c_81)).symm _ _ hI
              · skip
                refine lv_iload_n hx hb dX12_breaksThere_84 rfl (lv_at hl 5 rfl) ?_
                refine lv_iconst (v := (nI 3)) hx hb dX12_breaksThere_85 rfl ?_
                refine lv_icmp_le (tgt := 108) hx hb dX12_breaksThere_86 (by decide) (fun c_86 => ?_) (fun c_86 => ?_)
                · skip
                  rw [zqG (by omega) (by omega)] at c_86
                  refine lv_iconst (v := (nI 0)) hx hb dX12_breaksThere_108 rfl ?_
                  exact J79 _ (if_neg (fun h : zk2 x aim j => h.2.1 (by omega))).symm _ _ hI
                · skip
                  rw [zqG (by omega) (by omega)] at c_86
                  refine lv_iload hx hb dX12_breaksThere_89 (lv_at hl 2 rfl) ?_
                  refine lv_if_lt (tgt := 108) hx hb dX12_breaksThere_91 (by decide) (fun c_91 => ?_) (fun c_91 => ?_)
                  · skip
                    rw [show (0 : Int32) = nI 0 from rfl] at c_91; rw [zqL (by omega) (by omega)] at c_91
                    exact absurd c_91 (by omega)
                  · skip
                    rw [show (0 : Int32) = nI 0 from rfl] at c_91; rw [zqL (by omega) (by omega)] at c_91
                    refine lv_aload_n hx hb dX12_breaksThere_94 rfl (lv_at hl 3 rfl) ?_
                    refine z_get (C := RX12) (T := TX12) (N := 51) (ci := 12) (v := .ref (za G 86)) hx hb hts hin12 hown hK hI (zo77 hG) rfl 10 (by decide) wF41 (fun _ h9 => h9) rfl dX12_breaksThere_95 ?_
                    refine lv_iload hx hb dX12_breaksThere_98 (lv_at hl 2 rfl) ?_
                    refine z_zald (v := (x.1 86 qa)) hx hb hK hI (zo86 hG) qa rfl (by omega) (by decide) rfl dX12_breaksThere_100 ?_
                    refine lv_if_eq (tgt := 108) hx hb dX12_breaksThere_101 (by decide) (fun c_101 => ?_) (fun c_101 => ?_)
                    · skip
                      refine lv_iconst (v := (nI 0)) hx hb dX12_breaksThere_108 rfl ?_
                      exact J79 _ (if_neg (fun h : zk2 x aim j => h.2.2.2 (by rw [hA, nI_clamp (by omega)]; exact c_101))).symm _ _ hI
                    · skip
                      refine lv_iconst (v := (nI 1)) hx hb dX12_breaksThere_104 rfl ?_
                      refine lv_goto (tgt := 109) hx hb dX12_breaksThere_105 (by decide) ?_
                      exact J79 _ (if_pos (show zk2 x aim j from ⟨c_81, by omega, by rw [hA]; exact nI_pos (by omega), by rw [hA, nI_clamp (by omega)]; exact c_101⟩)).symm _ _ hI
            refine lv_iload_n hx hb dX12_breaksThere_29 rfl (lv_at hl 3 rfl) ?_
            refine lv_if_eq (tgt := 75) hx hb dX12_breaksThere_30 (by decide) (fun c_30 => ?_) (fun c_30 => ?_)
            · skip
              refine lv_iconst (v := (nI 0)) hx hb dX12_breaksThere_75 rfl ?_
              exact J29 _ (if_neg (fun h : zk1 x aim j => h.1 c_30)).symm _ _ hI
            · skip
              refine lv_iload_n hx hb dX12_breaksThere_33 rfl (lv_at hl 5 rfl) ?_
              refine lv_iconst (v := (nI 2)) hx hb dX12_breaksThere_34 rfl ?_
              refine z_irem (v := (nI (j % 2))) hx hb (pk_rem (by omega) (by omega) (by omega)) dX12_breaksThere_35 (by decide) ?_
              refine lv_if_ne (tgt := 75) hx hb dX12_breaksThere_36 (by decide) (fun c_36 => ?_) (fun c_36 => ?_)
              · skip
                rw [show (0 : Int32) = nI 0 from rfl] at c_36; rw [zqE (by omega) (by omega)] at c_36
                refine lv_iconst (v := (nI 0)) hx hb dX12_breaksThere_75 rfl ?_
                exact J29 _ (if_neg (fun h : zk1 x aim j => c_36 h.2.1)).symm _ _ hI
              · skip
                rw [show (0 : Int32) = nI 0 from rfl] at c_36; rw [zqE (by omega) (by omega)] at c_36
                refine lv_iload hx hb dX12_breaksThere_39 (lv_at hl 1 rfl) ?_
                refine lv_if_lt (tgt := 75) hx hb dX12_breaksThere_41 (by decide) (fun c_41 => ?_) (fun c_41 => ?_)
                · skip
                  rw [show (0 : Int32) = nI 0 from rfl] at c_41; rw [zqL (by omega) (by omega)] at c_41
                  exact absurd c_41 (by omega)
                · skip
                  rw [show (0 : Int32) = nI 0 from rfl] at c_41; rw [zqL (by omega) (by omega)] at c_41
                  refine lv_iload hx hb dX12_breaksThere_44 (lv_at hl 0 rfl) ?_
                  refine lv_if_lt (tgt := 75) hx hb dX12_breaksThere_46 (by decide) (fun c_46 => ?_) (fun c_46 => ?_)
                  · skip
                    rw [show (0 : Int32) = nI 0 from rfl] at c_46; rw [zqL (by omega) (by omega)] at c_46
                    exact absurd c_46 (by omega)
                  · skip
                    rw [show (0 : Int32) = nI 0 from rfl] at c_46; rw [zqL (by omega) (by omega)] at c_46
                    refine lv_aload_n hx hb dX12_breaksThere_49 rfl (lv_at hl 2 rfl) ?_
                    refine z_get (C := RX12) (T := TX12) (N := 51) (ci := 12) (v := .ref (za G 99)) hx hb hts hin12 hown hK hI (zo77 hG) rfl 31 (by decide) wF105 (fun _ h9 => h9) rfl dX12_breaksThere_50 ?_
                    refine lv_bipush (v := (nI 16)) hx hb dX12_breaksThere_53 rfl ?_
                    refine lv_iload hx hb dX12_breaksThere_55 (lv_at hl 1 rfl) ?_
                    refine z_imul (v := (nI (16 * qa))) hx hb (pk_mul _ _) dX12_breaksThere_57 ?_
                    refine lv_iconst (v := (nI 2)) hx hb dX12_breaksThere_58 rfl ?_
                    refine lv_iload hx hb dX12_breaksThere_59 (lv_at hl 0 rfl) ?_
                    refine z_imul (v := (nI (2 * qb))) hx hb (pk_mul _ _) dX12_breaksThere_61 ?_
                    refine z_iadd (v := (nI ((16 * qa) + (2 * qb)))) hx hb (nI_add _ _) dX12_breaksThere_62 ?_
                    refine lv_iload_n hx hb dX12_breaksThere_63 rfl (lv_at hl 5 rfl) ?_
                    refine lv_iconst (v := (nI 4)) hx hb dX12_breaksThere_64 rfl ?_
                    refine z_idiv (v := (nI (j / 4))) hx hb (pk_div (by omega) (by omega) (by omega)) dX12_breaksThere_65 (by decide) ?_
                    refine z_iadd (v := (nI (((16 * qa) + (2 * qb)) + (j / 4)))) hx hb (nI_add _ _) dX12_breaksThere_66 ?_
                    refine z_zald (v := (x.1 99 (((16 * qa) + (2 * qb)) + (j / 4)))) hx hb hK hI (zo99 hG) (((16 * qa) + (2 * qb)) + (j / 4)) rfl (by omega) (by decide) rfl dX12_breaksThere_67 ?_
                    refine lv_if_eq (tgt := 75) hx hb dX12_breaksThere_68 (by decide) (fun c_68 => ?_) (fun c_68 => ?_)
                    · skip
                      refine lv_iconst (v := (nI 0)) hx hb dX12_breaksThere_75 rfl ?_
                      exact J29 _ (if_neg (fun h : zk1 x aim j => h.2.2.2.2 (by rw [hA, hB, nI_clamp (by omega), nI_clamp (by omega)]; exact c_68))).symm _ _ hI
                    · skip
                      refine lv_iconst (v := (nI 1)) hx hb dX12_breaksThere_71 rfl ?_
                      refine lv_goto (tgt := 76) hx hb dX12_breaksThere_72 (by decide) ?_
                      exact J29 _ (if_pos (show zk1 x aim j from ⟨c_30, c_36, by rw [hA]; exact nI_pos (by omega), by rw [hB]; exact nI_pos (by omega), by rw [hA, hB, nI_clamp (by omega), nI_clamp (by omega)]; exact c_68⟩)).symm _ _ hI
  exact L4 (9) 0 (nI 0) (by omega) rfl (by omega) _ _ hI ls (lv_sub hl [2, 3, 1, 0] rfl)
set_option maxHeartbeats 1000000 in
set_option maxRecDepth 100000 in
theorem c_X12_isNamedBut (l : Launch) {G : zG} (hG : zOK G) (x : zX) (N : Nat) (y w : Int32) (hr0 : zRef x N) : zMi l yX12_isNamedBut wsX12_isNamedBut { frames := 0, cells := 0, slots := 0, locals := 0 } G [.ref (za G 77), .int y, .int w] x (fun (r : Int32) (u : zX) => x = u ∧ (if (∃ o, o < N ∧ ¬ nI o = w ∧ x.1 83 o = y) then nI 1 else nI 0) = r) := by
  intro A
  refine zBody (cc := cX12_isNamedBut) (maxL := 4) (ret := (some .boolean)) (by decide) rfl (Nat.le_of_ble_eq_true rfl) ?_
  intro p e s m below meth c hx hb hml hown hts hr hlocks hK hN hI ls hl
  have hown : s.vm.findClass RX12 = some m.cls := hown
  have hl : lv_has ls 4 [(0, .ref (za G 77)), (1, .int y), (2, .int w)] := hl
  have hin12 : ∀ w ∈ wsX120, w ∈ wsX12_isNamedBut := (fun _ h => List.mem_cons_of_mem _ (List.mem_append_right _ (h)))
  have wF7 := hts (.fieldLink RX12 7 "WhoSitsByModel" "pupils" "I") (z_mem 1 rfl)
  have wF32 := hts (.fieldLink RX12 32 "WhoSitsByModel" "names" "[I") (z_mem 2 rfl)
  have h8 := hr0.1
  refine lv_iconst (v := (nI 0)) hx hb dX12_isNamedBut_0 rfl ?_
  refine lv_istore_n (lv' := [(3, .int (nI 0)), (0, .ref (za G 77)), (1, .int y), (2, .int w)]) hx hb dX12_isNamedBut_1 rfl hl (by decide) rfl (fun ls hl => ?_)
  have L2 : ∀ (f : Nat) (j : Nat), (j ≤ N) → (∀ o, o < j → ¬ (¬ nI o = w ∧ x.1 83 o = y)) → N + 1 ≤ j + f → ∀ (H : Heap) (locs : List Loc), zI G x A s.heap H locs → ∀ ls : Array Slot, lv_has ls 4 [(0, .ref (za G 77)), (1, .int y), (2, .int w), (3, .int (nI j))] → W p l e { frames := 0, cells := 0, slots := 0, locals := 0 } s m ([.ref (za G 77), .int y, .int w] : List Value).toArray below meth c H locs 0 0 (MQ below (va_Qi (fun (r : Int32) (u : zX) => x = u ∧ (if (∃ o, o < N ∧ ¬ nI o = w ∧ x.1 83 o = y) then nI 1 else nI 0) = r) (fun u t => zJ G u A t.heap) A) ([.ref (za G 77), .int y, .int w] : List Value).toArray s 0 0 A) (F0 m 2 ls []) := by
    intro f
    induction f with
    | zero =>
      intro j h1 h2 hf
      exact absurd hf (by omega)
    | succ f ih =>
      intro j h1 h2 hf H locs hI ls hl
      have ih2 := ih
      refine lv_iload_n hx hb dX12_isNamedBut_2 rfl (lv_at hl 3 rfl) ?_
      refine lv_aload_n hx hb dX12_isNamedBut_3 rfl (lv_at hl 0 rfl) ?_
      refine z_get (C := RX12) (T := TX12) (N := 51) (ci := 12) (v := .int (nI N)) hx hb hts hin12 hown hK hI (zo77 hG) rfl 0 (by decide) wF7 (fun _ h9 => h9) (congrArg (fun q => some (Value.int q)) hr0.2.1) dX12_isNamedBut_4 ?_
      refine lv_icmp_ge (tgt := 33) hx hb dX12_isNamedBut_7 (by decide) (fun c_7 => ?_) (fun c_7 => ?_)
      · skip
        rw [zqG (by omega) (by omega)] at c_7
        refine lv_iconst (v := (nI 0)) hx hb dX12_isNamedBut_33 rfl ?_
        exact z_zret hx hb hr hlocks hI (Or.inl rfl) (⟨rfl, if_neg (fun ⟨o, ho, h3⟩ => h2 o (by omega) h3)⟩) dX12_isNamedBut_34
      · skip
        rw [zqG (by omega) (by omega)] at c_7
        refine lv_iload_n hx hb dX12_isNamedBut_10 rfl (lv_at hl 3 rfl) ?_
        refine lv_iload_n hx hb dX12_isNamedBut_11 rfl (lv_at hl 2 rfl) ?_
        refine lv_icmp_eq (tgt := 27) hx hb dX12_isNamedBut_12 (by decide) (fun c_12 => ?_) (fun c_12 => ?_)
        · skip
          refine lv_iinc (v := (nI (j + 1))) (lv' := [(3, .int (nI (j + 1))), (0, .ref (za G 77)), (1, .int y), (2, .int w)]) hx hb dX12_isNamedBut_27 hl (k := 3) rfl (zinc j) (by decide) rfl (fun ls hl => ?_)
          refine lv_goto (tgt := 2) hx hb dX12_isNamedBut_30 (by decide) ?_
          exact ih2 (j + 1) (by omega) (fun o ho h => by rcases Nat.lt_or_ge o j with q | q; exact h2 o q h; rw [show o = j by omega] at h; exact h.1 c_12) (by omega) _ _ hI ls (lv_sub hl [1, 2, 3, 0] rfl)
        · skip
          refine lv_aload_n hx hb dX12_isNamedBut_15 rfl (lv_at hl 0 rfl) ?_
          refine z_get (C := RX12) (T := TX12) (N := 51) (ci := 12) (v := .ref (za G 83)) hx hb hts hin12 hown hK hI (zo77 hG) rfl 7 (by decide) wF32 (fun _ h9 => h9) rfl dX12_isNamedBut_16 ?_
          refine lv_iload_n hx hb dX12_isNamedBut_19 rfl (lv_at hl 3 rfl) ?_
          refine z_iald (v := (x.1 83 j)) hx hb hK hI (zo83 hG) j rfl (by omega) (by decide) rfl dX12_isNamedBut_20 ?_
          refine lv_iload_n hx hb dX12_isNamedBut_21 rfl (lv_at hl 1 rfl) ?_
          refine lv_icmp_ne (tgt := 27) hx hb dX12_isNamedBut_22 (by decide) (fun c_22 => ?_) (fun c_22 => ?_)
          · skip
            refine lv_iinc (v := (nI (j + 1))) (lv' := [(3, .int (nI (j + 1))), (0, .ref (za G 77)), (1, .int y), (2, .int w)]) hx hb dX12_isNamedBut_27 hl (k := 3) rfl (zinc j) (by decide) rfl (fun ls hl => ?_)
            refine lv_goto (tgt := 2) hx hb dX12_isNamedBut_30 (by decide) ?_
            exact ih2 (j + 1) (by omega) (fun o ho h => by rcases Nat.lt_or_ge o j with q | q; exact h2 o q h; rw [show o = j by omega] at h; exact c_22 h.2) (by omega) _ _ hI ls (lv_sub hl [1, 2, 3, 0] rfl)
          · skip
            refine lv_iconst (v := (nI 1)) hx hb dX12_isNamedBut_25 rfl ?_
            exact z_zret hx hb hr hlocks hI (Or.inr rfl) (⟨rfl, if_pos ⟨j, by omega, c_12, c_22⟩⟩) dX12_isNamedBut_26
  exact L2 (N + 1) 0 (by omega) (fun o ho => absurd ho (by omega)) (by omega) _ _ hI ls (lv_sub hl [1, 2, 3, 0] rfl)
