theorem zandB1 {p0 p1 : Bool} (h : p0 = true) (g : p1 = true) : (if (if (-38 : Int32) = -38 then (p0 && p1) else (p0 || p1)) = true then nI 1 else nI 0) = nI 1 := by
  rw [if_pos rfl, h, g]; rfl
theorem zandB0 {p0 p1 : Bool} (h : ¬ p0 = true ∨ ¬ p1 = true) : (if (if (-38 : Int32) = -38 then (p0 && p1) else (p0 || p1)) = true then nI 1 else nI 0) = nI 0 := by
  rw [if_pos rfl]
  rcases h with h | h
  · rw [Bool.eq_false_iff.mpr h]; rfl
  · rw [Bool.eq_false_iff.mpr h, Bool.and_false]; rfl
theorem zorB1 {p0 p1 : Bool} (h : p0 = true ∨ p1 = true) : (if (if (-124 : Int32) = -38 then (p0 && p1) else (p0 || p1)) = true then nI 1 else nI 0) = nI 1 := by
  rw [if_neg (show ¬ (-124 : Int32) = -38 by decide)]
  rcases h with h | h
  · rw [h]; rfl
  · rw [h, Bool.or_true]; rfl
theorem zorB0 {p0 p1 : Bool} (h : ¬ p0 = true) (g : ¬ p1 = true) : (if (if (-124 : Int32) = -38 then (p0 && p1) else (p0 || p1)) = true then nI 1 else nI 0) = nI 0 := by
  rw [if_neg (show ¬ (-124 : Int32) = -38 by decide), Bool.eq_false_iff.mpr h, Bool.eq_false_iff.mpr g]; rfl
set_option maxHeartbeats 1000000 in
set_option maxRecDepth 100000 in
theorem c_X12_holds (l : Launch) {G : zG} (hG : zOK G) (x : zX) (c1 a b : Nat) (r9 : Int32) (w7 : Nat → Int32) (hc1 : c1 < 60) (ha9 : a < 8) (hb9 : b < 8) (hck : zCkR x c1) : zMi l yX12_holds wsX12_holds { frames := 1, cells := 0, slots := 0, locals := 24 } G [.ref (za G 77), .int (nI c1), .int (nI a), .int (nI b), .int r9] (zsrI x 97 w7) (fun (r : Int32) (u : zX) => ∃ w8, zsrI x 97 w8 = u ∧ (if zev9 x c1 (zfr9 x a b r9) = true then nI 1 else nI 0) = r) := by
  intro A
  refine zBody (cc := cX12_holds) (maxL := 10) (ret := (some .boolean)) (by decide) rfl (Nat.le_of_ble_eq_true rfl) ?_
  intro p e s m below meth c hx hb hml hown hts hr hlocks hK hN hI ls hl
  have hown : s.vm.findClass RX12 = some m.cls := hown
  have hl : lv_has ls 10 [(0, .ref (za G 77)), (1, .int (nI c1)), (2, .int (nI a)), (3, .int (nI b)), (4, .int r9)] := hl
  have hin12 : ∀ w ∈ wsX120, w ∈ wsX12_holds := (fun _ h => List.mem_cons_of_mem _ (List.mem_append_right _ (h)))
  have wF75 := hts (.fieldLink RX12 75 "WhoSitsByModel" "from" "[I") (z_mem 1 rfl)
  have wF78 := hts (.fieldLink RX12 78 "WhoSitsByModel" "to" "[I") (z_mem 2 rfl)
  have wF99 := hts (.fieldLink RX12 99 "WhoSitsByModel" "pile" "[Z") (z_mem 4 rfl)
  have wF81 := hts (.fieldLink RX12 81 "WhoSitsByModel" "sign" "[I") (z_mem 3 rfl)
  obtain ⟨fr, en, hfe, h600, h99, e92, e93, hcd, hev⟩ := hck
  obtain ⟨v9, hv9⟩ := hev (zfr9 x a b r9)
  refine lv_iconst (v := (nI 0)) hx hb dX12_holds_0 rfl ?_
  refine lv_istore (lv' := [(5, .int (nI 0)), (0, .ref (za G 77)), (1, .int (nI c1)), (2, .int (nI a)), (3, .int (nI b)), (4, .int r9)]) hx hb dX12_holds_1 hl (by decide) rfl (fun ls hl => ?_)
  refine lv_aload_n hx hb dX12_holds_3 rfl (lv_at hl 1 rfl) ?_
  refine z_get (C := RX12) (T := TX12) (N := 51) (ci := 12) (v := .ref (za G 92)) hx hb hts hin12 hown hK hI (zo77 hG) rfl 21 (by decide) wF75 (fun _ h9 => h9) rfl dX12_holds_4 ?_
  refine lv_iload_n hx hb dX12_holds_7 rfl (lv_at hl 2 rfl) ?_
  refine z_iald (v := (nI fr)) hx hb hK hI (zo92 hG) c1 rfl (by omega) (by decide) e92 dX12_holds_8 ?_
  refine lv_istore (lv' := [(6, .int (nI fr)), (5, .int (nI 0)), (0, .ref (za G 77)), (1, .int (nI c1)), (2, .int (nI a)), (3, .int (nI b)), (4, .int r9)]) hx hb dX12_holds_9 hl (by decide) rfl (fun ls hl => ?_)
  have L11 : ∀ (f : Nat) (k : Nat) (st : List Bool) (w9 : Nat → Int32), (fr ≤ k) → (k ≤ en) → (zrsN (zfr9 x a b r9) (x.1 94) fr (k - fr) = some st) → (zpil w9 st) → en + 1 ≤ k + f → ∀ (H : Heap) (locs : List Loc), zI G (zsrI x 97 w9) A s.heap H locs → ∀ ls : Array Slot, lv_has ls 10 [(0, .ref (za G 77)), (1, .int (nI c1)), (2, .int (nI a)), (3, .int (nI b)), (4, .int r9), (5, .int (nI st.length)), (6, .int (nI k))] → W p l e { frames := 1, cells := 0, slots := 0, locals := 24 } s m ([.ref (za G 77), .int (nI c1), .int (nI a), .int (nI b), .int r9] : List Value).toArray below meth c H locs 0 0 (MQ below (va_Qi (fun (r : Int32) (u : zX) => ∃ w8, zsrI x 97 w8 = u ∧ (if zev9 x c1 (zfr9 x a b r9) = true then nI 1 else nI 0) = r) (fun u t => zJ G u A t.heap) A) ([.ref (za G 77), .int (nI c1), .int (nI a), .int (nI b), .int r9] : List Value).toArray s 0 0 A) (F0 m 11 ls []) := by
    intro f
    induction f with
    | zero =>
      intro k st w9 k1 k2 hn9 hpl hf
      exact absurd hf (by omega)
    | succ f ih =>
      intro k st w9 k1 k2 hn9 hpl hf H locs hI ls hl
      have ih11 := ih
      refine lv_iload hx hb dX12_holds_11 (lv_at hl 6 rfl) ?_
      refine lv_aload_n hx hb dX12_holds_13 rfl (lv_at hl 0 rfl) ?_
      refine z_get (C := RX12) (T := TX12) (N := 51) (ci := 12) (v := .ref (za G 93)) hx hb hts hin12 hown hK hI (zo77 hG) rfl 22 (by decide) wF78 (fun _ h9 => h9) rfl dX12_holds_14 ?_
      refine lv_iload_n hx hb dX12_holds_17 rfl (lv_at hl 1 rfl) ?_
      refine z_iald (v := (nI en)) hx hb hK hI (zo93 hG) c1 rfl (by omega) (by decide) e93 dX12_holds_18 ?_
      refine lv_icmp_ge (tgt := 255) hx hb dX12_holds_19 (by decide) (fun c_19 => ?_) (fun c_19 => ?_)
      · skip
        rw [zqG (by omega) (by omega)] at c_19
        have hke : k = en := by omega
        rw [hke, hv9] at hn9
        obtain rfl := Option.some.inj hn9
        refine lv_aload_n hx hb dX12_holds_255 rfl (lv_at hl 0 rfl) ?_
        refine z_get (C := RX12) (T := TX12) (N := 51) (ci := 12) (v := .ref (za G 97)) hx hb hts hin12 hown hK hI (zo77 hG) rfl 29 (by decide) wF99 (fun _ h9 => h9) rfl dX12_holds_256 ?_
        refine lv_iconst (v := (nI 0)) hx hb dX12_holds_259 rfl ?_
        refine z_zald (v := (if v9 = true then nI 1 else nI 0)) hx hb hK hI (zo97 hG) 0 rfl (by decide) (by decide) hpl.1 dX12_holds_260 ?_
        exact z_zret hx hb hr hlocks hI (zb01 _) (⟨_, rfl, by have hz : zev9 x c1 (zfr9 x a b r9) = v9 := (by unfold zev9; rw [e92, e93, nI_clamp (by omega), nI_clamp (by omega), hv9]); rw [hz]⟩) dX12_holds_261
      · skip
        rw [zqG (by omega) (by omega)] at c_19
        obtain ⟨stn, hs9, hs8⟩ := zrsN_s (show k - fr < en - fr by omega) hv9 hn9
        have hlen := zrsN_l hn9
        refine lv_aload_n hx hb dX12_holds_22 rfl (lv_at hl 0 rfl) ?_
        refine z_get (C := RX12) (T := TX12) (N := 51) (ci := 12) (v := .ref (za G 94)) hx hb hts hin12 hown hK hI (zo77 hG) rfl 23 (by decide) wF81 (fun _ h9 => h9) rfl dX12_holds_23 ?_
        refine lv_iload hx hb dX12_holds_26 (lv_at hl 6 rfl) ?_
        rcases hcd k k1 (by omega) with hA | hA | hA | ⟨q1, hq1, hA⟩
        · skip
          rw [show fr + (k - fr) = k by omega, hA] at hs9
          obtain ⟨p0, st0, rfl, rfl⟩ := zrs1_n hs9
          obtain ⟨hw1, hw2⟩ := hpl
          have hlen9 : st0.length + 1 ≤ k - fr := hlen
          have hl : lv_has ls 10 [(0, .ref (za G 77)), (1, .int (nI c1)), (2, .int (nI a)), (3, .int (nI b)), (4, .int r9), (5, .int (nI (st0.length + 1))), (6, .int (nI k))] := hl
          refine z_iald (v := (-33)) hx hb hK hI (zo94 hG) k rfl (by omega) (by decide) hA dX12_holds_28 ?_
          refine lv_istore (lv' := [(7, .int (-33)), (0, .ref (za G 77)), (1, .int (nI c1)), (2, .int (nI a)), (3, .int (nI b)), (4, .int r9), (5, .int (nI (st0.length + 1))), (6, .int (nI k))]) hx hb dX12_holds_29 hl (by decide) rfl (fun ls hl => ?_)
          refine lv_iload hx hb dX12_holds_31 (lv_at hl 0 rfl) ?_
          refine lv_bipush (v := (-33)) hx hb dX12_holds_33 rfl ?_
          refine lv_icmp_ne (tgt := 67) hx hb dX12_holds_35 (by decide) (fun c_35 => ?_) (fun c_35 => ?_)
          · skip
            exact absurd rfl c_35
          · skip
            refine lv_aload_n hx hb dX12_holds_38 rfl (lv_at hl 1 rfl) ?_
            refine z_get (C := RX12) (T := TX12) (N := 51) (ci := 12) (v := .ref (za G 97)) hx hb hts hin12 hown hK hI (zo77 hG) rfl 29 (by decide) wF99 (fun _ h9 => h9) rfl dX12_holds_39 ?_
            refine lv_iload hx hb dX12_holds_42 (lv_at hl 6 rfl) ?_
            refine lv_iconst (v := (nI 1)) hx hb dX12_holds_44 rfl ?_
            refine z_isub (v := (nI st0.length)) hx hb (z_sub1 (t := (st0.length + 1)) (by omega)) dX12_holds_45 ?_
            refine lv_aload_n hx hb dX12_holds_46 rfl (lv_at hl 1 rfl) ?_
            refine z_get (C := RX12) (T := TX12) (N := 51) (ci := 12) (v := .ref (za G 97)) hx hb hts hin12 hown hK hI (zo77 hG) rfl 29 (by decide) wF99 (fun _ h9 => h9) rfl dX12_holds_47 ?_
            refine lv_iload hx hb dX12_holds_50 (lv_at hl 6 rfl) ?_
            refine lv_iconst (v := (nI 1)) hx hb dX12_holds_52 rfl ?_
            refine z_isub (v := (nI st0.length)) hx hb (z_sub1 (t := (st0.length + 1)) (by omega)) dX12_holds_53 ?_
            refine z_zald (v := (if p0 = true then nI 1 else nI 0)) hx hb hK hI (zo97 hG) st0.length rfl (by omega) (by decide) hw1 dX12_holds_54 ?_
            refine lv_if_ne (tgt := 62) hx hb dX12_holds_55 (by decide) (fun c_55 => ?_) (fun c_55 => ?_)
            · skip
              rw [zb_0, Classical.not_not] at c_55
              refine lv_iconst (v := (nI 0)) hx hb dX12_holds_62 rfl ?_
              refine z_zast (y := (nI 0)) hx hb hK hI (zo97 hG) st0.length rfl (by omega) (by decide) (by decide) dX12_holds_63 (fun H locs hI => ?_)
              rw [zsI_sr] at hI
              refine lv_goto (tgt := 249) hx hb dX12_holds_64 (by decide) ?_
              refine lv_iinc (v := (nI (k + 1))) (lv' := [(6, .int (nI (k + 1))), (7, .int (-33)), (0, .ref (za G 77)), (1, .int (nI c1)), (2, .int (nI a)), (3, .int (nI b)), (4, .int r9), (5, .int (nI (st0.length + 1)))]) hx hb dX12_holds_249 hl (k := 7) rfl (zinc k) (by decide) rfl (fun ls hl => ?_)
              refine lv_goto (tgt := 11) hx hb dX12_holds_252 (by decide) ?_
              exact ih11 (k + 1) ((!p0) :: st0) (upd w9 st0.length (nI 0)) (by omega) (by omega) (by rw [show k + 1 - fr = (k - fr) + 1 by omega]; exact hs8) (zpil_c (a := !p0) (by cases p0 <;> simp_all) hw2) (by omega) _ _ hI ls (lv_sub hl [2, 3, 4, 5, 6, 7, 0] rfl)
            · skip
              rw [zb_0] at c_55
              refine lv_iconst (v := (nI 1)) hx hb dX12_holds_58 rfl ?_
              refine lv_goto (tgt := 63) hx hb dX12_holds_59 (by decide) ?_
              refine z_zast (y := (nI 1)) hx hb hK hI (zo97 hG) st0.length rfl (by omega) (by decide) (by decide) dX12_holds_63 (fun H locs hI => ?_)
              rw [zsI_sr] at hI
              refine lv_goto (tgt := 249) hx hb dX12_holds_64 (by decide) ?_
              refine lv_iinc (v := (nI (k + 1))) (lv' := [(6, .int (nI (k + 1))), (7, .int (-33)), (0, .ref (za G 77)), (1, .int (nI c1)), (2, .int (nI a)), (3, .int (nI b)), (4, .int r9), (5, .int (nI (st0.length + 1)))]) hx hb dX12_holds_249 hl (k := 7) rfl (zinc k) (by decide) rfl (fun ls hl => ?_)
              refine lv_goto (tgt := 11) hx hb dX12_holds_252 (by decide) ?_
              exact ih11 (k + 1) ((!p0) :: st0) (upd w9 st0.length (nI 1)) (by omega) (by omega) (by rw [show k + 1 - fr = (k - fr) + 1 by omega]; exact hs8) (zpil_c (a := !p0) (by cases p0 <;> simp_all) hw2) (by omega) _ _ hI ls (lv_sub hl [2, 3, 4, 5, 6, 7, 0] rfl)
        · skip
          rw [show fr + (k - fr) = k by omega, hA] at hs9
          obtain ⟨p1, p0, st0, rfl, rfl⟩ := zrs1_b (by decide) (by decide) hs9
          obtain ⟨hw1, hw2, hw3⟩ := hpl
          have hlen9 : st0.length + 1 + 1 ≤ k - fr := hlen
          have hl : lv_has ls 10 [(0, .ref (za G 77)), (1, .int (nI c1)), (2, .int (nI a)), (3, .int (nI b)), (4, .int r9), (5, .int (nI (st0.length + 1 + 1))), (6, .int (nI k))] := hl
          refine z_iald (v := (-38)) hx hb hK hI (zo94 hG) k rfl (by omega) (by decide) hA dX12_holds_28 ?_
          refine lv_istore (lv' := [(7, .int (-38)), (0, .ref (za G 77)), (1, .int (nI c1)), (2, .int (nI a)), (3, .int (nI b)), (4, .int r9), (5, .int (nI (st0.length + 1 + 1))), (6, .int (nI k))]) hx hb dX12_holds_29 hl (by decide) rfl (fun ls hl => ?_)
          refine lv_iload hx hb dX12_holds_31 (lv_at hl 0 rfl) ?_
          refine lv_bipush (v := (-33)) hx hb dX12_holds_33 rfl ?_
          refine lv_icmp_ne (tgt := 67) hx hb dX12_holds_35 (by decide) (fun c_35 => ?_) (fun c_35 => ?_)
          · skip
            refine lv_iload hx hb dX12_holds_67 (lv_at hl 0 rfl) ?_
            refine lv_if_ge (tgt := 151) hx hb dX12_holds_69 (by decide) (fun c_69 => ?_) (fun c_69 => ?_)
            · skip
              exact absurd c_69 (by decide)
            · skip
              refine lv_iinc (v := (nI (st0.length + 1))) (lv' := [(5, .int (nI (st0.length + 1))), (7, .int (-38)), (0, .ref (za G 77)), (1, .int (nI c1)), (2, .int (nI a)), (3, .int (nI b)), (4, .int r9), (6, .int (nI k))]) hx hb dX12_holds_72 hl (k := 6) rfl ((z_dec _).trans (z_sub1 (t := st0.length + 1 + 1) (by omega))) (by decide) rfl (fun ls hl => ?_)
              refine lv_aload_n hx hb dX12_holds_75 rfl (lv_at hl 2 rfl) ?_
              refine z_get (C := RX12) (T := TX12) (N := 51) (ci := 12) (v := .ref (za G 97)) hx hb hts hin12 hown hK hI (zo77 hG) rfl 29 (by decide) wF99 (fun _ h9 => h9) rfl dX12_holds_76 ?_
              refine lv_iload hx hb dX12_holds_79 (lv_at hl 0 rfl) ?_
              refine lv_iconst (v := (nI 1)) hx hb dX12_holds_81 rfl ?_
              refine z_isub (v := (nI st0.length)) hx hb (z_sub1 (t := (st0.length + 1)) (by omega)) dX12_holds_82 ?_
              refine lv_iload hx hb dX12_holds_83 (lv_at hl 1 rfl) ?_
              refine lv_bipush (v := (-38)) hx hb dX12_holds_85 rfl ?_
              refine lv_icmp_ne (tgt := 120) hx hb dX12_holds_87 (by decide) (fun c_87 => ?_) (fun c_87 => ?_)
              · skip
                exact absurd rfl c_87
              · skip
                refine lv_aload_n hx hb dX12_holds_90 rfl (lv_at hl 2 rfl) ?_
                refine z_get (C := RX12) (T := TX12) (N := 51) (ci := 12) (v := .ref (za G 97)) hx hb hts hin12 hown hK hI (zo77 hG) rfl 29 (by decide) wF99 (fun _ h9 => h9) rfl dX12_holds_91 ?_
                refine lv_iload hx hb dX12_holds_94 (lv_at hl 0 rfl) ?_
                refine lv_iconst (v := (nI 1)) hx hb dX12_holds_96 rfl ?_
                refine z_isub (v := (nI st0.length)) hx hb (z_sub1 (t := (st0.length + 1)) (by omega)) dX12_holds_97 ?_
                refine z_zald (v := (if p0 = true then nI 1 else nI 0)) hx hb hK hI (zo97 hG) st0.length rfl (by omega) (by decide) hw2 dX12_holds_98 ?_
                refine lv_if_eq (tgt := 116) hx hb dX12_holds_99 (by decide) (fun c_99 => ?_) (fun c_99 => ?_)
                · skip
                  rw [zb_0] at c_99
                  refine lv_iconst (v := (nI 0)) hx hb dX12_holds_116 rfl ?_
                  refine lv_goto (tgt := 147) hx hb dX12_holds_117 (by decide) ?_
                  refine z_zast (y := (nI 0)) hx hb hK hI (zo97 hG) st0.length rfl (by omega) (by decide) (by decide) dX12_holds_147 (fun H locs hI => ?_)
                  rw [zsI_sr] at hI
                  refine lv_goto (tgt := 249) hx hb dX12_holds_148 (by decide) ?_
                  refine lv_iinc (v := (nI (k + 1))) (lv' := [(6, .int (nI (k + 1))), (5, .int (nI (st0.length + 1))), (7, .int (-38)), (0, .ref (za G 77)), (1, .int (nI c1)), (2, .int (nI a)), (3, .int (nI b)), (4, .int r9)]) hx hb dX12_holds_249 hl (k := 7) rfl (zinc k) (by decide) rfl (fun ls hl => ?_)
                  refine lv_goto (tgt := 11) hx hb dX12_holds_252 (by decide) ?_
                  exact ih11 (k + 1) ((if (-38 : Int32) = -38 then (p0 && p1) else (p0 || p1)) :: st0) (upd w9 st0.length (nI 0)) (by omega) (by omega) (by rw [show k + 1 - fr = (k - fr) + 1 by omega]; exact hs8) (zpil_c (zandB0 (Or.inl c_99)) hw3) (by omega) _ _ hI ls (lv_sub hl [3, 4, 5, 6, 7, 1, 0] rfl)
                · skip
                  rw [zb_0, Classical.not_not] at c_99
                  refine lv_aload_n hx hb dX12_holds_102 rfl (lv_at hl 2 rfl) ?_
                  refine z_get (C := RX12) (T := TX12) (N := 51) (ci := 12) (v := .ref (za G 97)) hx hb hts hin12 hown hK hI (zo77 hG) rfl 29 (by decide) wF99 (fun _ h9 => h9) rfl dX12_holds_103 ?_
                  refine lv_iload hx hb dX12_holds_106 (lv_at hl 0 rfl) ?_
                  refine z_zald (v := (if p1 = true then nI 1 else nI 0)) hx hb hK hI (zo97 hG) (st0.length + 1) rfl (by omega) (by decide) hw1 dX12_holds_108 ?_
                  refine lv_if_eq (tgt := 116) hx hb dX12_holds_109 (by decide) (fun c_109 => ?_) (fun c_109 => ?_)
                  · skip
                    rw [zb_0] at c_109
                    refine lv_iconst (v := (nI 0)) hx hb dX12_holds_116 rfl ?_
                    refine lv_goto (tgt := 147) hx hb dX12_holds_117 (by decide) ?_
                    refine z_zast (y := (nI 0)) hx hb hK hI (zo97 hG) st0.length rfl (by omega) (by decide) (by decide) dX12_holds_147 (fun H locs hI => ?_)
                    rw [zsI_sr] at hI
                    refine lv_goto (tgt := 249) hx hb dX12_holds_148 (by decide) ?_
                    refine lv_iinc (v := (nI (k + 1))) (lv' := [(6, .int (nI (k + 1))), (5, .int (nI (st0.length + 1))), (7, .int (-38)), (0, .ref (za G 77)), (1, .int (nI c1)), (2, .int (nI a)), (3, .int (nI b)), (4, .int r9)]) hx hb dX12_holds_249 hl (k := 7) rfl (zinc k) (by decide) rfl (fun ls hl => ?_)
                    refine lv_goto (tgt := 11) hx hb dX12_holds_252 (by decide) ?_
                    exact ih11 (k + 1) ((if (-38 : Int32) = -38 then (p0 && p1) else (p0 || p1)) :: st0) (upd w9 st0.length (nI 0)) (by omega) (by omega) (by rw [show k + 1 - fr = (k - fr) + 1 by omega]; exact hs8) (zpil_c (zandB0 (Or.inr c_109)) hw3) (by omega) _ _ hI ls (lv_sub hl [3, 4, 5, 6, 7, 1, 0] rfl)
                  · skip
                    rw [zb_0, Classical.not_not] at c_109
                    refine lv_iconst (v := (nI 1)) hx hb dX12_holds_112 rfl ?_
                    refine lv_goto (tgt := 147) hx hb dX12_holds_113 (by decide) ?_
                    refine z_zast (y := (nI 1)) hx hb hK hI (zo97 hG) st0.length rfl (by omega) (by decide) (by decide) dX12_holds_147 (fun H locs hI => ?_)
                    rw [zsI_sr] at hI
                    refine lv_goto (tgt := 249) hx hb dX12_holds_148 (by decide) ?_
                    refine lv_iinc (v := (nI (k + 1))) (lv' := [(6, .int (nI (k + 1))), (5, .int (nI (st0.length + 1))), (7, .int (-38)), (0, .ref (za G 77)), (1, .int (nI c1)), (2, .int (nI a)), (3, .int (nI b)), (4, .int r9)]) hx hb dX12_holds_249 hl (k := 7) rfl (zinc k) (by decide) rfl (fun ls hl => ?_)
                    refine lv_goto (tgt := 11) hx hb dX12_holds_252 (by decide) ?_
                    exact ih11 (k + 1) ((if (-38 : Int32) = -38 then (p0 && p1) else (p0 || p1)) :: st0) (upd w9 st0.length (nI 1)) (by omega) (by omega) (by rw [show k + 1 - fr = (k - fr) + 1 by omega]; exact hs8) (zpil_c (zandB1 c_99 c_109) hw3) (by omega) _ _ hI ls (lv_sub hl [3, 4, 5, 6, 7, 1, 0] rfl)
          · skip
            exact absurd c_35 (by decide)
        · skip
          rw [show fr + (k - fr) = k by omega, hA] at hs9
          obtain ⟨p1, p0, st0, rfl, rfl⟩ := zrs1_b (by decide) (by decide) hs9
          obtain ⟨hw1, hw2, hw3⟩ := hpl
          have hlen9 : st0.length + 1 + 1 ≤ k - fr := hlen
          have hl : lv_has ls 10 [(0, .ref (za G 77)), (1, .int (nI c1)), (2, .int (nI a)), (3, .int (nI b)), (4, .int r9), (5, .int (nI (st0.length + 1 + 1))), (6, .int (nI k))] := hl
          refine z_iald (v := (-124)) hx hb hK hI (zo94 hG) k rfl (by omega) (by decide) hA dX12_holds_28 ?_
          refine lv_istore (lv' := [(7, .int (-124)), (0, .ref (za G 77)), (1, .int (nI c1)), (2, .int (nI a)), (3, .int (nI b)), (4, .int r9), (5, .int (nI (st0.length + 1 + 1))), (6, .int (nI k))]) hx hb dX12_holds_29 hl (by decide) rfl (fun ls hl => ?_)
          refine lv_iload hx hb dX12_holds_31 (lv_at hl 0 rfl) ?_
          refine lv_bipush (v := (-33)) hx hb dX12_holds_33 rfl ?_
          refine lv_icmp_ne (tgt := 67) hx hb dX12_holds_35 (by decide) (fun c_35 => ?_) (fun c_35 => ?_)
          · skip
            refine lv_iload hx hb dX12_holds_67 (lv_at hl 0 rfl) ?_
            refine lv_if_ge (tgt := 151) hx hb dX12_holds_69 (by decide) (fun c_69 => ?_) (fun c_69 => ?_)
            · skip
              exact absurd c_69 (by decide)
            · skip
              refine lv_iinc (v := (nI (st0.length + 1))) (lv' := [(5, .int (nI (st0.length + 1))), (7, .int (-124)), (0, .ref (za G 77)), (1, .int (nI c1)), (2, .int (nI a)), (3, .int (nI b)), (4, .int r9), (6, .int (nI k))]) hx hb dX12_holds_72 hl (k := 6) rfl ((z_dec _).trans (z_sub1 (t := st0.length + 1 + 1) (by omega))) (by decide) rfl (fun ls hl => ?_)
              refine lv_aload_n hx hb dX12_holds_75 rfl (lv_at hl 2 rfl) ?_
              refine z_get (C := RX12) (T := TX12) (N := 51) (ci := 12) (v := .ref (za G 97)) hx hb hts hin12 hown hK hI (zo77 hG) rfl 29 (by decide) wF99 (fun _ h9 => h9) rfl dX12_holds_76 ?_
              refine lv_iload hx hb dX12_holds_79 (lv_at hl 0 rfl) ?_
              refine lv_iconst (v := (nI 1)) hx hb dX12_holds_81 rfl ?_
              refine z_isub (v := (nI st0.length)) hx hb (z_sub1 (t := (st0.length + 1)) (by omega)) dX12_holds_82 ?_
              refine lv_iload hx hb dX12_holds_83 (lv_at hl 1 rfl) ?_
              refine lv_bipush (v := (-38)) hx hb dX12_holds_85 rfl ?_
              refine lv_icmp_ne (tgt := 120) hx hb dX12_holds_87 (by decide) (fun c_87 => ?_) (fun c_87 => ?_)
              · skip
                refine lv_aload_n hx hb dX12_holds_120 rfl (lv_at hl 2 rfl) ?_
                refine z_get (C := RX12) (T := TX12) (N := 51) (ci := 12) (v := .ref (za G 97)) hx hb hts hin12 hown hK hI (zo77 hG) rfl 29 (by decide) wF99 (fun _ h9 => h9) rfl dX12_holds_121 ?_
                refine lv_iload hx hb dX12_holds_124 (lv_at hl 0 rfl) ?_
                refine lv_iconst (v := (nI 1)) hx hb dX12_holds_126 rfl ?_
                refine z_isub (v := (nI st0.length)) hx hb (z_sub1 (t := (st0.length + 1)) (by omega)) dX12_holds_127 ?_
                refine z_zald (v := (if p0 = true then nI 1 else nI 0)) hx hb hK hI (zo97 hG) st0.length rfl (by omega) (by decide) hw2 dX12_holds_128 ?_
                refine lv_if_ne (tgt := 142) hx hb dX12_holds_129 (by decide) (fun c_129 => ?_) (fun c_129 => ?_)
                · skip
                  rw [zb_0, Classical.not_not] at c_129
                  refine lv_iconst (v := (nI 1)) hx hb dX12_holds_142 rfl ?_
                  refine lv_goto (tgt := 147) hx hb dX12_holds_143 (by decide) ?_
                  refine z_zast (y := (nI 1)) hx hb hK hI (zo97 hG) st0.length rfl (by omega) (by decide) (by decide) dX12_holds_147 (fun H locs hI => ?_)
                  rw [zsI_sr] at hI
                  refine lv_goto (tgt := 249) hx hb dX12_holds_148 (by decide) ?_
                  refine lv_iinc (v := (nI (k + 1))) (lv' := [(6, .int (nI (k + 1))), (5, .int (nI (st0.length + 1))), (7, .int (-124)), (0, .ref (za G 77)), (1, .int (nI c1)), (2, .int (nI a)), (3, .int (nI b)), (4, .int r9)]) hx hb dX12_holds_249 hl (k := 7) rfl (zinc k) (by decide) rfl (fun ls hl => ?_)
                  refine lv_goto (tgt := 11) hx hb dX12_holds_252 (by decide) ?_
                  exact ih11 (k + 1) ((if (-124 : Int32) = -38 then (p0 && p1) else (p0 || p1)) :: st0) (upd w9 st0.length (nI 1)) (by omega) (by omega) (by rw [show k + 1 - fr = (k - fr) + 1 by omega]; exact hs8) (zpil_c (zorB1 (Or.inl c_129)) hw3) (by omega) _ _ hI ls (lv_sub hl [3, 4, 5, 6, 7, 1, 0] rfl)
                · skip
                  rw [zb_0] at c_129
                  refine lv_aload_n hx hb dX12_holds_132 rfl (lv_at hl 2 rfl) ?_
                  refine z_get (C := RX12) (T := TX12) (N := 51) (ci := 12) (v := .ref (za G 97)) hx hb hts hin12 hown hK hI (zo77 hG) rfl 29 (by decide) wF99 (fun _ h9 => h9) rfl dX12_holds_133 ?_
                  refine lv_iload hx hb dX12_holds_136 (lv_at hl 0 rfl) ?_
                  refine z_zald (v := (if p1 = true then nI 1 else nI 0)) hx hb hK hI (zo97 hG) (st0.length + 1) rfl (by omega) (by decide) hw1 dX12_holds_138 ?_
                  refine lv_if_eq (tgt := 146) hx hb dX12_holds_139 (by decide) (fun c_139 => ?_) (fun c_139 => ?_)
                  · skip
                    rw [zb_0] at c_139
                    refine lv_iconst (v := (nI 0)) hx hb dX12_holds_146 rfl ?_
                    refine z_zast (y := (nI 0)) hx hb hK hI (zo97 hG) st0.length rfl (by omega) (by decide) (by decide) dX12_holds_147 (fun H locs hI => ?_)
                    rw [zsI_sr] at hI
                    refine lv_goto (tgt := 249) hx hb dX12_holds_148 (by decide) ?_
                    refine lv_iinc (v := (nI (k + 1))) (lv' := [(6, .int (nI (k + 1))), (5, .int (nI (st0.length + 1))), (7, .int (-124)), (0, .ref (za G 77)), (1, .int (nI c1)), (2, .int (nI a)), (3, .int (nI b)), (4, .int r9)]) hx hb dX12_holds_249 hl (k := 7) rfl (zinc k) (by decide) rfl (fun ls hl => ?_)
                    refine lv_goto (tgt := 11) hx hb dX12_holds_252 (by decide) ?_
                    exact ih11 (k + 1) ((if (-124 : Int32) = -38 then (p0 && p1) else (p0 || p1)) :: st0) (upd w9 st0.length (nI 0)) (by omega) (by omega) (by rw [show k + 1 - fr = (k - fr) + 1 by omega]; exact hs8) (zpil_c (zorB0 c_129 c_139) hw3) (by omega) _ _ hI ls (lv_sub hl [3, 4, 5, 6, 7, 1, 0] rfl)
                  · skip
                    rw [zb_0, Classical.not_not] at c_139
                    refine lv_iconst (v := (nI 1)) hx hb dX12_holds_142 rfl ?_
                    refine lv_goto (tgt := 147) hx hb dX12_holds_143 (by decide) ?_
                    refine z_zast (y := (nI 1)) hx hb hK hI (zo97 hG) st0.length rfl (by omega) (by decide) (by decide) dX12_holds_147 (fun H locs hI => ?_)
                    rw [zsI_sr] at hI
                    refine lv_goto (tgt := 249) hx hb dX12_holds_148 (by decide) ?_
                    refine lv_iinc (v := (nI (k + 1))) (lv' := [(6, .int (nI (k + 1))), (5, .int (nI (st0.length + 1))), (7, .int (-124)), (0, .ref (za G 77)), (1, .int (nI c1)), (2, .int (nI a)), (3, .int (nI b)), (4, .int r9)]) hx hb dX12_holds_249 hl (k := 7) rfl (zinc k) (by decide) rfl (fun ls hl => ?_)
                    refine lv_goto (tgt := 11) hx hb dX12_holds_252 (by decide) ?_
                    exact ih11 (k + 1) ((if (-124 : Int32) = -38 then (p0 && p1) else (p0 || p1)) :: st0) (upd w9 st0.length (nI 1)) (by omega) (by omega) (by rw [show k + 1 - fr = (k - fr) + 1 by omega]; exact hs8) (zpil_c (zorB1 (Or.inr c_139)) hw3) (by omega) _ _ hI ls (lv_sub hl [3, 4, 5, 6, 7, 1, 0] rfl)
              · skip
                exact absurd c_87 (by decide)
          · skip
            exact absurd c_35 (by decide)
        · skip
          rw [show fr + (k - fr) = k by omega, hA] at hs9
          obtain rfl := zrs1_t hq1 hs9
          refine z_iald (v := (nI q1)) hx hb hK hI (zo94 hG) k rfl (by omega) (by decide) hA dX12_holds_28 ?_
          refine lv_istore (lv' := [(7, .int (nI q1)), (0, .ref (za G 77)), (1, .int (nI c1)), (2, .int (nI a)), (3, .int (nI b)), (4, .int r9), (5, .int (nI st.length)), (6, .int (nI k))]) hx hb dX12_holds_29 hl (by decide) rfl (fun ls hl => ?_)
          refine lv_iload hx hb dX12_holds_31 (lv_at hl 0 rfl) ?_
          refine lv_bipush (v := (-33)) hx hb dX12_holds_33 rfl ?_
          refine lv_icmp_ne (tgt := 67) hx hb dX12_holds_35 (by decide) (fun c_35 => ?_) (fun c_35 => ?_)
          · skip
            refine lv_iload hx hb dX12_holds_67 (lv_at hl 0 rfl) ?_
            refine lv_if_ge (tgt := 151) hx hb dX12_holds_69 (by decide) (fun c_69 => ?_) (fun c_69 => ?_)
            · skip
              rw [show (0 : Int32) = nI 0 from rfl] at c_69; rw [zqG (by omega) (by omega)] at c_69
              refine lv_aload_n hx hb dX12_holds_151 rfl (lv_at hl 1 rfl) ?_
              refine lv_iload hx hb dX12_holds_152 (lv_at hl 0 rfl) ?_
              refine lv_sipush (v := (nI 1000)) hx hb dX12_holds_154 rfl ?_
              refine z_idiv (v := (nI (q1 / 1000))) hx hb (pk_div (by omega) (by omega) (by omega)) dX12_holds_157 (by decide) ?_
              refine lv_iload_n hx hb dX12_holds_158 rfl (lv_at hl 3 rfl) ?_
              refine lv_iload_n hx hb dX12_holds_159 rfl (lv_at hl 4 rfl) ?_
              refine lv_iload hx hb dX12_holds_160 (lv_at hl 5 rfl) ?_
              refine z_calli (va_runV (As := [.int (nI (q1 / 1000)), .int (nI a), .int (nI b), .int r9]) (rest := []) ⟨hx, hb, hml, hown, hts⟩ ((c_X12_factOf l hG (zsrI x 97 w9) (q1 / 1000) a b r9 (by omega) ha9 hb9) A) (cwV 4 hts gX12_holds_X12_factOf rfl rfl rfl (by decide +kernel) ⟨Nat.le_of_ble_eq_true rfl, Nat.le_of_ble_eq_true rfl⟩) (z_pV hI hK hN (z_recv hK hI (zo77 hG) rfl)) rfl rfl hl.1 rfl (lv_room (Nat.le_of_ble_eq_true rfl)) dX12_holds_162 ⟨Nat.zero_le _, Nat.zero_le _⟩) hI (fun r_162 u H locs hw hI => ?_)
              obtain ⟨rfl, rfl⟩ := hw
              refine lv_istore (lv' := [(8, .int (zfr9 (zsrI x 97 w9) a b r9 (q1 / 1000))), (7, .int (nI q1)), (0, .ref (za G 77)), (1, .int (nI c1)), (2, .int (nI a)), (3, .int (nI b)), (4, .int r9), (5, .int (nI st.length)), (6, .int (nI k))]) hx hb dX12_holds_165 hl (by decide) rfl (fun ls hl => ?_)
              refine lv_iload hx hb dX12_holds_167 (lv_at hl 1 rfl) ?_
              refine lv_bipush (v := (nI 100)) hx hb dX12_holds_169 rfl ?_
              refine z_idiv (v := (nI (q1 / 100))) hx hb (pk_div (by omega) (by omega) (by omega)) dX12_holds_171 (by decide) ?_
              refine lv_bipush (v := (nI 10)) hx hb dX12_holds_172 rfl ?_
              refine z_irem (v := (nI (q1 / 100 % 10))) hx hb (pk_rem (by omega) (by omega) (by omega)) dX12_holds_174 (by decide) ?_
              refine lv_istore (lv' := [(9, .int (nI (q1 / 100 % 10))), (8, .int (zfr9 (zsrI x 97 w9) a b r9 (q1 / 1000))), (7, .int (nI q1)), (0, .ref (za G 77)), (1, .int (nI c1)), (2, .int (nI a)), (3, .int (nI b)), (4, .int r9), (5, .int (nI st.length)), (6, .int (nI k))]) hx hb dX12_holds_175 hl (by decide) rfl (fun ls hl => ?_)
              refine lv_aload_n hx hb dX12_holds_177 rfl (lv_at hl 3 rfl) ?_
              refine z_get (C := RX12) (T := TX12) (N := 51) (ci := 12) (v := .ref (za G 97)) hx hb hts hin12 hown hK hI (zo77 hG) rfl 29 (by decide) wF99 (fun _ h9 => h9) rfl dX12_holds_178 ?_
              refine lv_iload hx hb dX12_holds_181 (lv_at hl 8 rfl) ?_
              refine lv_iload hx hb dX12_holds_183 (lv_at hl 0 rfl) ?_
              refine lv_if_ne (tgt := 206) hx hb dX12_holds_185 (by decide) (fun c_185 => ?_) (fun c_185 => ?_)
              · skip
                refine lv_iload hx hb dX12_holds_206 (lv_at hl 0 rfl) ?_
                refine lv_iconst (v := (nI 1)) hx hb dX12_holds_208 rfl ?_
                refine lv_icmp_ne (tgt := 230) hx hb dX12_holds_209 (by decide) (fun c_209 => ?_) (fun c_209 => ?_)
                · skip
                  refine lv_iload hx hb dX12_holds_230 (lv_at hl 1 rfl) ?_
                  refine lv_iload hx hb dX12_holds_232 (lv_at hl 2 rfl) ?_
                  refine lv_bipush (v := (nI 100)) hx hb dX12_holds_234 rfl ?_
                  refine z_irem (v := (nI (q1 % 100))) hx hb (pk_rem (by omega) (by omega) (by omega)) dX12_holds_236 (by decide) ?_
                  refine lv_icmp_le (tgt := 244) hx hb dX12_holds_237 (by decide) (fun c_237 => ?_) (fun c_237 => ?_)
                  · skip
                    refine lv_iconst (v := (nI 0)) hx hb dX12_holds_244 rfl ?_
                    refine z_zast (y := (nI 0)) hx hb hK hI (zo97 hG) st.length rfl (by omega) (by decide) (by decide) dX12_holds_245 (fun H locs hI => ?_)
                    rw [zsI_sr] at hI
                    refine lv_iinc (v := (nI (st.length + 1))) (lv' := [(5, .int (nI (st.length + 1))), (9, .int (nI (q1 / 100 % 10))), (8, .int (zfr9 (zsrI x 97 w9) a b r9 (q1 / 1000))), (7, .int (nI q1)), (0, .ref (za G 77)), (1, .int (nI c1)), (2, .int (nI a)), (3, .int (nI b)), (4, .int r9), (6, .int (nI k))]) hx hb dX12_holds_246 hl (k := 8) rfl (zinc st.length) (by decide) rfl (fun ls hl => ?_)
                    refine lv_iinc (v := (nI (k + 1))) (lv' := [(6, .int (nI (k + 1))), (5, .int (nI (st.length + 1))), (9, .int (nI (q1 / 100 % 10))), (8, .int (zfr9 (zsrI x 97 w9) a b r9 (q1 / 1000))), (7, .int (nI q1)), (0, .ref (za G 77)), (1, .int (nI c1)), (2, .int (nI a)), (3, .int (nI b)), (4, .int r9)]) hx hb dX12_holds_249 hl (k := 9) rfl (zinc k) (by decide) rfl (fun ls hl => ?_)
                    refine lv_goto (tgt := 11) hx hb dX12_holds_252 (by decide) ?_
                    exact ih11 (k + 1) (decide (ztst (zfr9 x a b r9) q1) :: st) (upd w9 st.length (nI 0)) (by omega) (by omega) (by rw [show k + 1 - fr = (k - fr) + 1 by omega]; exact hs8) (zpil_c (if_neg (fun h9 => (fun h9 : ztst (zfr9 x a b r9) q1 => h9.elim (fun h9 => c_185 h9.1) (fun h9 => h9.elim (fun h9 => c_209 h9.2.1) (fun h9 => Int32.not_lt.mpr c_237 h9.2.2))) (of_decide_eq_true h9))) hpl) (by omega) _ _ hI ls (lv_sub hl [5, 6, 7, 8, 9, 1, 0] rfl)
                  · skip
                    refine lv_iconst (v := (nI 1)) hx hb dX12_holds_240 rfl ?_
                    refine lv_goto (tgt := 245) hx hb dX12_holds_241 (by decide) ?_
                    refine z_zast (y := (nI 1)) hx hb hK hI (zo97 hG) st.length rfl (by omega) (by decide) (by decide) dX12_holds_245 (fun H locs hI => ?_)
                    rw [zsI_sr] at hI
                    refine lv_iinc (v := (nI (st.length + 1))) (lv' := [(5, .int (nI (st.length + 1))), (9, .int (nI (q1 / 100 % 10))), (8, .int (zfr9 (zsrI x 97 w9) a b r9 (q1 / 1000))), (7, .int (nI q1)), (0, .ref (za G 77)), (1, .int (nI c1)), (2, .int (nI a)), (3, .int (nI b)), (4, .int r9), (6, .int (nI k))]) hx hb dX12_holds_246 hl (k := 8) rfl (zinc st.length) (by decide) rfl (fun ls hl => ?_)
                    refine lv_iinc (v := (nI (k + 1))) (lv' := [(6, .int (nI (k + 1))), (5, .int (nI (st.length + 1))), (9, .int (nI (q1 / 100 % 10))), (8, .int (zfr9 (zsrI x 97 w9) a b r9 (q1 / 1000))), (7, .int (nI q1)), (0, .ref (za G 77)), (1, .int (nI c1)), (2, .int (nI a)), (3, .int (nI b)), (4, .int r9)]) hx hb dX12_holds_249 hl (k := 9) rfl (zinc k) (by decide) rfl (fun ls hl => ?_)
                    refine lv_goto (tgt := 11) hx hb dX12_holds_252 (by decide) ?_
                    exact ih11 (k + 1) (decide (ztst (zfr9 x a b r9) q1) :: st) (upd w9 st.length (nI 1)) (by omega) (by omega) (by rw [show k + 1 - fr = (k - fr) + 1 by omega]; exact hs8) (zpil_c (if_pos (decide_eq_true (Or.inr (Or.inr ⟨c_185, c_209, Int32.not_le.mp c_237⟩)))) hpl) (by omega) _ _ hI ls (lv_sub hl [5, 6, 7, 8, 9, 1, 0] rfl)
                · skip
                  refine lv_iload hx hb dX12_holds_212 (lv_at hl 1 rfl) ?_
                  refine lv_iload hx hb dX12_holds_214 (lv_at hl 2 rfl) ?_
                  refine lv_bipush (v := (nI 100)) hx hb dX12_holds_216 rfl ?_
                  refine z_irem (v := (nI (q1 % 100))) hx hb (pk_rem (by omega) (by omega) (by omega)) dX12_holds_218 (by decide) ?_
                  refine lv_icmp_ne (tgt := 226) hx hb dX12_holds_219 (by decide) (fun c_219 => ?_) (fun c_219 => ?_)
                  · skip
                    refine lv_iconst (v := (nI 0)) hx hb dX12_holds_226 rfl ?_
                    refine lv_goto (tgt := 245) hx hb dX12_holds_227 (by decide) ?_
                    refine z_zast (y := (nI 0)) hx hb hK hI (zo97 hG) st.length rfl (by omega) (by decide) (by decide) dX12_holds_245 (fun H locs hI => ?_)
                    rw [zsI_sr] at hI
                    refine lv_iinc (v := (nI (st.length + 1))) (lv' := [(5, .int (nI (st.length + 1))), (9, .int (nI (q1 / 100 % 10))), (8, .int (zfr9 (zsrI x 97 w9) a b r9 (q1 / 1000))), (7, .int (nI q1)), (0, .ref (za G 77)), (1, .int (nI c1)), (2, .int (nI a)), (3, .int (nI b)), (4, .int r9), (6, .int (nI k))]) hx hb dX12_holds_246 hl (k := 8) rfl (zinc st.length) (by decide) rfl (fun ls hl => ?_)
                    refine lv_iinc (v := (nI (k + 1))) (lv' := [(6, .int (nI (k + 1))), (5, .int (nI (st.length + 1))), (9, .int (nI (q1 / 100 % 10))), (8, .int (zfr9 (zsrI x 97 w9) a b r9 (q1 / 1000))), (7, .int (nI q1)), (0, .ref (za G 77)), (1, .int (nI c1)), (2, .int (nI a)), (3, .int (nI b)), (4, .int r9)]) hx hb dX12_holds_249 hl (k := 9) rfl (zinc k) (by decide) rfl (fun ls hl => ?_)
                    refine lv_goto (tgt := 11) hx hb dX12_holds_252 (by decide) ?_
                    exact ih11 (k + 1) (decide (ztst (zfr9 x a b r9) q1) :: st) (upd w9 st.length (nI 0)) (by omega) (by omega) (by rw [show k + 1 - fr = (k - fr) + 1 by omega]; exact hs8) (zpil_c (if_neg (fun h9 => (fun h9 : ztst (zfr9 x a b r9) q1 => h9.elim (fun h9 => c_185 h9.1) (fun h9 => h9.elim (fun h9 => c_219 h9.2.2) (fun h9 => h9.2.1 c_209))) (of_decide_eq_true h9))) hpl) (by omega) _ _ hI ls (lv_sub hl [5, 6, 7, 8, 9, 1, 0] rfl)
                  · skip
                    refine lv_iconst (v := (nI 1)) hx hb dX12_holds_222 rfl ?_
                    refine lv_goto (tgt := 245) hx hb dX12_holds_223 (by decide) ?_
                    refine z_zast (y := (nI 1)) hx hb hK hI (zo97 hG) st.length rfl (by omega) (by decide) (by decide) dX12_holds_245 (fun H locs hI => ?_)
                    rw [zsI_sr] at hI
                    refine lv_iinc (v := (nI (st.length + 1))) (lv' := [(5, .int (nI (st.length + 1))), (9, .int (nI (q1 / 100 % 10))), (8, .int (zfr9 (zsrI x 97 w9) a b r9 (q1 / 1000))), (7, .int (nI q1)), (0, .ref (za G 77)), (1, .int (nI c1)), (2, .int (nI a)), (3, .int (nI b)), (4, .int r9), (6, .int (nI k))]) hx hb dX12_holds_246 hl (k := 8) rfl (zinc st.length) (by decide) rfl (fun ls hl => ?_)
                    refine lv_iinc (v := (nI (k + 1))) (lv' := [(6, .int (nI (k + 1))), (5, .int (nI (st.length + 1))), (9, .int (nI (q1 / 100 % 10))), (8, .int (zfr9 (zsrI x 97 w9) a b r9 (q1 / 1000))), (7, .int (nI q1)), (0, .ref (za G 77)), (1, .int (nI c1)), (2, .int (nI a)), (3, .int (nI b)), (4, .int r9)]) hx hb dX12_holds_249 hl (k := 9) rfl (zinc k) (by decide) rfl (fun ls hl => ?_)
                    refine lv_goto (tgt := 11) hx hb dX12_holds_252 (by decide) ?_
                    exact ih11 (k + 1) (decide (ztst (zfr9 x a b r9) q1) :: st) (upd w9 st.length (nI 1)) (by omega) (by omega) (by rw [show k + 1 - fr = (k - fr) + 1 by omega]; exact hs8) (zpil_c (if_pos (decide_eq_true (Or.inr (Or.inl ⟨c_185, c_209, c_219⟩)))) hpl) (by omega) _ _ hI ls (lv_sub hl [5, 6, 7, 8, 9, 1, 0] rfl)
              · skip
                refine lv_iload hx hb dX12_holds_188 (lv_at hl 1 rfl) ?_
                refine lv_iload hx hb dX12_holds_190 (lv_at hl 2 rfl) ?_
                refine lv_bipush (v := (nI 100)) hx hb dX12_holds_192 rfl ?_
                refine z_irem (v := (nI (q1 % 100))) hx hb (pk_rem (by omega) (by omega) (by omega)) dX12_holds_194 (by decide) ?_
                refine lv_icmp_ge (tgt := 202) hx hb dX12_holds_195 (by decide) (fun c_195 => ?_) (fun c_195 => ?_)
                · skip
                  refine lv_iconst (v := (nI 0)) hx hb dX12_holds_202 rfl ?_
                  refine lv_goto (tgt := 245) hx hb dX12_holds_203 (by decide) ?_
                  refine z_zast (y := (nI 0)) hx hb hK hI (zo97 hG) st.length rfl (by omega) (by decide) (by decide) dX12_holds_245 (fun H locs hI => ?_)
                  rw [zsI_sr] at hI
                  refine lv_iinc (v := (nI (st.length + 1))) (lv' := [(5, .int (nI (st.length + 1))), (9, .int (nI (q1 / 100 % 10))), (8, .int (zfr9 (zsrI x 97 w9) a b r9 (q1 / 1000))), (7, .int (nI q1)), (0, .ref (za G 77)), (1, .int (nI c1)), (2, .int (nI a)), (3, .int (nI b)), (4, .int r9), (6, .int (nI k))]) hx hb dX12_holds_246 hl (k := 8) rfl (zinc st.length) (by decide) rfl (fun ls hl => ?_)
                  refine lv_iinc (v := (nI (k + 1))) (lv' := [(6, .int (nI (k + 1))), (5, .int (nI (st.length + 1))), (9, .int (nI (q1 / 100 % 10))), (8, .int (zfr9 (zsrI x 97 w9) a b r9 (q1 / 1000))), (7, .int (nI q1)), (0, .ref (za G 77)), (1, .int (nI c1)), (2, .int (nI a)), (3, .int (nI b)), (4, .int r9)]) hx hb dX12_holds_249 hl (k := 9) rfl (zinc k) (by decide) rfl (fun ls hl => ?_)
                  refine lv_goto (tgt := 11) hx hb dX12_holds_252 (by decide) ?_
                  exact ih11 (k + 1) (decide (ztst (zfr9 x a b r9) q1) :: st) (upd w9 st.length (nI 0)) (by omega) (by omega) (by rw [show k + 1 - fr = (k - fr) + 1 by omega]; exact hs8) (zpil_c (if_neg (fun h9 => (fun h9 : ztst (zfr9 x a b r9) q1 => h9.elim (fun h9 => Int32.not_lt.mpr c_195 h9.2) (fun h9 => h9.elim (fun h9 => h9.1 c_185) (fun h9 => h9.1 c_185))) (of_decide_eq_true h9))) hpl) (by omega) _ _ hI ls (lv_sub hl [5, 6, 7, 8, 9, 1, 0] rfl)
                · skip
                  refine lv_iconst (v := (nI 1)) hx hb dX12_holds_198 rfl ?_
                  refine lv_goto (tgt := 245) hx hb dX12_holds_199 (by decide) ?_
                  refine z_zast (y := (nI 1)) hx hb hK hI (zo97 hG) st.length rfl (by omega) (by decide) (by decide) dX12_holds_245 (fun H locs hI => ?_)
                  rw [zsI_sr] at hI
                  refine lv_iinc (v := (nI (st.length + 1))) (lv' := [(5, .int (nI (st.length + 1))), (9, .int (nI (q1 / 100 % 10))), (8, .int (zfr9 (zsrI x 97 w9) a b r9 (q1 / 1000))), (7, .int (nI q1)), (0, .ref (za G 77)), (1, .int (nI c1)), (2, .int (nI a)), (3, .int (nI b)), (4, .int r9), (6, .int (nI k))]) hx hb dX12_holds_246 hl (k := 8) rfl (zinc st.length) (by decide) rfl (fun ls hl => ?_)
                  refine lv_iinc (v := (nI (k + 1))) (lv' := [(6, .int (nI (k + 1))), (5, .int (nI (st.length + 1))), (9, .int (nI (q1 / 100 % 10))), (8, .int (zfr9 (zsrI x 97 w9) a b r9 (q1 / 1000))), (7, .int (nI q1)), (0, .ref (za G 77)), (1, .int (nI c1)), (2, .int (nI a)), (3, .int (nI b)), (4, .int r9)]) hx hb dX12_holds_249 hl (k := 9) rfl (zinc k) (by decide) rfl (fun ls hl => ?_)
                  refine lv_goto (tgt := 11) hx hb dX12_holds_252 (by decide) ?_
                  exact ih11 (k + 1) (decide (ztst (zfr9 x a b r9) q1) :: st) (upd w9 st.length (nI 1)) (by omega) (by omega) (by rw [show k + 1 - fr = (k - fr) + 1 by omega]; exact hs8) (zpil_c (if_pos (decide_eq_true (Or.inl ⟨c_185, Int32.not_le.mp c_195⟩))) hpl) (by omega) _ _ hI ls (lv_sub hl [5, 6, 7, 8, 9, 1, 0] rfl)
            · skip
              rw [show (0 : Int32) = nI 0 from rfl] at c_69; rw [zqG (by omega) (by omega)] at c_69
              exact absurd c_69 (by omega)
          · skip
            exact absurd (show nI q1 = -33 from c_35) (fun e9 => nI_pos (n := q1) (by omega) (by rw [e9]; decide))
  exact L11 (en + 1) fr ([]) w7 (Nat.le_refl _) hfe (by rw [Nat.sub_self]; rfl) trivial (by omega) _ _ hI ls (lv_sub hl [2, 3, 4, 5, 6, 1, 0] rfl)
