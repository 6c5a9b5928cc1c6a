set_option maxHeartbeats 1000000 in
set_option maxRecDepth 100000 in
theorem c_X12_image (l : Launch) {G : zG} (hG : zOK G) (x : zX)  (hb8 : zbo (x.1 86) 8) (hb64 : zbo (x.1 87) 64) : zMi l yX12_image wsX12_image { frames := 0, cells := 0, slots := 0, locals := 0 } G [.ref (za G 77)] x (fun (r : Int32) (u : zX) => zimg x 64 = u ∧ x.1 77 0 = r) := by
  intro A
  refine zBody (cc := cX12_image) (maxL := 2) (ret := (some .int)) (by decide) rfl (Nat.le_of_ble_eq_true rfl) ?_
  intro p e s m below meth c hx hb hml hown hts hr hlocks hK hN hI ls hl
  have hown : s.vm.findClass RX12 = some m.cls := hown
  have hl : lv_has ls 2 [(0, .ref (za G 77))] := hl
  have hin12 : ∀ w ∈ wsX120, w ∈ wsX12_image := (fun _ h => List.mem_cons_of_mem _ (List.mem_append_right _ (h)))
  have wF120 := hts (.fieldLink RX12 120 "WhoSitsByModel" "hasImage" "Z") (z_mem 1 rfl)
  have wF51 := hts (.fieldLink RX12 51 "WhoSitsByModel" "the" "I") (z_mem 2 rfl)
  have wF124 := hts (.fieldLink RX12 124 "WhoSitsByModel" "imageThe" "I") (z_mem 3 rfl)
  have wF7 := hts (.fieldLink RX12 7 "WhoSitsByModel" "pupils" "I") (z_mem 4 rfl)
  have wF127 := hts (.fieldLink RX12 127 "WhoSitsByModel" "imagePupils" "I") (z_mem 5 rfl)
  have wF13 := hts (.fieldLink RX12 13 "WhoSitsByModel" "down" "I") (z_mem 6 rfl)
  have wF130 := hts (.fieldLink RX12 130 "WhoSitsByModel" "imageDowns" "I") (z_mem 7 rfl)
  have wF145 := hts (.fieldLink RX12 145 "WhoSitsByModel" "imageDown" "[Z") (z_mem 16 rfl)
  have wF45 := hts (.fieldLink RX12 45 "WhoSitsByModel" "isDown" "[Z") (z_mem 17 rfl)
  have wF133 := hts (.fieldLink RX12 133 "WhoSitsByModel" "imageSeat" "[I") (z_mem 8 rfl)
  have wF35 := hts (.fieldLink RX12 35 "WhoSitsByModel" "seat" "[I") (z_mem 9 rfl)
  have wF136 := hts (.fieldLink RX12 136 "WhoSitsByModel" "imageSitter" "[I") (z_mem 10 rfl)
  have wF38 := hts (.fieldLink RX12 38 "WhoSitsByModel" "sitter" "[I") (z_mem 11 rfl)
  have wF139 := hts (.fieldLink RX12 139 "WhoSitsByModel" "imageNames" "[I") (z_mem 12 rfl)
  have wF32 := hts (.fieldLink RX12 32 "WhoSitsByModel" "names" "[I") (z_mem 13 rfl)
  have wF142 := hts (.fieldLink RX12 142 "WhoSitsByModel" "imageFront" "[Z") (z_mem 14 rfl)
  have wF41 := hts (.fieldLink RX12 41 "WhoSitsByModel" "needsFront" "[Z") (z_mem 15 rfl)
  refine lv_aload_n hx hb dX12_image_0 rfl (lv_at hl 0 rfl) ?_
  refine lv_iconst (v := (nI 1)) hx hb dX12_image_1 rfl ?_
  refine z_putI (C := RX12) (T := TX12) (N := 51) (ci := 12) (ty := .boolean) hx hb hts hin12 tyX12 tyX12_ok nmX12 hown hK hI (zo77 hG) rfl 36 (by decide) wF120 (fun _ h9 => h9) rfl (fun _ _ => rfl) (by decide +kernel) rfl rfl (fun _ _ => Nat.le_of_ble_eq_true rfl) dX12_image_2 (fun H locs hI => ?_)
  refine lv_aload_n hx hb dX12_image_5 rfl (lv_at hl 0 rfl) ?_
  refine lv_aload_n hx hb dX12_image_6 rfl (lv_at hl 0 rfl) ?_
  refine z_get (C := RX12) (T := TX12) (N := 51) (ci := 12) (v := .int (x.1 77 13)) hx hb hts hin12 hown hK hI (zo77 hG) rfl 13 (by decide) wF51 (fun _ h9 => h9) rfl dX12_image_7 ?_
  refine z_putI (C := RX12) (T := TX12) (N := 51) (ci := 12) (ty := .int) hx hb hts hin12 tyX12 tyX12_ok nmX12 hown hK hI (zo77 hG) rfl 37 (by decide) wF124 (fun _ h9 => h9) rfl (fun _ _ => rfl) (by decide +kernel) rfl rfl (fun _ _ => Nat.le_of_ble_eq_true rfl) dX12_image_10 (fun H locs hI => ?_)
  refine lv_aload_n hx hb dX12_image_13 rfl (lv_at hl 0 rfl) ?_
  refine lv_aload_n hx hb dX12_image_14 rfl (lv_at hl 0 rfl) ?_
  refine z_get (C := RX12) (T := TX12) (N := 51) (ci := 12) (v := .int (x.1 77 0)) hx hb hts hin12 hown hK hI (zo77 hG) rfl 0 (by decide) wF7 (fun _ h9 => h9) rfl dX12_image_15 ?_
  refine z_putI (C := RX12) (T := TX12) (N := 51) (ci := 12) (ty := .int) hx hb hts hin12 tyX12 tyX12_ok nmX12 hown hK hI (zo77 hG) rfl 38 (by decide) wF127 (fun _ h9 => h9) rfl (fun _ _ => rfl) (by decide +kernel) rfl rfl (fun _ _ => Nat.le_of_ble_eq_true rfl) dX12_image_18 (fun H locs hI => ?_)
  refine lv_aload_n hx hb dX12_image_21 rfl (lv_at hl 0 rfl) ?_
  refine lv_aload_n hx hb dX12_image_22 rfl (lv_at hl 0 rfl) ?_
  refine z_get (C := RX12) (T := TX12) (N := 51) (ci := 12) (v := .int (x.1 77 1)) hx hb hts hin12 hown hK hI (zo77 hG) rfl 1 (by decide) wF13 (fun _ h9 => h9) rfl dX12_image_23 ?_
  refine z_putI (C := RX12) (T := TX12) (N := 51) (ci := 12) (ty := .int) hx hb hts hin12 tyX12 tyX12_ok nmX12 hown hK hI (zo77 hG) rfl 39 (by decide) wF130 (fun _ h9 => h9) rfl (fun _ _ => rfl) (by decide +kernel) rfl rfl (fun _ _ => Nat.le_of_ble_eq_true rfl) dX12_image_26 (fun H locs hI => ?_)
  refine lv_iconst (v := (nI 0)) hx hb dX12_image_29 rfl ?_
  refine lv_istore_n (lv' := [(1, .int (nI 0)), (0, .ref (za G 77))]) hx hb dX12_image_30 rfl hl (by decide) rfl (fun ls hl => ?_)
  have L31 : ∀ (f : Nat) (j : Nat) (u : zX), (j ≤ 8) → (zimg1 x j = u) → 9 ≤ j + f → ∀ (H : Heap) (locs : List Loc), zI G u A s.heap H locs → ∀ ls : Array Slot, lv_has ls 2 [(0, .ref (za G 77)), (1, .int (nI j))] → W p l e { frames := 0, cells := 0, slots := 0, locals := 0 } s m ([.ref (za G 77)] : List Value).toArray below meth c H locs 0 0 (MQ below (va_Qi (fun (r : Int32) (u : zX) => zimg x 64 = u ∧ x.1 77 0 = r) (fun u t => zJ G u A t.heap) A) ([.ref (za G 77)] : List Value).toArray s 0 0 A) (F0 m 31 ls []) := by
    intro f
    induction f with
    | zero =>
      intro j u h1 hst hf
      exact absurd hf (by omega)
    | succ f ih =>
      intro j u h1 hst hf H locs hI ls hl
      have ih31 := ih
      refine lv_iload_n hx hb dX12_image_31 rfl (lv_at hl 1 rfl) ?_
      refine lv_bipush (v := (nI 8)) hx hb dX12_image_32 rfl ?_
      refine lv_icmp_ge (tgt := 91) hx hb dX12_image_34 (by decide) (fun c_34 => ?_) (fun c_34 => ?_)
      · skip
        rw [zqG (by omega) (by omega)] at c_34
        refine lv_iconst (v := (nI 0)) hx hb dX12_image_91 rfl ?_
        refine lv_istore_n (lv' := [(1, .int (nI 0)), (0, .ref (za G 77))]) hx hb dX12_image_92 rfl hl (by decide) rfl (fun ls hl => ?_)
        have L93 : ∀ (f : Nat) (j2 : Nat) (u2 : zX), (j2 ≤ 64) → (zimg x j2 = u2) → 65 ≤ j2 + f → ∀ (H : Heap) (locs : List Loc), zI G u2 A s.heap H locs → ∀ ls : Array Slot, lv_has ls 2 [(0, .ref (za G 77)), (1, .int (nI j2))] → W p l e { frames := 0, cells := 0, slots := 0, locals := 0 } s m ([.ref (za G 77)] : List Value).toArray below meth c H locs 0 0 (MQ below (va_Qi (fun (r : Int32) (u : zX) => zimg x 64 = u ∧ x.1 77 0 = r) (fun u t => zJ G u A t.heap) A) ([.ref (za G 77)] : List Value).toArray s 0 0 A) (F0 m 93 ls []) := by
          intro f
          induction f with
          | zero =>
            intro j2 u2 h2 hst2 hf
            exact absurd hf (by omega)
          | succ f ih =>
            intro j2 u2 h2 hst2 hf H locs hI ls hl
            have ih93 := ih
            refine lv_iload_n hx hb dX12_image_93 rfl (lv_at hl 1 rfl) ?_
            refine lv_bipush (v := (nI 64)) hx hb dX12_image_94 rfl ?_
            refine lv_icmp_ge (tgt := 117) hx hb dX12_image_96 (by decide) (fun c_96 => ?_) (fun c_96 => ?_)
            · skip
              rw [zqG (by omega) (by omega)] at c_96
              refine lv_aload_n hx hb dX12_image_117 rfl (lv_at hl 0 rfl) ?_
              refine z_get (C := RX12) (T := TX12) (N := 51) (ci := 12) (v := .int (x.1 77 0)) hx hb hts hin12 hown hK hI (zo77 hG) rfl 0 (by decide) wF7 (fun _ h9 => h9) (congrArg (fun q => some (Value.int q)) (by rw [← hst2]; rfl)) dX12_image_118 ?_
              exact z_iret hx hb hr hlocks hI (⟨by rw [← hst2, show j2 = 64 by omega], rfl⟩) dX12_image_121
            · skip
              rw [zqG (by omega) (by omega)] at c_96
              refine lv_aload_n hx hb dX12_image_99 rfl (lv_at hl 0 rfl) ?_
              refine z_get (C := RX12) (T := TX12) (N := 51) (ci := 12) (v := .ref (za G 106)) hx hb hts hin12 hown hK hI (zo77 hG) rfl 44 (by decide) wF145 (fun _ h9 => h9) rfl dX12_image_100 ?_
              refine lv_iload_n hx hb dX12_image_103 rfl (lv_at hl 1 rfl) ?_
              refine lv_aload_n hx hb dX12_image_104 rfl (lv_at hl 0 rfl) ?_
              refine z_get (C := RX12) (T := TX12) (N := 51) (ci := 12) (v := .ref (za G 87)) hx hb hts hin12 hown hK hI (zo77 hG) rfl 11 (by decide) wF45 (fun _ h9 => h9) rfl dX12_image_105 ?_
              refine lv_iload_n hx hb dX12_image_108 rfl (lv_at hl 1 rfl) ?_
              refine z_zald (v := (x.1 87 j2)) hx hb hK hI (zo87 hG) j2 rfl (by omega) (by decide) (by rw [← hst2]; rfl) dX12_image_109 ?_
              refine z_zast (y := (x.1 87 j2)) hx hb hK hI (zo106 hG) j2 rfl (by omega) (by decide) (hb64 j2 (by omega)) dX12_image_110 (fun H locs hI => ?_)
              refine lv_iinc (v := (nI (j2 + 1))) (lv' := [(1, .int (nI (j2 + 1))), (0, .ref (za G 77))]) hx hb dX12_image_111 hl (k := 1) rfl (zinc j2) (by decide) rfl (fun ls hl => ?_)
              refine lv_goto (tgt := 93) hx hb dX12_image_114 (by decide) ?_
              exact ih93 (j2 + 1) (zsI u2 106 j2 (x.1 87 j2)) (by omega) (by subst hst2; unfold zimg; exact (zput_w (g := x.1 87)).symm) (by omega) _ _ hI ls (lv_sub hl [1, 0] rfl)
        exact L93 (65) 0 u (by omega) (by unfold zimg; rw [zput_0, ← hst, show j = 8 by omega]; exact zsrI_e) (by omega) _ _ hI ls (lv_sub hl [1, 0] rfl)
      · skip
        rw [zqG (by omega) (by omega)] at c_34
        refine lv_aload_n hx hb dX12_image_37 rfl (lv_at hl 0 rfl) ?_
        refine z_get (C := RX12) (T := TX12) (N := 51) (ci := 12) (v := .ref (za G 102)) hx hb hts hin12 hown hK hI (zo77 hG) rfl 40 (by decide) wF133 (fun _ h9 => h9) rfl dX12_image_38 ?_
        refine lv_iload_n hx hb dX12_image_41 rfl (lv_at hl 1 rfl) ?_
        refine lv_aload_n hx hb dX12_image_42 rfl (lv_at hl 0 rfl) ?_
        refine z_get (C := RX12) (T := TX12) (N := 51) (ci := 12) (v := .ref (za G 84)) hx hb hts hin12 hown hK hI (zo77 hG) rfl 8 (by decide) wF35 (fun _ h9 => h9) rfl dX12_image_43 ?_
        refine lv_iload_n hx hb dX12_image_46 rfl (lv_at hl 1 rfl) ?_
        refine z_iald (v := (x.1 84 j)) hx hb hK hI (zo84 hG) j rfl (by omega) (by decide) (by rw [← hst]; rfl) dX12_image_47 ?_
        refine z_iast (y := (x.1 84 j)) hx hb hK hI (zo102 hG) j rfl (by omega) (by decide) dX12_image_48 (fun H locs hI => ?_)
        refine lv_aload_n hx hb dX12_image_49 rfl (lv_at hl 0 rfl) ?_
        refine z_get (C := RX12) (T := TX12) (N := 51) (ci := 12) (v := .ref (za G 103)) hx hb hts hin12 hown hK hI (zo77 hG) rfl 41 (by decide) wF136 (fun _ h9 => h9) rfl dX12_image_50 ?_
        refine lv_iload_n hx hb dX12_image_53 rfl (lv_at hl 1 rfl) ?_
        refine lv_aload_n hx hb dX12_image_54 rfl (lv_at hl 0 rfl) ?_
        refine z_get (C := RX12) (T := TX12) (N := 51) (ci := 12) (v := .ref (za G 85)) hx hb hts hin12 hown hK hI (zo77 hG) rfl 9 (by decide) wF38 (fun _ h9 => h9) rfl dX12_image_55 ?_
        refine lv_iload_n hx hb dX12_image_58 rfl (lv_at hl 1 rfl) ?_
        refine z_iald (v := (x.1 85 j)) hx hb hK hI (zo85 hG) j rfl (by omega) (by decide) (by rw [← hst]; rfl) dX12_image_59 ?_
        refine z_iast (y := (x.1 85 j)) hx hb hK hI (zo103 hG) j rfl (by omega) (by decide) dX12_image_60 (fun H locs hI => ?_)
        refine lv_aload_n hx hb dX12_image_61 rfl (lv_at hl 0 rfl) ?_
        refine z_get (C := RX12) (T := TX12) (N := 51) (ci := 12) (v := .ref (za G 104)) hx hb hts hin12 hown hK hI (zo77 hG) rfl 42 (by decide) wF139 (fun _ h9 => h9) rfl dX12_image_62 ?_
        refine lv_iload_n hx hb dX12_image_65 rfl (lv_at hl 1 rfl) ?_
        refine lv_aload_n hx hb dX12_image_66 rfl (lv_at hl 0 rfl) ?_
        refine z_get (C := RX12) (T := TX12) (N := 51) (ci := 12) (v := .ref (za G 83)) hx hb hts hin12 hown hK hI (zo77 hG) rfl 7 (by decide) wF32 (fun _ h9 => h9) rfl dX12_image_67 ?_
        refine lv_iload_n hx hb dX12_image_70 rfl (lv_at hl 1 rfl) ?_
        refine z_iald (v := (x.1 83 j)) hx hb hK hI (zo83 hG) j rfl (by omega) (by decide) (by rw [← hst]; rfl) dX12_image_71 ?_
        refine z_iast (y := (x.1 83 j)) hx hb hK hI (zo104 hG) j rfl (by omega) (by decide) dX12_image_72 (fun H locs hI => ?_)
        refine lv_aload_n hx hb dX12_image_73 rfl (lv_at hl 0 rfl) ?_
        refine z_get (C := RX12) (T := TX12) (N := 51) (ci := 12) (v := .ref (za G 105)) hx hb hts hin12 hown hK hI (zo77 hG) rfl 43 (by decide) wF142 (fun _ h9 => h9) rfl dX12_image_74 ?_
        refine lv_iload_n hx hb dX12_image_77 rfl (lv_at hl 1 rfl) ?_
        refine lv_aload_n hx hb dX12_image_78 rfl (lv_at hl 0 rfl) ?_
        refine z_get (C := RX12) (T := TX12) (N := 51) (ci := 12) (v := .ref (za G 86)) hx hb hts hin12 hown hK hI (zo77 hG) rfl 10 (by decide) wF41 (fun _ h9 => h9) rfl dX12_image_79 ?_
        refine lv_iload_n hx hb dX12_image_82 rfl (lv_at hl 1 rfl) ?_
        refine z_zald (v := (x.1 86 j)) hx hb hK hI (zo86 hG) j rfl (by omega) (by decide) (by rw [← hst]; rfl) dX12_image_83 ?_
        refine z_zast (y := (x.1 86 j)) hx hb hK hI (zo105 hG) j rfl (by omega) (by decide) (hb8 j (by omega)) dX12_image_84 (fun H locs hI => ?_)
        refine lv_iinc (v := (nI (j + 1))) (lv' := [(1, .int (nI (j + 1))), (0, .ref (za G 77))]) hx hb dX12_image_85 hl (k := 1) rfl (zinc j) (by decide) rfl (fun ls hl => ?_)
        refine lv_goto (tgt := 31) hx hb dX12_image_88 (by decide) ?_
        exact ih31 (j + 1) (zsI (zsI (zsI (zsI u 102 j (x.1 84 j)) 103 j (x.1 85 j)) 104 j (x.1 83 j)) 105 j (x.1 86 j)) (by omega) (by subst hst; unfold zimg1; rw [zr4_s (by decide) (by decide) (by decide) (by decide) (by decide) (by decide), zput_s, zput_s, zput_s, zput_s]) (by omega) _ _ hI ls (lv_sub hl [1, 0] rfl)
  exact L31 (9) 0 (zsI (zsI (zsI (zsI x 77 36 (nI 1)) 77 37 (x.1 77 13)) 77 38 (x.1 77 0)) 77 39 (x.1 77 1)) (by omega) (by unfold zimg1; rw [zput_0, zput_0, zput_0, zput_0]; exact zr4_0 (y := zimg0 x) (by decide) (by decide) (by decide) (by decide) (by decide) (by decide)) (by omega) _ _ hI ls (lv_sub hl [1, 0] rfl)
set_option maxHeartbeats 1000000 in
set_option maxRecDepth 100000 in
theorem c_X12_undo (l : Launch) {G : zG} (hG : zOK G) (x : zX)  (hb8 : zbo (x.1 105) 8) (hb64 : zbo (x.1 106) 64) : zMi l yX12_undo wsX12_undo { frames := 0, cells := 0, slots := 0, locals := 0 } G [.ref (za G 77)] x (fun (r : Int32) (u : zX) => (x.1 77 36 = 0 ∧ x = u ∧ -3 = r) ∨ (¬ x.1 77 36 = 0 ∧ zund x 64 = u ∧ x.1 77 38 = r)) := by
  intro A
  refine zBody (cc := cX12_undo) (maxL := 2) (ret := (some .int)) (by decide) rfl (Nat.le_of_ble_eq_true rfl) ?_
  intro p e s m below meth c hx hb hml hown hts hr hlocks hK hN hI ls hl
  have hown : s.vm.findClass RX12 = some m.cls := hown
  have hl : lv_has ls 2 [(0, .ref (za G 77))] := hl
  have hin12 : ∀ w ∈ wsX120, w ∈ wsX12_undo := (fun _ h => List.mem_cons_of_mem _ (List.mem_append_right _ (h)))
  have wF120 := hts (.fieldLink RX12 120 "WhoSitsByModel" "hasImage" "Z") (z_mem 1 rfl)
  have wF124 := hts (.fieldLink RX12 124 "WhoSitsByModel" "imageThe" "I") (z_mem 2 rfl)
  have wF51 := hts (.fieldLink RX12 51 "WhoSitsByModel" "the" "I") (z_mem 3 rfl)
  have wF127 := hts (.fieldLink RX12 127 "WhoSitsByModel" "imagePupils" "I") (z_mem 4 rfl)
  have wF7 := hts (.fieldLink RX12 7 "WhoSitsByModel" "pupils" "I") (z_mem 5 rfl)
  have wF130 := hts (.fieldLink RX12 130 "WhoSitsByModel" "imageDowns" "I") (z_mem 6 rfl)
  have wF13 := hts (.fieldLink RX12 13 "WhoSitsByModel" "down" "I") (z_mem 7 rfl)
  have wF45 := hts (.fieldLink RX12 45 "WhoSitsByModel" "isDown" "[Z") (z_mem 16 rfl)
  have wF145 := hts (.fieldLink RX12 145 "WhoSitsByModel" "imageDown" "[Z") (z_mem 17 rfl)
  have wF35 := hts (.fieldLink RX12 35 "WhoSitsByModel" "seat" "[I") (z_mem 8 rfl)
  have wF133 := hts (.fieldLink RX12 133 "WhoSitsByModel" "imageSeat" "[I") (z_mem 9 rfl)
  have wF38 := hts (.fieldLink RX12 38 "WhoSitsByModel" "sitter" "[I") (z_mem 10 rfl)
  have wF136 := hts (.fieldLink RX12 136 "WhoSitsByModel" "imageSitter" "[I") (z_mem 11 rfl)
  have wF32 := hts (.fieldLink RX12 32 "WhoSitsByModel" "names" "[I") (z_mem 12 rfl)
  have wF139 := hts (.fieldLink RX12 139 "WhoSitsByModel" "imageNames" "[I") (z_mem 13 rfl)
  have wF41 := hts (.fieldLink RX12 41 "WhoSitsByModel" "needsFront" "[Z") (z_mem 14 rfl)
  have wF142 := hts (.fieldLink RX12 142 "WhoSitsByModel" "imageFront" "[Z") (z_mem 15 rfl)
  refine lv_aload_n hx hb dX12_undo_0 rfl (lv_at hl 0 rfl) ?_
  refine z_get (C := RX12) (T := TX12) (N := 51) (ci := 12) (v := .int (x.1 77 36)) hx hb hts hin12 hown hK hI (zo77 hG) rfl 36 (by decide) wF120 (fun _ h9 => h9) rfl dX12_undo_1 ?_
  refine lv_if_ne (tgt := 10) hx hb dX12_undo_4 (by decide) (fun c_4 => ?_) (fun c_4 => ?_)
  · skip
    refine lv_aload_n hx hb dX12_undo_10 rfl (lv_at hl 0 rfl) ?_
    refine lv_aload_n hx hb dX12_undo_11 rfl (lv_at hl 0 rfl) ?_
    refine z_get (C := RX12) (T := TX12) (N := 51) (ci := 12) (v := .int (x.1 77 37)) hx hb hts hin12 hown hK hI (zo77 hG) rfl 37 (by decide) wF124 (fun _ h9 => h9) rfl dX12_undo_12 ?_
    refine z_putI (C := RX12) (T := TX12) (N := 51) (ci := 12) (ty := .int) hx hb hts hin12 tyX12 tyX12_ok nmX12 hown hK hI (zo77 hG) rfl 13 (by decide) wF51 (fun _ h9 => h9) rfl (fun _ _ => rfl) (by decide +kernel) rfl rfl (fun _ _ => Nat.le_of_ble_eq_true rfl) dX12_undo_15 (fun H locs hI => ?_)
    refine lv_aload_n hx hb dX12_undo_18 rfl (lv_at hl 0 rfl) ?_
    refine lv_aload_n hx hb dX12_undo_19 rfl (lv_at hl 0 rfl) ?_
    refine z_get (C := RX12) (T := TX12) (N := 51) (ci := 12) (v := .int (x.1 77 38)) hx hb hts hin12 hown hK hI (zo77 hG) rfl 38 (by decide) wF127 (fun _ h9 => h9) rfl dX12_undo_20 ?_
    refine z_putI (C := RX12) (T := TX12) (N := 51) (ci := 12) (ty := .int) hx hb hts hin12 tyX12 tyX12_ok nmX12 hown hK hI (zo77 hG) rfl 0 (by decide) wF7 (fun _ h9 => h9) rfl (fun _ _ => rfl) (by decide +kernel) rfl rfl (fun _ _ => Nat.le_of_ble_eq_true rfl) dX12_undo_23 (fun H locs hI => ?_)
    refine lv_aload_n hx hb dX12_undo_26 rfl (lv_at hl 0 rfl) ?_
    refine lv_aload_n hx hb dX12_undo_27 rfl (lv_at hl 0 rfl) ?_
    refine z_get (C := RX12) (T := TX12) (N := 51) (ci := 12) (v := .int (x.1 77 39)) hx hb hts hin12 hown hK hI (zo77 hG) rfl 39 (by decide) wF130 (fun _ h9 => h9) rfl dX12_undo_28 ?_
    refine z_putI (C := RX12) (T := TX12) (N := 51) (ci := 12) (ty := .int) hx hb hts hin12 tyX12 tyX12_ok nmX12 hown hK hI (zo77 hG) rfl 1 (by decide) wF13 (fun _ h9 => h9) rfl (fun _ _ => rfl) (by decide +kernel) rfl rfl (fun _ _ => Nat.le_of_ble_eq_true rfl) dX12_undo_31 (fun H locs hI => ?_)
    refine lv_iconst (v := (nI 0)) hx hb dX12_undo_34 rfl ?_
    refine lv_istore_n (lv' := [(1, .int (nI 0)), (0, .ref (za G 77))]) hx hb dX12_undo_35 rfl hl (by decide) rfl (fun ls hl => ?_)
    have L36 : ∀ (f : Nat) (j : Nat) (u : zX), (j ≤ 8) → (zund1 x j = u) → 9 ≤ j + f → ∀ (H : Heap) (locs : List Loc), zI G u A s.heap H locs → ∀ ls : Array Slot, lv_has ls 2 [(0, .ref (za G 77)), (1, .int (nI j))] → W p l e { frames := 0, cells := 0, slots := 0, locals := 0 } s m ([.ref (za G 77)] : List Value).toArray below meth c H locs 0 0 (MQ below (va_Qi (fun (r : Int32) (u : zX) => (x.1 77 36 = 0 ∧ x = u ∧ -3 = r) ∨ (¬ x.1 77 36 = 0 ∧ zund x 64 = u ∧ x.1 77 38 = r)) (fun u t => zJ G u A t.heap) A) ([.ref (za G 77)] : List Value).toArray s 0 0 A) (F0 m 36 ls []) := by
      intro f
      induction f with
      | zero =>
        intro j u h1 hst hf
        exact absurd hf (by omega)
      | succ f ih =>
        intro j u h1 hst hf H locs hI ls hl
        have ih36 := ih
        refine lv_iload_n hx hb dX12_undo_36 rfl (lv_at hl 1 rfl) ?_
        refine lv_bipush (v := (nI 8)) hx hb dX12_undo_37 rfl ?_
        refine lv_icmp_ge (tgt := 96) hx hb dX12_undo_39 (by decide) (fun c_39 => ?_) (fun c_39 => ?_)
        · skip
          rw [zqG (by omega) (by omega)] at c_39
          refine lv_iconst (v := (nI 0)) hx hb dX12_undo_96 rfl ?_
          refine lv_istore_n (lv' := [(1, .int (nI 0)), (0, .ref (za G 77))]) hx hb dX12_undo_97 rfl hl (by decide) rfl (fun ls hl => ?_)
          have L98 : ∀ (f : Nat) (j2 : Nat) (u2 : zX), (j2 ≤ 64) → (zund x j2 = u2) → 65 ≤ j2 + f → ∀ (H : Heap) (locs : List Loc), zI G u2 A s.heap H locs → ∀ ls : Array Slot, lv_has ls 2 [(0, .ref (za G 77)), (1, .int (nI j2))] → W p l e { frames := 0, cells := 0, slots := 0, locals := 0 } s m ([.ref (za G 77)] : List Value).toArray below meth c H locs 0 0 (MQ below (va_Qi (fun (r : Int32) (u : zX) => (x.1 77 36 = 0 ∧ x = u ∧ -3 = r) ∨ (¬ x.1 77 36 = 0 ∧ zund x 64 = u ∧ x.1 77 38 = r)) (fun u t => zJ G u A t.heap) A) ([.ref (za G 77)] : List Value).toArray s 0 0 A) (F0 m 98 ls []) := by
            intro f
            induction f with
            | zero =>
              intro j2 u2 h2 hst2 hf
              exact absurd hf (by omega)
            | succ f ih =>
              intro j2 u2 h2 hst2 hf H locs hI ls hl
              have ih98 := ih
              refine lv_iload_n hx hb dX12_undo_98 rfl (lv_at hl 1 rfl) ?_
              refine lv_bipush (v := (nI 64)) hx hb dX12_undo_99 rfl ?_
              refine lv_icmp_ge (tgt := 122) hx hb dX12_undo_101 (by decide) (fun c_101 => ?_) (fun c_101 => ?_)
              · skip
                rw [zqG (by omega) (by omega)] at c_101
                refine lv_aload_n hx hb dX12_undo_122 rfl (lv_at hl 0 rfl) ?_
                refine z_get (C := RX12) (T := TX12) (N := 51) (ci := 12) (v := .int (x.1 77 38)) hx hb hts hin12 hown hK hI (zo77 hG) rfl 0 (by decide) wF7 (fun _ h9 => h9) (congrArg (fun q => some (Value.int q)) (by rw [← hst2]; rfl)) dX12_undo_123 ?_
                exact z_iret hx hb hr hlocks hI (Or.inr ⟨c_4, by rw [← hst2, show j2 = 64 by omega], rfl⟩) dX12_undo_126
              · skip
                rw [zqG (by omega) (by omega)] at c_101
                refine lv_aload_n hx hb dX12_undo_104 rfl (lv_at hl 0 rfl) ?_
                refine z_get (C := RX12) (T := TX12) (N := 51) (ci := 12) (v := .ref (za G 87)) hx hb hts hin12 hown hK hI (zo77 hG) rfl 11 (by decide) wF45 (fun _ h9 => h9) rfl dX12_undo_105 ?_
                refine lv_iload_n hx hb dX12_undo_108 rfl (lv_at hl 1 rfl) ?_
                refine lv_aload_n hx hb dX12_undo_109 rfl (lv_at hl 0 rfl) ?_
                refine z_get (C := RX12) (T := TX12) (N := 51) (ci := 12) (v := .ref (za G 106)) hx hb hts hin12 hown hK hI (zo77 hG) rfl 44 (by decide) wF145 (fun _ h9 => h9) rfl dX12_undo_110 ?_
                refine lv_iload_n hx hb dX12_undo_113 rfl (lv_at hl 1 rfl) ?_
                refine z_zald (v := (x.1 106 j2)) hx hb hK hI (zo106 hG) j2 rfl (by omega) (by decide) (by rw [← hst2]; rfl) dX12_undo_114 ?_
                refine z_zast (y := (x.1 106 j2)) hx hb hK hI (zo87 hG) j2 rfl (by omega) (by decide) (hb64 j2 (by omega)) dX12_undo_115 (fun H locs hI => ?_)
                refine lv_iinc (v := (nI (j2 + 1))) (lv' := [(1, .int (nI (j2 + 1))), (0, .ref (za G 77))]) hx hb dX12_undo_116 hl (k := 1) rfl (zinc j2) (by decide) rfl (fun ls hl => ?_)
                refine lv_goto (tgt := 98) hx hb dX12_undo_119 (by decide) ?_
                exact ih98 (j2 + 1) (zsI u2 87 j2 (x.1 106 j2)) (by omega) (by subst hst2; unfold zund; exact (zput_w (g := x.1 106)).symm) (by omega) _ _ hI ls (lv_sub hl [1, 0] rfl)
          exact L98 (65) 0 u (by omega) (by unfold zund; rw [zput_0, ← hst, show j = 8 by omega]; exact zsrI_e) (by omega) _ _ hI ls (lv_sub hl [1, 0] rfl)
        · skip
          rw [zqG (by omega) (by omega)] at c_39
          refine lv_aload_n hx hb dX12_undo_42 rfl (lv_at hl 0 rfl) ?_
          refine z_get (C := RX12) (T := TX12) (N := 51) (ci := 12) (v := .ref (za G 84)) hx hb hts hin12 hown hK hI (zo77 hG) rfl 8 (by decide) wF35 (fun _ h9 => h9) rfl dX12_undo_43 ?_
          refine lv_iload_n hx hb dX12_undo_46 rfl (lv_at hl 1 rfl) ?_
          refine lv_aload_n hx hb dX12_undo_47 rfl (lv_at hl 0 rfl) ?_
          refine z_get (C := RX12) (T := TX12) (N := 51) (ci := 12) (v := .ref (za G 102)) hx hb hts hin12 hown hK hI (zo77 hG) rfl 40 (by decide) wF133 (fun _ h9 => h9) rfl dX12_undo_48 ?_
          refine lv_iload_n hx hb dX12_undo_51 rfl (lv_at hl 1 rfl) ?_
          refine z_iald (v := (x.1 102 j)) hx hb hK hI (zo102 hG) j rfl (by omega) (by decide) (by rw [← hst]; rfl) dX12_undo_52 ?_
          refine z_iast (y := (x.1 102 j)) hx hb hK hI (zo84 hG) j rfl (by omega) (by decide) dX12_undo_53 (fun H locs hI => ?_)
          refine lv_aload_n hx hb dX12_undo_54 rfl (lv_at hl 0 rfl) ?_
          refine z_get (C := RX12) (T := TX12) (N := 51) (ci := 12) (v := .ref (za G 85)) hx hb hts hin12 hown hK hI (zo77 hG) rfl 9 (by decide) wF38 (fun _ h9 => h9) rfl dX12_undo_55 ?_
          refine lv_iload_n hx hb dX12_undo_58 rfl (lv_at hl 1 rfl) ?_
          refine lv_aload_n hx hb dX12_undo_59 rfl (lv_at hl 0 rfl) ?_
          refine z_get (C := RX12) (T := TX12) (N := 51) (ci := 12) (v := .ref (za G 103)) hx hb hts hin12 hown hK hI (zo77 hG) rfl 41 (by decide) wF136 (fun _ h9 => h9) rfl dX12_undo_60 ?_
          refine lv_iload_n hx hb dX12_undo_63 rfl (lv_at hl 1 rfl) ?_
          refine z_iald (v := (x.1 103 j)) hx hb hK hI (zo103 hG) j rfl (by omega) (by decide) (by rw [← hst]; rfl) dX12_undo_64 ?_
          refine z_iast (y := (x.1 103 j)) hx hb hK hI (zo85 hG) j rfl (by omega) (by decide) dX12_undo_65 (fun H locs hI => ?_)
          refine lv_aload_n hx hb dX12_undo_66 rfl (lv_at hl 0 rfl) ?_
          refine z_get (C := RX12) (T := TX12) (N := 51) (ci := 12) (v := .ref (za G 83)) hx hb hts hin12 hown hK hI (zo77 hG) rfl 7 (by decide) wF32 (fun _ h9 => h9) rfl dX12_undo_67 ?_
          refine lv_iload_n hx hb dX12_undo_70 rfl (lv_at hl 1 rfl) ?_
          refine lv_aload_n hx hb dX12_undo_71 rfl (lv_at hl 0 rfl) ?_
          refine z_get (C := RX12) (T := TX12) (N := 51) (ci := 12) (v := .ref (za G 104)) hx hb hts hin12 hown hK hI (zo77 hG) rfl 42 (by decide) wF139 (fun _ h9 => h9) rfl dX12_undo_72 ?_
          refine lv_iload_n hx hb dX12_undo_75 rfl (lv_at hl 1 rfl) ?_
          refine z_iald (v := (x.1 104 j)) hx hb hK hI (zo104 hG) j rfl (by omega) (by decide) (by rw [← hst]; rfl) dX12_undo_76 ?_
          refine z_iast (y := (x.1 104 j)) hx hb hK hI (zo83 hG) j rfl (by omega) (by decide) dX12_undo_77 (fun H locs hI => ?_)
          refine lv_aload_n hx hb dX12_undo_78 rfl (lv_at hl 0 rfl) ?_
          refine z_get (C := RX12) (T := TX12) (N := 51) (ci := 12) (v := .ref (za G 86)) hx hb hts hin12 hown hK hI (zo77 hG) rfl 10 (by decide) wF41 (fun _ h9 => h9) rfl dX12_undo_79 ?_
          refine lv_iload_n hx hb dX12_undo_82 rfl (lv_at hl 1 rfl) ?_
          refine lv_aload_n hx hb dX12_undo_83 rfl (lv_at hl 0 rfl) ?_
          refine z_get (C := RX12) (T := TX12) (N := 51) (ci := 12) (v := .ref (za G 105)) hx hb hts hin12 hown hK hI (zo77 hG) rfl 43 (by decide) wF142 (fun _ h9 => h9) rfl dX12_undo_84 ?_
          refine lv_iload_n hx hb dX12_undo_87 rfl (lv_at hl 1 rfl) ?_
          refine z_zald (v := (x.1 105 j)) hx hb hK hI (zo105 hG) j rfl (by omega) (by decide) (by rw [← hst]; rfl) dX12_undo_88 ?_
          refine z_zast (y := (x.1 105 j)) hx hb hK hI (zo86 hG) j rfl (by omega) (by decide) (hb8 j (by omega)) dX12_undo_89 (fun H locs hI => ?_)
          refine lv_iinc (v := (nI (j + 1))) (lv' := [(1, .int (nI (j + 1))), (0, .ref (za G 77))]) hx hb dX12_undo_90 hl (k := 1) rfl (zinc j) (by decide) rfl (fun ls hl => ?_)
          refine lv_goto (tgt := 36) hx hb dX12_undo_93 (by decide) ?_
          exact ih36 (j + 1) (zsI (zsI (zsI (zsI u 84 j (x.1 102 j)) 85 j (x.1 103 j)) 83 j (x.1 104 j)) 86 j (x.1 105 j)) (by omega) (by subst hst; unfold zund1; rw [zr4_s (by decide) (by decide) (by decide) (by decide) (by decide) (by decide), zput_s, zput_s, zput_s, zput_s]) (by omega) _ _ hI ls (lv_sub hl [1, 0] rfl)
    exact L36 (9) 0 (zsI (zsI (zsI x 77 13 (x.1 77 37)) 77 0 (x.1 77 38)) 77 1 (x.1 77 39)) (by omega) (by unfold zund1; rw [zput_0, zput_0, zput_0, zput_0]; exact zr4_0 (y := zund0 x) (by decide) (by decide) (by decide) (by decide) (by decide) (by decide)) (by omega) _ _ hI ls (lv_sub hl [1, 0] rfl)
  · skip
    refine lv_bipush (v := (-3)) hx hb dX12_undo_7 rfl ?_
    exact z_iret hx hb hr hlocks hI (Or.inl ⟨c_4, rfl, rfl⟩) dX12_undo_9
