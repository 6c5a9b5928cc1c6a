set_option maxHeartbeats 4000000 in
set_option maxRecDepth 100000 in
theorem c_X11_isPlace (l : Launch) {G : zG} (hG : zOK G) (x : zX) (t : Nat) (q : Int32) (htp : zTp x) (ht : t < 6) : zMi l yX11_isPlace wsX11_isPlace { frames := 1, cells := 0, slots := 0, locals := 20 } G [.ref (za G 0), .int (nI t), .int q] x (fun (r : Int32) (u : zX) => x = u ∧ (if zin (zsz x t) q then nI 1 else nI 0) = r) := by
  intro A
  refine zBody (cc := cX11_isPlace) (maxL := 3) (ret := (some .boolean)) (by decide) rfl (Nat.le_of_ble_eq_true rfl) ?_
  intro p e s m below meth c hx hb hml hown hts hr hlocks hK hN hI ls hl
  have hown : s.vm.findClass RX11 = some m.cls := hown
  have hl : lv_has ls 3 [(0, .ref (za G 0)), (1, .int (nI t)), (2, .int q)] := hl
  have hin11 : ∀ w ∈ wsX110, w ∈ wsX11_isPlace := (fun _ h => List.mem_cons_of_mem _ (List.mem_append_right _ (h)))
  have wF59 := hts (.fieldLink RX11 59 "WhoSitsBy" "sizes" "[I") (z_mem 1 rfl)
  have wF52 := hts (.fieldLink RX11 52 "WhoSitsBy" "items" "[[J") (z_mem 2 rfl)
  have h60 := (htp t ht).2
  refine lv_iload_n hx hb dX11_isPlace_0 rfl (lv_at hl 1 rfl) ?_
  refine z_calli (va_runS (As := [.int (nI t)]) (rest := []) ⟨hx, hb, hml, hown, hts⟩ ((c_X11_isTape l hG x (nI t)) A) (va_cwS 1 hts gX11_isPlace_X11_isTape rfl rfl rfl (by decide +kernel) ⟨Nat.le_of_ble_eq_true rfl, Nat.le_of_ble_eq_true rfl⟩) (z_pS hI hK hN) rfl rfl hl.1 rfl (lv_room (Nat.le_of_ble_eq_true rfl)) dX11_isPlace_1 ⟨Nat.zero_le _, Nat.zero_le _⟩) hI (fun r_1 u H locs hw hI => ?_)
  obtain ⟨rfl, rfl⟩ := hw
  refine lv_if_eq (tgt := 36) hx hb dX11_isPlace_4 (by decide) (fun c_4 => ?_) (fun c_4 => ?_)
  · skip
    rw [zb_0] at c_4
    exact absurd ⟨nI_pos (by omega), nI_ge ht (by decide)⟩ c_4
  · skip
    rw [zb_0, Classical.not_not] at c_4
    refine lv_iload_n hx hb dX11_isPlace_7 rfl (lv_at hl 2 rfl) ?_
    refine lv_if_lt (tgt := 36) hx hb dX11_isPlace_8 (by decide) (fun c_8 => ?_) (fun c_8 => ?_)
    · skip
      refine lv_iconst (v := (nI 0)) hx hb dX11_isPlace_36 rfl ?_
      exact z_zret hx hb hr hlocks hI (Or.inl rfl) (⟨rfl, if_neg (fun h => h.1 c_8)⟩) dX11_isPlace_37
    · skip
      refine lv_iload_n hx hb dX11_isPlace_11 rfl (lv_at hl 2 rfl) ?_
      refine lv_aload_n hx hb dX11_isPlace_12 rfl (lv_at hl 0 rfl) ?_
      refine z_get (C := RX11) (T := TX11) (N := 14) (ci := 11) (v := .ref (za G 27)) hx hb hts hin11 hown hK hI (zo0 hG) rfl 13 (by decide) wF59 (fun _ h9 => h9) rfl dX11_isPlace_13 ?_
      refine lv_iload_n hx hb dX11_isPlace_16 rfl (lv_at hl 1 rfl) ?_
      refine z_iald (v := (nI (zsz x t))) hx hb hK hI (zo27 hG) t rfl (by omega) (by decide) (htp t ht).1 dX11_isPlace_17 ?_
      refine lv_icmp_ge (tgt := 36) hx hb dX11_isPlace_18 (by decide) (fun c_18 => ?_) (fun c_18 => ?_)
      · skip
        refine lv_iconst (v := (nI 0)) hx hb dX11_isPlace_36 rfl ?_
        exact z_zret hx hb hr hlocks hI (Or.inl rfl) (⟨rfl, if_neg (fun h => h.2 c_18)⟩) dX11_isPlace_37
      · skip
        refine lv_iload_n hx hb dX11_isPlace_21 rfl (lv_at hl 2 rfl) ?_
        refine lv_aload_n hx hb dX11_isPlace_22 rfl (lv_at hl 0 rfl) ?_
        refine z_get (C := RX11) (T := TX11) (N := 14) (ci := 11) (v := .ref (za G 19)) hx hb hts hin11 hown hK hI (zo0 hG) rfl 11 (by decide) wF52 (fun _ h9 => h9) rfl dX11_isPlace_23 ?_
        refine lv_iload_n hx hb dX11_isPlace_26 rfl (lv_at hl 1 rfl) ?_
        refine z_jald hx hb hK hG hI t rfl (by omega) dX11_isPlace_27 ?_
        refine z_alen (v := nI 60) hx hb hK hI 3 (zol hG (by omega)).1 ((zol hG (by omega)).2 _) rfl rfl dX11_isPlace_28 ?_
        refine lv_icmp_ge (tgt := 36) hx hb dX11_isPlace_29 (by decide) (fun c_29 => ?_) (fun c_29 => ?_)
        · skip
          exact absurd c_29 (z_mono c_18 h60 (by decide))
        · skip
          refine lv_iconst (v := (nI 1)) hx hb dX11_isPlace_32 rfl ?_
          refine lv_goto (tgt := 37) hx hb dX11_isPlace_33 (by decide) ?_
          exact z_zret hx hb hr hlocks hI (Or.inr rfl) (⟨rfl, if_pos ⟨c_8, c_18⟩⟩) dX11_isPlace_37
set_option maxHeartbeats 4000000 in
set_option maxRecDepth 100000 in
theorem c_X11_tape (l : Launch) {G : zG} (hG : zOK G) (x : zX) (t0 sr n : Int32)  : zMi l yX11_tape wsX11_tape { frames := 1, cells := 0, slots := 0, locals := 20 } G [.ref (za G 0), .int t0, .int sr, .int n] x (fun (r : Int32) (u : zX) => (¬ zin 6 t0 ∧ x = u ∧ -1 = r) ∨ (∃ tb, tb < 6 ∧ t0 = nI tb ∧ (((sr < -1 ∨ nI 4 < sr ∨ (¬ sr = -1 ∧ nI 60 < n)) ∧ x = u ∧ -2 = r) ∨ (¬ (sr < -1 ∨ nI 4 < sr ∨ (¬ sr = -1 ∧ nI 60 < n)) ∧ (¬ sr = -1 ∧ n < 0) ∧ x = u ∧ -14 = r) ∨ (¬ (sr < -1 ∨ nI 4 < sr ∨ (¬ sr = -1 ∧ nI 60 < n)) ∧ ¬ (¬ sr = -1 ∧ n < 0) ∧ zsrL (zsI (zsI x 26 tb sr) 27 tb (if sr = -1 then nI 0 else n)) (20 + tb) (zclr (x.2.1 (20 + tb)) 0 60) = u ∧ nI 1 = r)))) := by
  intro A
  refine zBody (cc := cX11_tape) (maxL := 5) (ret := (some .int)) (by decide) rfl (Nat.le_of_ble_eq_true rfl) ?_
  intro p e s m below meth c hx hb hml hown hts hr hlocks hK hN hI ls hl
  have hown : s.vm.findClass RX11 = some m.cls := hown
  have hl : lv_has ls 5 [(0, .ref (za G 0)), (1, .int t0), (2, .int sr), (3, .int n)] := hl
  have hin11 : ∀ w ∈ wsX110, w ∈ wsX11_tape := (fun _ h => List.mem_cons_of_mem _ (List.mem_append_right _ (h)))
  have wF55 := hts (.fieldLink RX11 55 "WhoSitsBy" "sorts" "[I") (z_mem 1 rfl)
  have wF59 := hts (.fieldLink RX11 59 "WhoSitsBy" "sizes" "[I") (z_mem 2 rfl)
  have wF52 := hts (.fieldLink RX11 52 "WhoSitsBy" "items" "[[J") (z_mem 3 rfl)
  refine lv_iload_n hx hb dX11_tape_0 rfl (lv_at hl 1 rfl) ?_
  refine z_calli (va_runS (As := [.int t0]) (rest := []) ⟨hx, hb, hml, hown, hts⟩ ((c_X11_isTape l hG x t0) A) (va_cwS 1 hts gX11_tape_X11_isTape rfl rfl rfl (by decide +kernel) ⟨Nat.le_of_ble_eq_true rfl, Nat.le_of_ble_eq_true rfl⟩) (z_pS hI hK hN) rfl rfl hl.1 rfl (lv_room (Nat.le_of_ble_eq_true rfl)) dX11_tape_1 ⟨Nat.zero_le _, Nat.zero_le _⟩) hI (fun r_1 u H locs hw hI => ?_)
  obtain ⟨rfl, rfl⟩ := hw
  refine lv_if_ne (tgt := 9) hx hb dX11_tape_4 (by decide) (fun c_4 => ?_) (fun c_4 => ?_)
  · skip
    rw [zb_0, Classical.not_not] at c_4
    obtain ⟨t, ht, rfl⟩ := z_ix c_4.1 c_4.2 (by decide)
    refine lv_iload_n hx hb dX11_tape_9 rfl (lv_at hl 2 rfl) ?_
    refine lv_iconst (v := (-1)) hx hb dX11_tape_10 rfl ?_
    refine lv_icmp_lt (tgt := 30) hx hb dX11_tape_11 (by decide) (fun c_11 => ?_) (fun c_11 => ?_)
    · skip
      refine lv_bipush (v := (-2)) hx hb dX11_tape_30 rfl ?_
      exact z_iret hx hb hr hlocks hI (Or.inr ⟨t, ht, rfl, Or.inl ⟨Or.inl c_11, rfl, rfl⟩⟩) dX11_tape_32
    · skip
      refine lv_iload_n hx hb dX11_tape_14 rfl (lv_at hl 2 rfl) ?_
      refine lv_iconst (v := (nI 4)) hx hb dX11_tape_15 rfl ?_
      refine lv_icmp_gt (tgt := 30) hx hb dX11_tape_16 (by decide) (fun c_16 => ?_) (fun c_16 => ?_)
      · skip
        refine lv_bipush (v := (-2)) hx hb dX11_tape_30 rfl ?_
        exact z_iret hx hb hr hlocks hI (Or.inr ⟨t, ht, rfl, Or.inl ⟨Or.inr (Or.inl c_16), rfl, rfl⟩⟩) dX11_tape_32
      · skip
        refine lv_iload_n hx hb dX11_tape_19 rfl (lv_at hl 2 rfl) ?_
        refine lv_iconst (v := (-1)) hx hb dX11_tape_20 rfl ?_
        refine lv_icmp_eq (tgt := 33) hx hb dX11_tape_21 (by decide) (fun c_21 => ?_) (fun c_21 => ?_)
        · skip
          refine lv_iload_n hx hb dX11_tape_33 rfl (lv_at hl 2 rfl) ?_
          refine lv_iconst (v := (-1)) hx hb dX11_tape_34 rfl ?_
          refine lv_icmp_eq (tgt := 45) hx hb dX11_tape_35 (by decide) (fun c_35 => ?_) (fun c_35 => ?_)
          · skip
            have hgood : ¬ (sr < -1 ∨ nI 4 < sr ∨ (¬ sr = -1 ∧ nI 60 < n)) := fun h => h.elim c_11 (fun h => h.elim c_16 (fun h => h.1 c_21))
            have hgood2 : ¬ (¬ sr = -1 ∧ n < 0) := fun h => h.1 c_35
            refine lv_aload_n hx hb dX11_tape_45 rfl (lv_at hl 0 rfl) ?_
            refine z_get (C := RX11) (T := TX11) (N := 14) (ci := 11) (v := .ref (za G 26)) hx hb hts hin11 hown hK hI (zo0 hG) rfl 12 (by decide) wF55 (fun _ h9 => h9) rfl dX11_tape_46 ?_
            refine lv_iload_n hx hb dX11_tape_49 rfl (lv_at hl 1 rfl) ?_
            refine lv_iload_n hx hb dX11_tape_50 rfl (lv_at hl 2 rfl) ?_
            refine z_iast (y := sr) hx hb hK hI (zo26 hG) t rfl (by omega) (by decide) dX11_tape_51 (fun H locs hI => ?_)
            refine lv_aload_n hx hb dX11_tape_52 rfl (lv_at hl 0 rfl) ?_
            refine z_get (C := RX11) (T := TX11) (N := 14) (ci := 11) (v := .ref (za G 27)) hx hb hts hin11 hown hK hI (zo0 hG) rfl 13 (by decide) wF59 (fun _ h9 => h9) rfl dX11_tape_53 ?_
            refine lv_iload_n hx hb dX11_tape_56 rfl (lv_at hl 1 rfl) ?_
            refine lv_iload_n hx hb dX11_tape_57 rfl (lv_at hl 2 rfl) ?_
            refine lv_iconst (v := (-1)) hx hb dX11_tape_58 rfl ?_
            refine lv_icmp_ne (tgt := 66) hx hb dX11_tape_59 (by decide) (fun c_59 => ?_) (fun c_59 => ?_)
            · skip
              exact absurd c_35 c_59
            · skip
              refine lv_iconst (v := (nI 0)) hx hb dX11_tape_62 rfl ?_
              refine lv_goto (tgt := 67) hx hb dX11_tape_63 (by decide) ?_
              refine z_iast (y := (nI 0)) hx hb hK hI (zo27 hG) t rfl (by omega) (by decide) dX11_tape_67 (fun H locs hI => ?_)
              refine lv_iconst (v := (nI 0)) hx hb dX11_tape_68 rfl ?_
              refine lv_istore (lv' := [(4, .int (nI 0)), (0, .ref (za G 0)), (1, .int (nI t)), (2, .int sr), (3, .int n)]) hx hb dX11_tape_69 hl (by decide) rfl (fun ls hl => ?_)
              have L71 : ∀ (f : Nat) (j : Nat) (u : zX), (j ≤ 60) → (zsrL (zsI (zsI x 26 t sr) 27 t (if sr = -1 then nI 0 else n)) (20 + t) (zclr (x.2.1 (20 + t)) 0 j) = u) → 61 ≤ j + f → ∀ (H : Heap) (locs : List Loc), zI G u A s.heap H locs → ∀ ls : Array Slot, lv_has ls 5 [(0, .ref (za G 0)), (1, .int (nI t)), (4, .int (nI j))] → W p l e { frames := 1, cells := 0, slots := 0, locals := 20 } s m ([.ref (za G 0), .int (nI t), .int sr, .int n] : List Value).toArray below meth c H locs 0 0 (MQ below (va_Qi (fun (r : Int32) (u : zX) => (¬ zin 6 (nI t) ∧ x = u ∧ -1 = r) ∨ (∃ tb, tb < 6 ∧ (nI t) = nI tb ∧ (((sr < -1 ∨ nI 4 < sr ∨ (¬ sr = -1 ∧ nI 60 < n)) ∧ x = u ∧ -2 = r) ∨ (¬ (sr < -1 ∨ nI 4 < sr ∨ (¬ sr = -1 ∧ nI 60 < n)) ∧ (¬ sr = -1 ∧ n < 0) ∧ x = u ∧ -14 = r) ∨ (¬ (sr < -1 ∨ nI 4 < sr ∨ (¬ sr = -1 ∧ nI 60 < n)) ∧ ¬ (¬ sr = -1 ∧ n < 0) ∧ zsrL (zsI (zsI x 26 tb sr) 27 tb (if sr = -1 then nI 0 else n)) (20 + tb) (zclr (x.2.1 (20 + tb)) 0 60) = u ∧ nI 1 = r)))) (fun u t => zJ G u A t.heap) A) ([.ref (za G 0), .int (nI t), .int sr, .int n] : List Value).toArray s 0 0 A) (F0 m 71 ls []) := by
                intro f
                induction f with
                | zero =>
                  intro j u h1 hst hf
                  exact absurd hf (by omega)
                | succ f ih =>
                  intro j u h1 hst hf H locs hI ls hl
                  have ih71 := ih
                  refine lv_iload hx hb dX11_tape_71 (lv_at hl 2 rfl) ?_
                  refine lv_aload_n hx hb dX11_tape_73 rfl (lv_at hl 0 rfl) ?_
                  refine z_get (C := RX11) (T := TX11) (N := 14) (ci := 11) (v := .ref (za G 19)) hx hb hts hin11 hown hK hI (zo0 hG) rfl 11 (by decide) wF52 (fun _ h9 => h9) rfl dX11_tape_74 ?_
                  refine lv_iload_n hx hb dX11_tape_77 rfl (lv_at hl 1 rfl) ?_
                  refine z_jald hx hb hK hG hI t rfl (by omega) dX11_tape_78 ?_
                  refine z_alen (v := nI 60) hx hb hK hI 3 (zol hG (by omega)).1 ((zol hG (by omega)).2 _) rfl rfl dX11_tape_79 ?_
                  refine lv_icmp_ge (tgt := 99) hx hb dX11_tape_80 (by decide) (fun c_80 => ?_) (fun c_80 => ?_)
                  · skip
                    rw [zqG (by omega) (by omega)] at c_80
                    refine lv_iconst (v := (nI 1)) hx hb dX11_tape_99 rfl ?_
                    exact z_iret hx hb hr hlocks hI (Or.inr ⟨t, ht, rfl, Or.inr (Or.inr ⟨hgood, hgood2, (by rw [← hst, show j = 60 by omega]), rfl⟩)⟩) dX11_tape_100
                  · skip
                    rw [zqG (by omega) (by omega)] at c_80
                    refine lv_aload_n hx hb dX11_tape_83 rfl (lv_at hl 0 rfl) ?_
                    refine z_get (C := RX11) (T := TX11) (N := 14) (ci := 11) (v := .ref (za G 19)) hx hb hts hin11 hown hK hI (zo0 hG) rfl 11 (by decide) wF52 (fun _ h9 => h9) rfl dX11_tape_84 ?_
                    refine lv_iload_n hx hb dX11_tape_87 rfl (lv_at hl 1 rfl) ?_
                    refine z_jald hx hb hK hG hI t rfl (by omega) dX11_tape_88 ?_
                    refine lv_iload hx hb dX11_tape_89 (lv_at hl 2 rfl) ?_
                    refine lv_lconst (v := 0) hx hb dX11_tape_91 rfl ?_
                    refine z_last (y := 0) hx hb hK hI (zol hG (by omega)) j rfl (by omega) (by decide) dX11_tape_92 (fun H locs hI => ?_)
                    refine lv_iinc (v := (nI (j + 1))) (lv' := [(4, .int (nI (j + 1))), (0, .ref (za G 0)), (1, .int (nI t))]) hx hb dX11_tape_93 hl (k := 2) rfl (zinc j) (by decide) rfl (fun ls hl => ?_)
                    refine lv_goto (tgt := 71) hx hb dX11_tape_96 (by decide) ?_
                    exact ih71 (j + 1) (zsL u (20 + t) j 0) (by omega) (by subst hst; rw [zsL_r, zsrL_u, zsrL_t]; rw [show vp_updL (zclr (x.2.1 (20 + t)) 0 j) j 0 = zclr (x.2.1 (20 + t)) 0 (j + 1) from by have h := zclr_s (f := x.2.1 (20 + t)) (o := 0) (j := j); rw [Nat.zero_add] at h; exact h]) (by omega) _ _ hI ls (lv_sub hl [1, 2, 0] rfl)
              exact L71 (61) 0 (zsI (zsI x 26 t sr) 27 t (nI 0)) (by omega) (by rw [zclr_0]; first | (rw [if_pos c_59]; exact zsrL_e) | (rw [if_neg c_59]; exact zsrL_e)) (by omega) _ _ hI ls (lv_sub hl [1, 2, 0] rfl)
          · skip
            exact absurd c_21 c_35
        · skip
          refine lv_iload_n hx hb dX11_tape_24 rfl (lv_at hl 3 rfl) ?_
          refine lv_bipush (v := (nI 60)) hx hb dX11_tape_25 rfl ?_
          refine lv_icmp_le (tgt := 33) hx hb dX11_tape_27 (by decide) (fun c_27 => ?_) (fun c_27 => ?_)
          · skip
            refine lv_iload_n hx hb dX11_tape_33 rfl (lv_at hl 2 rfl) ?_
            refine lv_iconst (v := (-1)) hx hb dX11_tape_34 rfl ?_
            refine lv_icmp_eq (tgt := 45) hx hb dX11_tape_35 (by decide) (fun c_35 => ?_) (fun c_35 => ?_)
            · skip
              exact absurd c_35 c_21
            · skip
              refine lv_iload_n hx hb dX11_tape_38 rfl (lv_at hl 3 rfl) ?_
              refine lv_if_ge (tgt := 45) hx hb dX11_tape_39 (by decide) (fun c_39 => ?_) (fun c_39 => ?_)
              · skip
                have hgood : ¬ (sr < -1 ∨ nI 4 < sr ∨ (¬ sr = -1 ∧ nI 60 < n)) := fun h => h.elim c_11 (fun h => h.elim c_16 (fun h => z_nle c_27 h.2))
                have hgood2 : ¬ (¬ sr = -1 ∧ n < 0) := fun h => z_nle c_39 h.2
                refine lv_aload_n hx hb dX11_tape_45 rfl (lv_at hl 0 rfl) ?_
                refine z_get (C := RX11) (T := TX11) (N := 14) (ci := 11) (v := .ref (za G 26)) hx hb hts hin11 hown hK hI (zo0 hG) rfl 12 (by decide) wF55 (fun _ h9 => h9) rfl dX11_tape_46 ?_
                refine lv_iload_n hx hb dX11_tape_49 rfl (lv_at hl 1 rfl) ?_
                refine lv_iload_n hx hb dX11_tape_50 rfl (lv_at hl 2 rfl) ?_
                refine z_iast (y := sr) hx hb hK hI (zo26 hG) t rfl (by omega) (by decide) dX11_tape_51 (fun H locs hI => ?_)
                refine lv_aload_n hx hb dX11_tape_52 rfl (lv_at hl 0 rfl) ?_
                refine z_get (C := RX11) (T := TX11) (N := 14) (ci := 11) (v := .ref (za G 27)) hx hb hts hin11 hown hK hI (zo0 hG) rfl 13 (by decide) wF59 (fun _ h9 => h9) rfl dX11_tape_53 ?_
                refine lv_iload_n hx hb dX11_tape_56 rfl (lv_at hl 1 rfl) ?_
                refine lv_iload_n hx hb dX11_tape_57 rfl (lv_at hl 2 rfl) ?_
                refine lv_iconst (v := (-1)) hx hb dX11_tape_58 rfl ?_
                refine lv_icmp_ne (tgt := 66) hx hb dX11_tape_59 (by decide) (fun c_59 => ?_) (fun c_59 => ?_)
                · skip
                  refine lv_iload_n hx hb dX11_tape_66 rfl (lv_at hl 3 rfl) ?_
                  refine z_iast (y := n) hx hb hK hI (zo27 hG) t rfl (by omega) (by decide) dX11_tape_67 (fun H locs hI => ?_)
                  refine lv_iconst (v := (nI 0)) hx hb dX11_tape_68 rfl ?_
                  refine lv_istore (lv' := [(4, .int (nI 0)), (0, .ref (za G 0)), (1, .int (nI t)), (2, .int sr), (3, .int n)]) hx hb dX11_tape_69 hl (by decide) rfl (fun ls hl => ?_)
                  have L71 : ∀ (f : Nat) (j : Nat) (u : zX), (j ≤ 60) → (zsrL (zsI (zsI x 26 t sr) 27 t (if sr = -1 then nI 0 else n)) (20 + t) (zclr (x.2.1 (20 + t)) 0 j) = u) → 61 ≤ j + f → ∀ (H : Heap) (locs : List Loc), zI G u A s.heap H locs → ∀ ls : Array Slot, lv_has ls 5 [(0, .ref (za G 0)), (1, .int (nI t)), (4, .int (nI j))] → W p l e { frames := 1, cells := 0, slots := 0, locals := 20 } s m ([.ref (za G 0), .int (nI t), .int sr, .int n] : List Value).toArray below meth c H locs 0 0 (MQ below (va_Qi (fun (r : Int32) (u : zX) => (¬ zin 6 (nI t) ∧ x = u ∧ -1 = r) ∨ (∃ tb, tb < 6 ∧ (nI t) = nI tb ∧ (((sr < -1 ∨ nI 4 < sr ∨ (¬ sr = -1 ∧ nI 60 < n)) ∧ x = u ∧ -2 = r) ∨ (¬ (sr < -1 ∨ nI 4 < sr ∨ (¬ sr = -1 ∧ nI 60 < n)) ∧ (¬ sr = -1 ∧ n < 0) ∧ x = u ∧ -14 = r) ∨ (¬ (sr < -1 ∨ nI 4 < sr ∨ (¬ sr = -1 ∧ nI 60 < n)) ∧ ¬ (¬ sr = -1 ∧ n < 0) ∧ zsrL (zsI (zsI x 26 tb sr) 27 tb (if sr = -1 then nI 0 else n)) (20 + tb) (zclr (x.2.1 (20 + tb)) 0 60) = u ∧ nI 1 = r)))) (fun u t => zJ G u A t.heap) A) ([.ref (za G 0), .int (nI t), .int sr, .int n] : List Value).toArray s 0 0 A) (F0 m 71 ls []) := by
                    intro f
                    induction f with
                    | zero =>
                      intro j u h1 hst hf
                      exact absurd hf (by omega)
                    | succ f ih =>
                      intro j u h1 hst hf H locs hI ls hl
                      have ih71 := ih
                      refine lv_iload hx hb dX11_tape_71 (lv_at hl 2 rfl) ?_
                      refine lv_aload_n hx hb dX11_tape_73 rfl (lv_at hl 0 rfl) ?_
                      refine z_get (C := RX11) (T := TX11) (N := 14) (ci := 11) (v := .ref (za G 19)) hx hb hts hin11 hown hK hI (zo0 hG) rfl 11 (by decide) wF52 (fun _ h9 => h9) rfl dX11_tape_74 ?_
                      refine lv_iload_n hx hb dX11_tape_77 rfl (lv_at hl 1 rfl) ?_
                      refine z_jald hx hb hK hG hI t rfl (by omega) dX11_tape_78 ?_
                      refine z_alen (v := nI 60) hx hb hK hI 3 (zol hG (by omega)).1 ((zol hG (by omega)).2 _) rfl rfl dX11_tape_79 ?_
                      refine lv_icmp_ge (tgt := 99) hx hb dX11_tape_80 (by decide) (fun c_80 => ?_) (fun c_80 => ?_)
                      · skip
                        rw [zqG (by omega) (by omega)] at c_80
                        refine lv_iconst (v := (nI 1)) hx hb dX11_tape_99 rfl ?_
                        exact z_iret hx hb hr hlocks hI (Or.inr ⟨t, ht, rfl, Or.inr (Or.inr ⟨hgood, hgood2, (by rw [← hst, show j = 60 by omega]), rfl⟩)⟩) dX11_tape_100
                      · skip
                        rw [zqG (by omega) (by omega)] at c_80
                        refine lv_aload_n hx hb dX11_tape_83 rfl (lv_at hl 0 rfl) ?_
                        refine z_get (C := RX11) (T := TX11) (N := 14) (ci := 11) (v := .ref (za G 19)) hx hb hts hin11 hown hK hI (zo0 hG) rfl 11 (by decide) wF52 (fun _ h9 => h9) rfl dX11_tape_84 ?_
                        refine lv_iload_n hx hb dX11_tape_87 rfl (lv_at hl 1 rfl) ?_
                        refine z_jald hx hb hK hG hI t rfl (by omega) dX11_tape_88 ?_
                        refine lv_iload hx hb dX11_tape_89 (lv_at hl 2 rfl) ?_
                        refine lv_lconst (v := 0) hx hb dX11_tape_91 rfl ?_
                        refine z_last (y := 0) hx hb hK hI (zol hG (by omega)) j rfl (by omega) (by decide) dX11_tape_92 (fun H locs hI => ?_)
                        refine lv_iinc (v := (nI (j + 1))) (lv' := [(4, .int (nI (j + 1))), (0, .ref (za G 0)), (1, .int (nI t))]) hx hb dX11_tape_93 hl (k := 2) rfl (zinc j) (by decide) rfl (fun ls hl => ?_)
                        refine lv_goto (tgt := 71) hx hb dX11_tape_96 (by decide) ?_
                        exact ih71 (j + 1) (zsL u (20 + t) j 0) (by omega) (by subst hst; rw [zsL_r, zsrL_u, zsrL_t]; rw [show vp_updL (zclr (x.2.1 (20 + t)) 0 j) j 0 = zclr (x.2.1 (20 + t)) 0 (j + 1) from by have h := zclr_s (f := x.2.1 (20 + t)) (o := 0) (j := j); rw [Nat.zero_add] at h; exact h]) (by omega) _ _ hI ls (lv_sub hl [1, 2, 0] rfl)
                  exact L71 (61) 0 (zsI (zsI x 26 t sr) 27 t n) (by omega) (by rw [zclr_0]; first | (rw [if_pos c_59]; exact zsrL_e) | (rw [if_neg c_59]; exact zsrL_e)) (by omega) _ _ hI ls (lv_sub hl [1, 2, 0] rfl)
                · skip
                  exact absurd c_59 c_35
              · skip
                refine lv_bipush (v := (-14)) hx hb dX11_tape_42 rfl ?_
                exact z_iret hx hb hr hlocks hI (Or.inr ⟨t, ht, rfl, Or.inr (Or.inl ⟨fun h => h.elim c_11 (fun h => h.elim c_16 (fun h => z_nle c_27 h.2)), ⟨c_35, z_le c_39⟩, rfl, rfl⟩)⟩) dX11_tape_44
          · skip
            refine lv_bipush (v := (-2)) hx hb dX11_tape_30 rfl ?_
            exact z_iret hx hb hr hlocks hI (Or.inr ⟨t, ht, rfl, Or.inl ⟨Or.inr (Or.inr ⟨c_21, z_le c_27⟩), rfl, rfl⟩⟩) dX11_tape_32
  · skip
    rw [zb_0] at c_4
    refine lv_iconst (v := (-1)) hx hb dX11_tape_7 rfl ?_
    exact z_iret hx hb hr hlocks hI (Or.inl ⟨c_4, rfl, rfl⟩) dX11_tape_8
set_option maxHeartbeats 4000000 in
set_option maxRecDepth 100000 in
theorem c_X11_item (l : Launch) {G : zG} (hG : zOK G) (x : zX) (t0 q : Int32) (v : Int64) (htp : zTp x) : zMi l yX11_item wsX11_item { frames := 2, cells := 0, slots := 0, locals := 42 } G [.ref (za G 0), .int t0, .int q, .long v] x (fun (r : Int32) (u : zX) => (¬ zin 6 t0 ∧ x = u ∧ -1 = r) ∨ (∃ t, t < 6 ∧ t0 = nI t ∧ ((x.1 26 t = -1 ∧ x = u ∧ -11 = r) ∨ (¬ x.1 26 t = -1 ∧ ¬ zin (zsz x t) q ∧ x = u ∧ -13 = r) ∨ (¬ x.1 26 t = -1 ∧ ∃ j, j < zsz x t ∧ q = nI j ∧ zsL x (20 + t) j (zsort (x.1 26 t) v) = u ∧ nI 1 = r)))) := by
  intro A
  refine zBody (cc := cX11_item) (maxL := 5) (ret := (some .int)) (by decide) rfl (Nat.le_of_ble_eq_true rfl) ?_
  intro p e s m below meth c hx hb hml hown hts hr hlocks hK hN hI ls hl
  have hown : s.vm.findClass RX11 = some m.cls := hown
  have hl : lv_has ls 5 [(0, .ref (za G 0)), (1, .int t0), (2, .int q), (3, .long v)] := hl
  have hin11 : ∀ w ∈ wsX110, w ∈ wsX11_item := (fun _ h => List.mem_cons_of_mem _ (List.mem_append_right _ (h)))
  have wF55 := hts (.fieldLink RX11 55 "WhoSitsBy" "sorts" "[I") (z_mem 1 rfl)
  have wF52 := hts (.fieldLink RX11 52 "WhoSitsBy" "items" "[[J") (z_mem 2 rfl)
  refine lv_iload_n hx hb dX11_item_0 rfl (lv_at hl 1 rfl) ?_
  refine z_calli (va_runS (As := [.int t0]) (rest := []) ⟨hx, hb, hml, hown, hts⟩ ((c_X11_isTape l hG x t0) A) (va_cwS 1 hts gX11_item_X11_isTape rfl rfl rfl (by decide +kernel) ⟨Nat.le_of_ble_eq_true rfl, Nat.le_of_ble_eq_true rfl⟩) (z_pS hI hK hN) rfl rfl hl.1 rfl (lv_room (Nat.le_of_ble_eq_true rfl)) dX11_item_1 ⟨Nat.zero_le _, Nat.zero_le _⟩) hI (fun r_1 u H locs hw hI => ?_)
  obtain ⟨rfl, rfl⟩ := hw
  refine lv_if_ne (tgt := 9) hx hb dX11_item_4 (by decide) (fun c_4 => ?_) (fun c_4 => ?_)
  · skip
    rw [zb_0, Classical.not_not] at c_4
    obtain ⟨t, ht, rfl⟩ := z_ix c_4.1 c_4.2 (by decide)
    refine lv_aload_n hx hb dX11_item_9 rfl (lv_at hl 0 rfl) ?_
    refine z_get (C := RX11) (T := TX11) (N := 14) (ci := 11) (v := .ref (za G 26)) hx hb hts hin11 hown hK hI (zo0 hG) rfl 12 (by decide) wF55 (fun _ h9 => h9) rfl dX11_item_10 ?_
    refine lv_iload_n hx hb dX11_item_13 rfl (lv_at hl 1 rfl) ?_
    refine z_iald (v := (x.1 26 t)) hx hb hK hI (zo26 hG) t rfl (by omega) (by decide) rfl dX11_item_14 ?_
    refine lv_iconst (v := (-1)) hx hb dX11_item_15 rfl ?_
    refine lv_icmp_ne (tgt := 22) hx hb dX11_item_16 (by decide) (fun c_16 => ?_) (fun c_16 => ?_)
    · skip
      refine lv_aload_n hx hb dX11_item_22 rfl (lv_at hl 0 rfl) ?_
      refine lv_iload_n hx hb dX11_item_23 rfl (lv_at hl 1 rfl) ?_
      refine lv_iload_n hx hb dX11_item_24 rfl (lv_at hl 2 rfl) ?_
      refine z_calli (va_runV (As := [.int (nI t), .int q]) (rest := []) ⟨hx, hb, hml, hown, hts⟩ ((c_X11_isPlace l hG x t q htp (by omega)) A) (cwV 2 hts gX11_item_X11_isPlace rfl rfl rfl (by decide +kernel) ⟨Nat.le_of_ble_eq_true rfl, Nat.le_of_ble_eq_true rfl⟩) (z_pV hI hK hN (z_recv hK hI (zo0 hG) rfl)) rfl rfl hl.1 rfl (lv_room (Nat.le_of_ble_eq_true rfl)) dX11_item_25 ⟨Nat.zero_le _, Nat.zero_le _⟩) hI (fun r_25 u H locs hw hI => ?_)
      obtain ⟨rfl, rfl⟩ := hw
      refine lv_if_ne (tgt := 34) hx hb dX11_item_28 (by decide) (fun c_28 => ?_) (fun c_28 => ?_)
      · skip
        rw [zb_0, Classical.not_not] at c_28
        have h60 := (htp t ht).2
        obtain ⟨j, hj, rfl⟩ := z_ix c_28.1 c_28.2 (by omega)
        refine lv_aload_n hx hb dX11_item_34 rfl (lv_at hl 0 rfl) ?_
        refine z_get (C := RX11) (T := TX11) (N := 14) (ci := 11) (v := .ref (za G 19)) hx hb hts hin11 hown hK hI (zo0 hG) rfl 11 (by decide) wF52 (fun _ h9 => h9) rfl dX11_item_35 ?_
        refine lv_iload_n hx hb dX11_item_38 rfl (lv_at hl 1 rfl) ?_
        refine z_jald hx hb hK hG hI t rfl (by omega) dX11_item_39 ?_
        refine lv_iload_n hx hb dX11_item_40 rfl (lv_at hl 2 rfl) ?_
        refine lv_aload_n hx hb dX11_item_41 rfl (lv_at hl 0 rfl) ?_
        refine z_get (C := RX11) (T := TX11) (N := 14) (ci := 11) (v := .ref (za G 26)) hx hb hts hin11 hown hK hI (zo0 hG) rfl 12 (by decide) wF55 (fun _ h9 => h9) rfl dX11_item_42 ?_
        refine lv_iload_n hx hb dX11_item_45 rfl (lv_at hl 1 rfl) ?_
        refine z_iald (v := (x.1 26 t)) hx hb hK hI (zo26 hG) t rfl (by omega) (by decide) rfl dX11_item_46 ?_
        refine lv_lload_n hx hb dX11_item_47 rfl (lv_at hl 3 rfl) ?_
        refine z_calll (va_runS (As := [.int (x.1 26 t), .long v]) (rest := [.int (nI j), .ref (za G (20 + t))]) ⟨hx, hb, hml, hown, hts⟩ ((c_X11_asSort l hG x (x.1 26 t) v) A) (va_cwS 2 hts gX11_item_X11_asSort rfl rfl rfl (by decide +kernel) ⟨Nat.le_of_ble_eq_true rfl, Nat.le_of_ble_eq_true rfl⟩) (z_pS hI hK hN) rfl rfl hl.1 rfl (lv_room (Nat.le_of_ble_eq_true rfl)) dX11_item_48 ⟨Nat.zero_le _, Nat.zero_le _⟩) hI (fun r_48 u H locs hw hI => ?_)
        obtain ⟨rfl, rfl⟩ := hw
        refine z_last (y := (zsort (x.1 26 t) v)) hx hb hK hI (zol hG (by omega)) j rfl (by omega) (by decide) dX11_item_51 (fun H locs hI => ?_)
        refine lv_iconst (v := (nI 1)) hx hb dX11_item_52 rfl ?_
        exact z_iret hx hb hr hlocks hI (Or.inr ⟨t, ht, rfl, Or.inr (Or.inr ⟨c_16, j, hj, rfl, rfl, rfl⟩)⟩) dX11_item_53
      · skip
        rw [zb_0] at c_28
        refine lv_bipush (v := (-13)) hx hb dX11_item_31 rfl ?_
        exact z_iret hx hb hr hlocks hI (Or.inr ⟨t, ht, rfl, Or.inr (Or.inl ⟨c_16, c_28, rfl, rfl⟩)⟩) dX11_item_33
    · skip
      refine lv_bipush (v := (-11)) hx hb dX11_item_19 rfl ?_
      exact z_iret hx hb hr hlocks hI (Or.inr ⟨t, ht, rfl, Or.inl ⟨c_16, rfl, rfl⟩⟩) dX11_item_21
  · skip
    rw [zb_0] at c_4
    refine lv_iconst (v := (-1)) hx hb dX11_item_7 rfl ?_
    exact z_iret hx hb hr hlocks hI (Or.inl ⟨c_4, rfl, rfl⟩) dX11_item_8
set_option maxHeartbeats 4000000 in
set_option maxRecDepth 100000 in
theorem c_X11_read (l : Launch) {G : zG} (hG : zOK G) (x : zX) (t0 q : Int32) (htp : zTp x) : zMl l yX11_read wsX11_read { frames := 2, cells := 0, slots := 0, locals := 42 } G [.ref (za G 0), .int t0, .int q] x (fun (r : Int64) (u : zX) => x = u ∧ ((¬ (zin 6 t0 ∧ zin (zsz x t0.toNatClampNeg) q) ∧ (-9223372036854775808) = r) ∨ (∃ t j, t < 6 ∧ t0 = nI t ∧ j < zsz x t ∧ q = nI j ∧ x.2.1 (20 + t) j = r))) := by
  intro A
  refine zBody (cc := cX11_read) (maxL := 3) (ret := (some .long)) (by decide) rfl (Nat.le_of_ble_eq_true rfl) ?_
  intro p e s m below meth c hx hb hml hown hts hr hlocks hK hN hI ls hl
  have hown : s.vm.findClass RX11 = some m.cls := hown
  have hl : lv_has ls 3 [(0, .ref (za G 0)), (1, .int t0), (2, .int q)] := hl
  have hin11 : ∀ w ∈ wsX110, w ∈ wsX11_read := (fun _ h => List.mem_cons_of_mem _ (List.mem_append_right _ (h)))
  have wK244 := hts (.constantLong RX11 244 (-9223372036854775808)) (z_mem 2 rfl)
  have wF52 := hts (.fieldLink RX11 52 "WhoSitsBy" "items" "[[J") (z_mem 1 rfl)
  refine lv_iload_n hx hb dX11_read_0 rfl (lv_at hl 1 rfl) ?_
  refine z_calli (va_runS (As := [.int t0]) (rest := []) ⟨hx, hb, hml, hown, hts⟩ ((c_X11_isTape l hG x t0) A) (va_cwS 1 hts gX11_read_X11_isTape rfl rfl rfl (by decide +kernel) ⟨Nat.le_of_ble_eq_true rfl, Nat.le_of_ble_eq_true rfl⟩) (z_pS hI hK hN) rfl rfl hl.1 rfl (lv_room (Nat.le_of_ble_eq_true rfl)) dX11_read_1 ⟨Nat.zero_le _, Nat.zero_le _⟩) hI (fun r_1 u H locs hw hI => ?_)
  obtain ⟨rfl, rfl⟩ := hw
  refine lv_if_eq (tgt := 27) hx hb dX11_read_4 (by decide) (fun c_4 => ?_) (fun c_4 => ?_)
  · skip
    rw [zb_0] at c_4
    refine lv_ldc2 (v := (-9223372036854775808)) hx hb hown wK244 dX11_read_27 ?_
    exact z_lret hx hb hr hlocks hI (⟨rfl, Or.inl ⟨fun h => c_4 h.1, rfl⟩⟩) dX11_read_30
  · skip
    rw [zb_0, Classical.not_not] at c_4
    obtain ⟨t, ht, rfl⟩ := z_ix c_4.1 c_4.2 (by decide)
    refine lv_aload_n hx hb dX11_read_7 rfl (lv_at hl 0 rfl) ?_
    refine lv_iload_n hx hb dX11_read_8 rfl (lv_at hl 1 rfl) ?_
    refine lv_iload_n hx hb dX11_read_9 rfl (lv_at hl 2 rfl) ?_
    refine z_calli (va_runV (As := [.int (nI t), .int q]) (rest := []) ⟨hx, hb, hml, hown, hts⟩ ((c_X11_isPlace l hG x t q htp (by omega)) A) (cwV 2 hts gX11_read_X11_isPlace rfl rfl rfl (by decide +kernel) ⟨Nat.le_of_ble_eq_true rfl, Nat.le_of_ble_eq_true rfl⟩) (z_pV hI hK hN (z_recv hK hI (zo0 hG) rfl)) rfl rfl hl.1 rfl (lv_room (Nat.le_of_ble_eq_true rfl)) dX11_read_10 ⟨Nat.zero_le _, Nat.zero_le _⟩) hI (fun r_10 u H locs hw hI => ?_)
    obtain ⟨rfl, rfl⟩ := hw
    refine lv_if_eq (tgt := 27) hx hb dX11_read_13 (by decide) (fun c_13 => ?_) (fun c_13 => ?_)
    · skip
      rw [zb_0] at c_13
      refine lv_ldc2 (v := (-9223372036854775808)) hx hb hown wK244 dX11_read_27 ?_
      exact z_lret hx hb hr hlocks hI (⟨rfl, Or.inl ⟨fun h => c_13 (by have h9 := h.2; rw [nI_clamp (by omega)] at h9; exact h9), rfl⟩⟩) dX11_read_30
    · skip
      rw [zb_0, Classical.not_not] at c_13
      have h60 := (htp t ht).2
      obtain ⟨j, hj, rfl⟩ := z_ix c_13.1 c_13.2 (by omega)
      refine lv_aload_n hx hb dX11_read_16 rfl (lv_at hl 0 rfl) ?_
      refine z_get (C := RX11) (T := TX11) (N := 14) (ci := 11) (v := .ref (za G 19)) hx hb hts hin11 hown hK hI (zo0 hG) rfl 11 (by decide) wF52 (fun _ h9 => h9) rfl dX11_read_17 ?_
      refine lv_iload_n hx hb dX11_read_20 rfl (lv_at hl 1 rfl) ?_
      refine z_jald hx hb hK hG hI t rfl (by omega) dX11_read_21 ?_
      refine lv_iload_n hx hb dX11_read_22 rfl (lv_at hl 2 rfl) ?_
      refine z_lald (v := (x.2.1 (20 + t) j)) hx hb hK hI (zol hG (by omega)) j rfl (by omega) (by decide) rfl dX11_read_23 ?_
      refine lv_goto (tgt := 30) hx hb dX11_read_24 (by decide) ?_
      exact z_lret hx hb hr hlocks hI (⟨rfl, Or.inr ⟨t, j, ht, rfl, hj, rfl, rfl⟩⟩) dX11_read_30
set_option maxHeartbeats 4000000 in
set_option maxRecDepth 100000 in
theorem c_X12_isTape (l : Launch) {G : zG} (hG : zOK G) (x : zX) (q : Int32)  : zMi l yX12_isTape wsX12_isTape { frames := 1, cells := 0, slots := 0, locals := 23 } G [.ref (za G 77), .int q] x (fun (r : Int32) (u : zX) => x = u ∧ (if zin 6 q then nI 1 else nI 0) = r) := by
  intro A
  refine zBody (cc := cX12_isTape) (maxL := 2) (ret := (some .boolean)) (by decide) rfl (Nat.le_of_ble_eq_true rfl) ?_
  intro p e s m below meth c hx hb hml hown hts hr hlocks hK hN hI ls hl
  have hown : s.vm.findClass RX12 = some m.cls := hown
  have hl : lv_has ls 2 [(0, .ref (za G 77)), (1, .int q)] := hl
  refine lv_aload_n hx hb dX12_isTape_0 rfl (lv_at hl 0 rfl) ?_
  refine lv_iload_n hx hb dX12_isTape_1 rfl (lv_at hl 1 rfl) ?_
  refine lv_iconst (v := (nI 0)) hx hb dX12_isTape_2 rfl ?_
  refine lv_iconst (v := (nI 5)) hx hb dX12_isTape_3 rfl ?_
  refine z_calli (va_runV (As := [.int q, .int (nI 0), .int (nI 5)]) (rest := []) ⟨hx, hb, hml, hown, hts⟩ ((c_X12_in l hG x q (nI 0) (nI 5)) A) (cwV 3 hts gX12_isTape_X12_in rfl rfl rfl (by decide +kernel) ⟨Nat.le_of_ble_eq_true rfl, Nat.le_of_ble_eq_true rfl⟩) (z_pV hI hK hN (z_recv hK hI (zo77 hG) rfl)) rfl rfl hl.1 rfl (lv_room (Nat.le_of_ble_eq_true rfl)) dX12_isTape_4 ⟨Nat.zero_le _, Nat.zero_le _⟩) hI (fun r_4 u H locs hw hI => ?_)
  obtain ⟨rfl, rfl⟩ := hw
  exact z_zret hx hb hr hlocks hI (zb01 inferInstance) (⟨rfl, zb_c (zin_i (N := 6) (by decide))⟩) dX12_isTape_7
set_option maxHeartbeats 4000000 in
set_option maxRecDepth 100000 in
theorem c_X12_narrow (l : Launch) {G : zG} (hG : zOK G) (x : zX) (t : Int32) (v : Int64)  : zMl l yX12_narrow wsX12_narrow { frames := 0, cells := 0, slots := 0, locals := 0 } G [.ref (za G 77), .int t, .long v] x (fun (r : Int64) (u : zX) => x = u ∧ zsort t v = r) := by
  intro A
  refine zBody (cc := cX12_narrow) (maxL := 4) (ret := (some .long)) (by decide) rfl (Nat.le_of_ble_eq_true rfl) ?_
  intro p e s m below meth c hx hb hml hown hts hr hlocks hK hN hI ls hl
  have hown : s.vm.findClass RX12 = some m.cls := hown
  have hl : lv_has ls 4 [(0, .ref (za G 77)), (1, .int t), (2, .long v)] := hl
  refine lv_iload_n hx hb dX12_narrow_0 rfl (lv_at hl 1 rfl) ?_
  refine lv_if_ne (tgt := 11) hx hb dX12_narrow_1 (by decide) (fun c_1 => ?_) (fun c_1 => ?_)
  · skip
    rw [show (0 : Int32) = nI 0 from rfl] at c_1
    refine lv_iload_n hx hb dX12_narrow_11 rfl (lv_at hl 1 rfl) ?_
    refine lv_iconst (v := (nI 1)) hx hb dX12_narrow_12 rfl ?_
    refine lv_icmp_ne (tgt := 23) hx hb dX12_narrow_13 (by decide) (fun c_13 => ?_) (fun c_13 => ?_)
    · skip
      refine lv_iload_n hx hb dX12_narrow_23 rfl (lv_at hl 1 rfl) ?_
      refine lv_iconst (v := (nI 2)) hx hb dX12_narrow_24 rfl ?_
      refine lv_icmp_ne (tgt := 34) hx hb dX12_narrow_25 (by decide) (fun c_25 => ?_) (fun c_25 => ?_)
      · skip
        refine lv_iload_n hx hb dX12_narrow_34 rfl (lv_at hl 1 rfl) ?_
        refine lv_iconst (v := (nI 4)) hx hb dX12_narrow_35 rfl ?_
        refine lv_icmp_ne (tgt := 53) hx hb dX12_narrow_36 (by decide) (fun c_36 => ?_) (fun c_36 => ?_)
        · skip
          refine lv_lload_n hx hb dX12_narrow_53 rfl (lv_at hl 2 rfl) ?_
          exact z_lret hx hb hr hlocks hI (⟨rfl, by unfold zsort; rw [if_neg c_1, if_neg c_13, if_neg c_25, if_neg c_36]⟩) dX12_narrow_54
        · skip
          refine lv_lload_n hx hb dX12_narrow_39 rfl (lv_at hl 2 rfl) ?_
          refine lv_lconst (v := 0) hx hb dX12_narrow_40 rfl ?_
          refine W.lcmp hx hb dX12_narrow_41 ?_
          refine lv_if_eq (tgt := 49) hx hb dX12_narrow_42 (by decide) (fun c_42 => ?_) (fun c_42 => ?_)
          · skip
            rw [zlcmp0] at c_42
            refine lv_lconst (v := 0) hx hb dX12_narrow_49 rfl ?_
            refine lv_goto (tgt := 54) hx hb dX12_narrow_50 (by decide) ?_
            exact z_lret hx hb hr hlocks hI (⟨rfl, by unfold zsort; rw [if_neg c_1, if_neg c_13, if_neg c_25, if_pos c_36, if_pos c_42]⟩) dX12_narrow_54
          · skip
            rw [zlcmp0] at c_42
            refine lv_lconst (v := 1) hx hb dX12_narrow_45 rfl ?_
            refine lv_goto (tgt := 54) hx hb dX12_narrow_46 (by decide) ?_
            exact z_lret hx hb hr hlocks hI (⟨rfl, by unfold zsort; rw [if_neg c_1, if_neg c_13, if_neg c_25, if_pos c_36, if_neg c_42]⟩) dX12_narrow_54
      · skip
        refine lv_lload_n hx hb dX12_narrow_28 rfl (lv_at hl 2 rfl) ?_
        refine lv_l2i hx hb dX12_narrow_29 rfl ?_
        refine lv_i2l hx hb dX12_narrow_30 rfl ?_
        refine lv_goto (tgt := 54) hx hb dX12_narrow_31 (by decide) ?_
        exact z_lret hx hb hr hlocks hI (⟨rfl, by unfold zsort; rw [if_neg c_1, if_neg c_13, if_pos c_25]⟩) dX12_narrow_54
    · skip
      refine lv_lload_n hx hb dX12_narrow_16 rfl (lv_at hl 2 rfl) ?_
      refine lv_l2i hx hb dX12_narrow_17 rfl ?_
      refine lv_i2s hx hb dX12_narrow_18 rfl ?_
      refine lv_i2l hx hb dX12_narrow_19 rfl ?_
      refine lv_goto (tgt := 54) hx hb dX12_narrow_20 (by decide) ?_
      exact z_lret hx hb hr hlocks hI (⟨rfl, by unfold zsort; rw [if_neg c_1, if_pos c_13]⟩) dX12_narrow_54
  · skip
    rw [show (0 : Int32) = nI 0 from rfl] at c_1
    refine lv_lload_n hx hb dX12_narrow_4 rfl (lv_at hl 2 rfl) ?_
    refine lv_l2i hx hb dX12_narrow_5 rfl ?_
    refine lv_i2b hx hb dX12_narrow_6 rfl ?_
    refine lv_i2l hx hb dX12_narrow_7 rfl ?_
    refine lv_goto (tgt := 54) hx hb dX12_narrow_8 (by decide) ?_
    exact z_lret hx hb hr hlocks hI (⟨rfl, by unfold zsort; rw [if_pos c_1]⟩) dX12_narrow_54
set_option maxHeartbeats 4000000 in
set_option maxRecDepth 100000 in
theorem c_X12_item (l : Launch) {G : zG} (hG : zOK G) (x : zX) (t0 q : Int32) (v : Int64) (htp : zTpR x) : zMi l yX12_item wsX12_item { frames := 2, cells := 0, slots := 0, locals := 44 } G [.ref (za G 77), .int t0, .int q, .long v] x (fun (r : Int32) (u : zX) => (¬ zin 6 t0 ∧ x = u ∧ -1 = r) ∨ (∃ t, t < 6 ∧ t0 = nI t ∧ ((x.1 108 t < 0 ∧ x = u ∧ -11 = r) ∨ (¬ x.1 108 t < 0 ∧ ¬ zin (zszR x t) q ∧ x = u ∧ -13 = r) ∨ (¬ x.1 108 t < 0 ∧ ∃ j, j < zszR x t ∧ q = nI j ∧ zsL x 110 (60 * t + j) (zsort (x.1 108 t) v) = u ∧ nI 1 = r)))) := by
  intro A
  refine zBody (cc := cX12_item) (maxL := 5) (ret := (some .int)) (by decide) rfl (Nat.le_of_ble_eq_true rfl) ?_
  intro p e s m below meth c hx hb hml hown hts hr hlocks hK hN hI ls hl
  have hown : s.vm.findClass RX12 = some m.cls := hown
  have hl : lv_has ls 5 [(0, .ref (za G 77)), (1, .int t0), (2, .int q), (3, .long v)] := hl
  have hin12 : ∀ w ∈ wsX120, w ∈ wsX12_item := (fun _ h => List.mem_cons_of_mem _ (List.mem_append_right _ (h)))
  have wF154 := hts (.fieldLink RX12 154 "WhoSitsByModel" "sort" "[I") (z_mem 1 rfl)
  have wF157 := hts (.fieldLink RX12 157 "WhoSitsByModel" "length" "[I") (z_mem 2 rfl)
  have wF160 := hts (.fieldLink RX12 160 "WhoSitsByModel" "item" "[J") (z_mem 3 rfl)
  refine lv_aload_n hx hb dX12_item_0 rfl (lv_at hl 0 rfl) ?_
  refine lv_iload_n hx hb dX12_item_1 rfl (lv_at hl 1 rfl) ?_
  refine z_calli (va_runV (As := [.int t0]) (rest := []) ⟨hx, hb, hml, hown, hts⟩ ((c_X12_isTape l hG x t0) A) (cwV 1 hts gX12_item_X12_isTape rfl rfl rfl (by decide +kernel) ⟨Nat.le_of_ble_eq_true rfl, Nat.le_of_ble_eq_true rfl⟩) (z_pV hI hK hN (z_recv hK hI (zo77 hG) rfl)) rfl rfl hl.1 rfl (lv_room (Nat.le_of_ble_eq_true rfl)) dX12_item_2 ⟨Nat.zero_le _, Nat.zero_le _⟩) hI (fun r_2 u H locs hw hI => ?_)
  obtain ⟨rfl, rfl⟩ := hw
  refine lv_if_ne (tgt := 10) hx hb dX12_item_5 (by decide) (fun c_5 => ?_) (fun c_5 => ?_)
  · skip
    rw [zb_0, Classical.not_not] at c_5
    obtain ⟨t, ht, rfl⟩ := z_ix c_5.1 c_5.2 (by decide)
    have h60 := (htp t ht).2
    refine lv_aload_n hx hb dX12_item_10 rfl (lv_at hl 0 rfl) ?_
    refine z_get (C := RX12) (T := TX12) (N := 51) (ci := 12) (v := .ref (za G 108)) hx hb hts hin12 hown hK hI (zo77 hG) rfl 47 (by decide) wF154 (fun _ h9 => h9) rfl dX12_item_11 ?_
    refine lv_iload_n hx hb dX12_item_14 rfl (lv_at hl 1 rfl) ?_
    refine z_iald (v := (x.1 108 t)) hx hb hK hI (zo108 hG) t rfl (by omega) (by decide) rfl dX12_item_15 ?_
    refine lv_if_ge (tgt := 22) hx hb dX12_item_16 (by decide) (fun c_16 => ?_) (fun c_16 => ?_)
    · skip
      refine lv_aload_n hx hb dX12_item_22 rfl (lv_at hl 0 rfl) ?_
      refine lv_iload_n hx hb dX12_item_23 rfl (lv_at hl 2 rfl) ?_
      refine lv_iconst (v := (nI 0)) hx hb dX12_item_24 rfl ?_
      refine lv_aload_n hx hb dX12_item_25 rfl (lv_at hl 0 rfl) ?_
      refine z_get (C := RX12) (T := TX12) (N := 51) (ci := 12) (v := .ref (za G 109)) hx hb hts hin12 hown hK hI (zo77 hG) rfl 48 (by decide) wF157 (fun _ h9 => h9) rfl dX12_item_26 ?_
      refine lv_iload_n hx hb dX12_item_29 rfl (lv_at hl 1 rfl) ?_
      refine z_iald (v := (nI (zszR x t))) hx hb hK hI (zo109 hG) t rfl (by omega) (by decide) (htp t ht).1 dX12_item_30 ?_
      refine lv_iconst (v := (nI 1)) hx hb dX12_item_31 rfl ?_
      refine lv_isub hx hb dX12_item_32 ?_
      refine z_calli (va_runV (As := [.int q, .int (nI 0), .int ((nI (zszR x t)) - (nI 1))]) (rest := []) ⟨hx, hb, hml, hown, hts⟩ ((c_X12_in l hG x q (nI 0) ((nI (zszR x t)) - (nI 1))) A) (cwV 3 hts gX12_item_X12_in rfl rfl rfl (by decide +kernel) ⟨Nat.le_of_ble_eq_true rfl, Nat.le_of_ble_eq_true rfl⟩) (z_pV hI hK hN (z_recv hK hI (zo77 hG) rfl)) rfl rfl hl.1 rfl (lv_room (Nat.le_of_ble_eq_true rfl)) dX12_item_33 ⟨Nat.zero_le _, Nat.zero_le _⟩) hI (fun r_33 u H locs hw hI => ?_)
      obtain ⟨rfl, rfl⟩ := hw
      refine lv_if_ne (tgt := 42) hx hb dX12_item_36 (by decide) (fun c_36 => ?_) (fun c_36 => ?_)
      · skip
        rw [zb_0, Classical.not_not] at c_36; rw [zin_n h60] at c_36
        obtain ⟨j, hj, rfl⟩ := z_ix c_36.1 c_36.2 (by omega)
        refine lv_aload_n hx hb dX12_item_42 rfl (lv_at hl 0 rfl) ?_
        refine z_get (C := RX12) (T := TX12) (N := 51) (ci := 12) (v := .ref (za G 110)) hx hb hts hin12 hown hK hI (zo77 hG) rfl 49 (by decide) wF160 (fun _ h9 => h9) rfl dX12_item_43 ?_
        refine lv_bipush (v := (nI 60)) hx hb dX12_item_46 rfl ?_
        refine lv_iload_n hx hb dX12_item_48 rfl (lv_at hl 1 rfl) ?_
        refine z_imul (v := (nI (60 * t))) hx hb (pk_mul _ _) dX12_item_49 ?_
        refine lv_iload_n hx hb dX12_item_50 rfl (lv_at hl 2 rfl) ?_
        refine z_iadd (v := (nI ((60 * t) + j))) hx hb (nI_add _ _) dX12_item_51 ?_
        refine lv_aload_n hx hb dX12_item_52 rfl (lv_at hl 0 rfl) ?_
        refine lv_aload_n hx hb dX12_item_53 rfl (lv_at hl 0 rfl) ?_
        refine z_get (C := RX12) (T := TX12) (N := 51) (ci := 12) (v := .ref (za G 108)) hx hb hts hin12 hown hK hI (zo77 hG) rfl 47 (by decide) wF154 (fun _ h9 => h9) rfl dX12_item_54 ?_
        refine lv_iload_n hx hb dX12_item_57 rfl (lv_at hl 1 rfl) ?_
        refine z_iald (v := (x.1 108 t)) hx hb hK hI (zo108 hG) t rfl (by omega) (by decide) rfl dX12_item_58 ?_
        refine lv_lload_n hx hb dX12_item_59 rfl (lv_at hl 3 rfl) ?_
        refine z_calll (va_runV (As := [.int (x.1 108 t), .long v]) (rest := [.int (nI ((60 * t) + j)), .ref (za G 110)]) ⟨hx, hb, hml, hown, hts⟩ ((c_X12_narrow l hG x (x.1 108 t) v) A) (cwV 2 hts gX12_item_X12_narrow rfl rfl rfl (by decide +kernel) ⟨Nat.le_of_ble_eq_true rfl, Nat.le_of_ble_eq_true rfl⟩) (z_pV hI hK hN (z_recv hK hI (zo77 hG) rfl)) rfl rfl hl.1 rfl (lv_room (Nat.le_of_ble_eq_true rfl)) dX12_item_60 ⟨Nat.zero_le _, Nat.zero_le _⟩) hI (fun r_60 u H locs hw hI => ?_)
        obtain ⟨rfl, rfl⟩ := hw
        refine z_last (y := (zsort (x.1 108 t) v)) hx hb hK hI (zo110 hG) ((60 * t) + j) rfl (by omega) (by decide) dX12_item_63 (fun H locs hI => ?_)
        refine lv_iconst (v := (nI 1)) hx hb dX12_item_64 rfl ?_
        exact z_iret hx hb hr hlocks hI (Or.inr ⟨t, ht, rfl, Or.inr (Or.inr ⟨z_nle c_16, j, hj, rfl, rfl, rfl⟩)⟩) dX12_item_65
      · skip
        rw [zb_0] at c_36; rw [zin_n h60] at c_36
        refine lv_bipush (v := (-13)) hx hb dX12_item_39 rfl ?_
        exact z_iret hx hb hr hlocks hI (Or.inr ⟨t, ht, rfl, Or.inr (Or.inl ⟨z_nle c_16, c_36, rfl, rfl⟩)⟩) dX12_item_41
    · skip
      refine lv_bipush (v := (-11)) hx hb dX12_item_19 rfl ?_
      exact z_iret hx hb hr hlocks hI (Or.inr ⟨t, ht, rfl, Or.inl ⟨z_le c_16, rfl, rfl⟩⟩) dX12_item_21
  · skip
    rw [zb_0] at c_5
    refine lv_iconst (v := (-1)) hx hb dX12_item_8 rfl ?_
    exact z_iret hx hb hr hlocks hI (Or.inl ⟨c_5, rfl, rfl⟩) dX12_item_9
set_option maxHeartbeats 4000000 in
set_option maxRecDepth 100000 in
theorem c_X12_read (l : Launch) {G : zG} (hG : zOK G) (x : zX) (t0 q : Int32) (htp : zTpR x) : zMl l yX12_read wsX12_read { frames := 2, cells := 0, slots := 0, locals := 44 } G [.ref (za G 77), .int t0, .int q] x (fun (r : Int64) (u : zX) => x = u ∧ ((¬ (zin 6 t0 ∧ ¬ x.1 108 t0.toNatClampNeg < 0 ∧ zin (zszR x t0.toNatClampNeg) q) ∧ (-9223372036854775808) = r) ∨ (∃ t j, t < 6 ∧ t0 = nI t ∧ ¬ x.1 108 t < 0 ∧ j < zszR x t ∧ q = nI j ∧ x.2.1 110 (60 * t + j) = r))) := by
  intro A
  refine zBody (cc := cX12_read) (maxL := 3) (ret := (some .long)) (by decide) rfl (Nat.le_of_ble_eq_true rfl) ?_
  intro p e s m below meth c hx hb hml hown hts hr hlocks hK hN hI ls hl
  have hown : s.vm.findClass RX12 = some m.cls := hown
  have hl : lv_has ls 3 [(0, .ref (za G 77)), (1, .int t0), (2, .int q)] := hl
  have hin12 : ∀ w ∈ wsX120, w ∈ wsX12_read := (fun _ h => List.mem_cons_of_mem _ (List.mem_append_right _ (h)))
  have wK322 := hts (.constantLong RX12 322 (-9223372036854775808)) (z_mem 3 rfl)
  have wF154 := hts (.fieldLink RX12 154 "WhoSitsByModel" "sort" "[I") (z_mem 1 rfl)
  have wF157 := hts (.fieldLink RX12 157 "WhoSitsByModel" "length" "[I") (z_mem 2 rfl)
  have wF160 := hts (.fieldLink RX12 160 "WhoSitsByModel" "item" "[J") (z_mem 4 rfl)
  refine lv_aload_n hx hb dX12_read_0 rfl (lv_at hl 0 rfl) ?_
  refine lv_iload_n hx hb dX12_read_1 rfl (lv_at hl 1 rfl) ?_
  refine z_calli (va_runV (As := [.int t0]) (rest := []) ⟨hx, hb, hml, hown, hts⟩ ((c_X12_isTape l hG x t0) A) (cwV 1 hts gX12_read_X12_isTape rfl rfl rfl (by decide +kernel) ⟨Nat.le_of_ble_eq_true rfl, Nat.le_of_ble_eq_true rfl⟩) (z_pV hI hK hN (z_recv hK hI (zo77 hG) rfl)) rfl rfl hl.1 rfl (lv_room (Nat.le_of_ble_eq_true rfl)) dX12_read_2 ⟨Nat.zero_le _, Nat.zero_le _⟩) hI (fun r_2 u H locs hw hI => ?_)
  obtain ⟨rfl, rfl⟩ := hw
  refine lv_if_eq (tgt := 34) hx hb dX12_read_5 (by decide) (fun c_5 => ?_) (fun c_5 => ?_)
  · skip
    rw [zb_0] at c_5
    refine lv_ldc2 (v := (-9223372036854775808)) hx hb hown wK322 dX12_read_34 ?_
    refine lv_goto (tgt := 51) hx hb dX12_read_37 (by decide) ?_
    exact z_lret hx hb hr hlocks hI (⟨rfl, Or.inl ⟨fun h => c_5 h.1, rfl⟩⟩) dX12_read_51
  · skip
    rw [zb_0, Classical.not_not] at c_5
    obtain ⟨t, ht, rfl⟩ := z_ix c_5.1 c_5.2 (by decide)
    have h60 := (htp t ht).2
    have ec : (nI t).toNatClampNeg = t := nI_clamp (by omega)
    refine lv_aload_n hx hb dX12_read_8 rfl (lv_at hl 0 rfl) ?_
    refine z_get (C := RX12) (T := TX12) (N := 51) (ci := 12) (v := .ref (za G 108)) hx hb hts hin12 hown hK hI (zo77 hG) rfl 47 (by decide) wF154 (fun _ h9 => h9) rfl dX12_read_9 ?_
    refine lv_iload_n hx hb dX12_read_12 rfl (lv_at hl 1 rfl) ?_
    refine z_iald (v := (x.1 108 t)) hx hb hK hI (zo108 hG) t rfl (by omega) (by decide) rfl dX12_read_13 ?_
    refine lv_if_lt (tgt := 34) hx hb dX12_read_14 (by decide) (fun c_14 => ?_) (fun c_14 => ?_)
    · skip
      refine lv_ldc2 (v := (-9223372036854775808)) hx hb hown wK322 dX12_read_34 ?_
      refine lv_goto (tgt := 51) hx hb dX12_read_37 (by decide) ?_
      exact z_lret hx hb hr hlocks hI (⟨rfl, Or.inl ⟨fun h => h.2.1 (by rw [ec]; exact c_14), rfl⟩⟩) dX12_read_51
    · skip
      refine lv_aload_n hx hb dX12_read_17 rfl (lv_at hl 0 rfl) ?_
      refine lv_iload_n hx hb dX12_read_18 rfl (lv_at hl 2 rfl) ?_
      refine lv_iconst (v := (nI 0)) hx hb dX12_read_19 rfl ?_
      refine lv_aload_n hx hb dX12_read_20 rfl (lv_at hl 0 rfl) ?_
      refine z_get (C := RX12) (T := TX12) (N := 51) (ci := 12) (v := .ref (za G 109)) hx hb hts hin12 hown hK hI (zo77 hG) rfl 48 (by decide) wF157 (fun _ h9 => h9) rfl dX12_read_21 ?_
      refine lv_iload_n hx hb dX12_read_24 rfl (lv_at hl 1 rfl) ?_
      refine z_iald (v := (nI (zszR x t))) hx hb hK hI (zo109 hG) t rfl (by omega) (by decide) (htp t ht).1 dX12_read_25 ?_
      refine lv_iconst (v := (nI 1)) hx hb dX12_read_26 rfl ?_
      refine lv_isub hx hb dX12_read_27 ?_
      refine z_calli (va_runV (As := [.int q, .int (nI 0), .int ((nI (zszR x t)) - (nI 1))]) (rest := []) ⟨hx, hb, hml, hown, hts⟩ ((c_X12_in l hG x q (nI 0) ((nI (zszR x t)) - (nI 1))) A) (cwV 3 hts gX12_read_X12_in rfl rfl rfl (by decide +kernel) ⟨Nat.le_of_ble_eq_true rfl, Nat.le_of_ble_eq_true rfl⟩) (z_pV hI hK hN (z_recv hK hI (zo77 hG) rfl)) rfl rfl hl.1 rfl (lv_room (Nat.le_of_ble_eq_true rfl)) dX12_read_28 ⟨Nat.zero_le _, Nat.zero_le _⟩) hI (fun r_28 u H locs hw hI => ?_)
      obtain ⟨rfl, rfl⟩ := hw
      refine lv_if_ne (tgt := 40) hx hb dX12_read_31 (by decide) (fun c_31 => ?_) (fun c_31 => ?_)
      · skip
        rw [zb_0, Classical.not_not] at c_31; rw [zin_n h60] at c_31
        obtain ⟨j, hj, rfl⟩ := z_ix c_31.1 c_31.2 (by omega)
        refine lv_aload_n hx hb dX12_read_40 rfl (lv_at hl 0 rfl) ?_
        refine z_get (C := RX12) (T := TX12) (N := 51) (ci := 12) (v := .ref (za G 110)) hx hb hts hin12 hown hK hI (zo77 hG) rfl 49 (by decide) wF160 (fun _ h9 => h9) rfl dX12_read_41 ?_
        refine lv_bipush (v := (nI 60)) hx hb dX12_read_44 rfl ?_
        refine lv_iload_n hx hb dX12_read_46 rfl (lv_at hl 1 rfl) ?_
        refine z_imul (v := (nI (60 * t))) hx hb (pk_mul _ _) dX12_read_47 ?_
        refine lv_iload_n hx hb dX12_read_48 rfl (lv_at hl 2 rfl) ?_
        refine z_iadd (v := (nI ((60 * t) + j))) hx hb (nI_add _ _) dX12_read_49 ?_
        refine z_lald (v := (x.2.1 110 ((60 * t) + j))) hx hb hK hI (zo110 hG) ((60 * t) + j) rfl (by omega) (by decide) rfl dX12_read_50 ?_
        exact z_lret hx hb hr hlocks hI (⟨rfl, Or.inr ⟨t, j, ht, rfl, c_14, hj, rfl, rfl⟩⟩) dX12_read_51
      · skip
        rw [zb_0] at c_31; rw [zin_n h60] at c_31
        refine lv_ldc2 (v := (-9223372036854775808)) hx hb hown wK322 dX12_read_34 ?_
        refine lv_goto (tgt := 51) hx hb dX12_read_37 (by decide) ?_
        exact z_lret hx hb hr hlocks hI (⟨rfl, Or.inl ⟨fun h => c_31 (by have h9 := h.2.2; rw [ec] at h9; exact h9), rfl⟩⟩) dX12_read_51
set_option maxHeartbeats 4000000 in
set_option maxRecDepth 100000 in
theorem c_X12_tape (l : Launch) {G : zG} (hG : zOK G) (x : zX) (t0 sr n : Int32)  : zMi l yX12_tape wsX12_tape { frames := 2, cells := 0, slots := 0, locals := 44 } G [.ref (za G 77), .int t0, .int sr, .int n] x (fun (r : Int32) (u : zX) => (¬ zin 6 t0 ∧ x = u ∧ -1 = r) ∨ (∃ tb, tb < 6 ∧ t0 = nI tb ∧ (((¬ (¬ sr < -1 ∧ ¬ nI 4 < sr) ∨ (¬ sr < 0 ∧ nI 60 < n)) ∧ x = u ∧ -2 = r) ∨ (¬ (¬ (¬ sr < -1 ∧ ¬ nI 4 < sr) ∨ (¬ sr < 0 ∧ nI 60 < n)) ∧ (¬ sr < 0 ∧ n < 0) ∧ x = u ∧ -14 = r) ∨ (¬ (¬ (¬ sr < -1 ∧ ¬ nI 4 < sr) ∨ (¬ sr < 0 ∧ nI 60 < n)) ∧ ¬ (¬ sr < 0 ∧ n < 0) ∧ zsrL (zsI (zsI x 108 tb sr) 109 tb (if sr < 0 then nI 0 else n)) 110 (zclr (x.2.1 110) (60 * tb) 60) = u ∧ nI 1 = r)))) := by
  intro A
  refine zBody (cc := cX12_tape) (maxL := 5) (ret := (some .int)) (by decide) rfl (Nat.le_of_ble_eq_true rfl) ?_
  intro p e s m below meth c hx hb hml hown hts hr hlocks hK hN hI ls hl
  have hown : s.vm.findClass RX12 = some m.cls := hown
  have hl : lv_has ls 5 [(0, .ref (za G 77)), (1, .int t0), (2, .int sr), (3, .int n)] := hl
  have hin12 : ∀ w ∈ wsX120, w ∈ wsX12_tape := (fun _ h => List.mem_cons_of_mem _ (List.mem_append_right _ (h)))
  have wF154 := hts (.fieldLink RX12 154 "WhoSitsByModel" "sort" "[I") (z_mem 1 rfl)
  have wF157 := hts (.fieldLink RX12 157 "WhoSitsByModel" "length" "[I") (z_mem 2 rfl)
  have wF160 := hts (.fieldLink RX12 160 "WhoSitsByModel" "item" "[J") (z_mem 3 rfl)
  refine lv_aload_n hx hb dX12_tape_0 rfl (lv_at hl 0 rfl) ?_
  refine lv_iload_n hx hb dX12_tape_1 rfl (lv_at hl 1 rfl) ?_
  refine z_calli (va_runV (As := [.int t0]) (rest := []) ⟨hx, hb, hml, hown, hts⟩ ((c_X12_isTape l hG x t0) A) (cwV 1 hts gX12_tape_X12_isTape rfl rfl rfl (by decide +kernel) ⟨Nat.le_of_ble_eq_true rfl, Nat.le_of_ble_eq_true rfl⟩) (z_pV hI hK hN (z_recv hK hI (zo77 hG) rfl)) rfl rfl hl.1 rfl (lv_room (Nat.le_of_ble_eq_true rfl)) dX12_tape_2 ⟨Nat.zero_le _, Nat.zero_le _⟩) hI (fun r_2 u H locs hw hI => ?_)
  obtain ⟨rfl, rfl⟩ := hw
  refine lv_if_ne (tgt := 10) hx hb dX12_tape_5 (by decide) (fun c_5 => ?_) (fun c_5 => ?_)
  · skip
    rw [zb_0, Classical.not_not] at c_5
    obtain ⟨t, ht, rfl⟩ := z_ix c_5.1 c_5.2 (by decide)
    refine lv_aload_n hx hb dX12_tape_10 rfl (lv_at hl 0 rfl) ?_
    refine lv_iload_n hx hb dX12_tape_11 rfl (lv_at hl 2 rfl) ?_
    refine lv_iconst (v := (-1)) hx hb dX12_tape_12 rfl ?_
    refine lv_iconst (v := (nI 4)) hx hb dX12_tape_13 rfl ?_
    refine z_calli (va_runV (As := [.int sr, .int (-1), .int (nI 4)]) (rest := []) ⟨hx, hb, hml, hown, hts⟩ ((c_X12_in l hG x sr (-1) (nI 4)) A) (cwV 3 hts gX12_tape_X12_in rfl rfl rfl (by decide +kernel) ⟨Nat.le_of_ble_eq_true rfl, Nat.le_of_ble_eq_true rfl⟩) (z_pV hI hK hN (z_recv hK hI (zo77 hG) rfl)) rfl rfl hl.1 rfl (lv_room (Nat.le_of_ble_eq_true rfl)) dX12_tape_14 ⟨Nat.zero_le _, Nat.zero_le _⟩) hI (fun r_14 u H locs hw hI => ?_)
    obtain ⟨rfl, rfl⟩ := hw
    refine lv_if_eq (tgt := 30) hx hb dX12_tape_17 (by decide) (fun c_17 => ?_) (fun c_17 => ?_)
    · skip
      rw [zb_0] at c_17
      refine lv_bipush (v := (-2)) hx hb dX12_tape_30 rfl ?_
      exact z_iret hx hb hr hlocks hI (Or.inr ⟨t, ht, rfl, Or.inl ⟨Or.inl c_17, rfl, rfl⟩⟩) dX12_tape_32
    · skip
      rw [zb_0, Classical.not_not] at c_17
      refine lv_iload_n hx hb dX12_tape_20 rfl (lv_at hl 2 rfl) ?_
      refine lv_if_lt (tgt := 33) hx hb dX12_tape_21 (by decide) (fun c_21 => ?_) (fun c_21 => ?_)
      · skip
        refine lv_iload_n hx hb dX12_tape_33 rfl (lv_at hl 2 rfl) ?_
        refine lv_if_lt (tgt := 44) hx hb dX12_tape_34 (by decide) (fun c_34 => ?_) (fun c_34 => ?_)
        · skip
          have hgood : ¬ (¬ (¬ sr < -1 ∧ ¬ nI 4 < sr) ∨ (¬ sr < 0 ∧ nI 60 < n)) := fun h => h.elim (fun h => h c_17) (fun h => h.1 c_21)
          have hgood2 : ¬ (¬ sr < 0 ∧ n < 0) := fun h => h.1 c_34
          refine lv_aload_n hx hb dX12_tape_44 rfl (lv_at hl 0 rfl) ?_
          refine z_get (C := RX12) (T := TX12) (N := 51) (ci := 12) (v := .ref (za G 108)) hx hb hts hin12 hown hK hI (zo77 hG) rfl 47 (by decide) wF154 (fun _ h9 => h9) rfl dX12_tape_45 ?_
          refine lv_iload_n hx hb dX12_tape_48 rfl (lv_at hl 1 rfl) ?_
          refine lv_iload_n hx hb dX12_tape_49 rfl (lv_at hl 2 rfl) ?_
          refine z_iast (y := sr) hx hb hK hI (zo108 hG) t rfl (by omega) (by decide) dX12_tape_50 (fun H locs hI => ?_)
          refine lv_aload_n hx hb dX12_tape_51 rfl (lv_at hl 0 rfl) ?_
          refine z_get (C := RX12) (T := TX12) (N := 51) (ci := 12) (v := .ref (za G 109)) hx hb hts hin12 hown hK hI (zo77 hG) rfl 48 (by decide) wF157 (fun _ h9 => h9) rfl dX12_tape_52 ?_
          refine lv_iload_n hx hb dX12_tape_55 rfl (lv_at hl 1 rfl) ?_
          refine lv_iload_n hx hb dX12_tape_56 rfl (lv_at hl 2 rfl) ?_
          refine lv_if_ge (tgt := 64) hx hb dX12_tape_57 (by decide) (fun c_57 => ?_) (fun c_57 => ?_)
          · skip
            exact absurd c_34 (z_nle c_57)
          · skip
            refine lv_iconst (v := (nI 0)) hx hb dX12_tape_60 rfl ?_
            refine lv_goto (tgt := 65) hx hb dX12_tape_61 (by decide) ?_
            refine z_iast (y := (nI 0)) hx hb hK hI (zo109 hG) t rfl (by omega) (by decide) dX12_tape_65 (fun H locs hI => ?_)
            refine lv_iconst (v := (nI 0)) hx hb dX12_tape_66 rfl ?_
            refine lv_istore (lv' := [(4, .int (nI 0)), (0, .ref (za G 77)), (1, .int (nI t)), (2, .int sr), (3, .int n)]) hx hb dX12_tape_67 hl (by decide) rfl (fun ls hl => ?_)
            have L69 : ∀ (f : Nat) (j : Nat) (u : zX), (j ≤ 60) → (zsrL (zsI (zsI x 108 t sr) 109 t (if sr < 0 then nI 0 else n)) 110 (zclr (x.2.1 110) (60 * t) j) = u) → 61 ≤ j + f → ∀ (H : Heap) (locs : List Loc), zI G u A s.heap H locs → ∀ ls : Array Slot, lv_has ls 5 [(0, .ref (za G 77)), (1, .int (nI t)), (4, .int (nI j))] → W p l e { frames := 2, cells := 0, slots := 0, locals := 44 } s m ([.ref (za G 77), .int (nI t), .int sr, .int n] : List Value).toArray below meth c H locs 0 0 (MQ below (va_Qi (fun (r : Int32) (u : zX) => (¬ zin 6 (nI t) ∧ x = u ∧ -1 = r) ∨ (∃ tb, tb < 6 ∧ (nI t) = nI tb ∧ (((¬ (¬ sr < -1 ∧ ¬ nI 4 < sr) ∨ (¬ sr < 0 ∧ nI 60 < n)) ∧ x = u ∧ -2 = r) ∨ (¬ (¬ (¬ sr < -1 ∧ ¬ nI 4 < sr) ∨ (¬ sr < 0 ∧ nI 60 < n)) ∧ (¬ sr < 0 ∧ n < 0) ∧ x = u ∧ -14 = r) ∨ (¬ (¬ (¬ sr < -1 ∧ ¬ nI 4 < sr) ∨ (¬ sr < 0 ∧ nI 60 < n)) ∧ ¬ (¬ sr < 0 ∧ n < 0) ∧ zsrL (zsI (zsI x 108 tb sr) 109 tb (if sr < 0 then nI 0 else n)) 110 (zclr (x.2.1 110) (60 * tb) 60) = u ∧ nI 1 = r)))) (fun u t => zJ G u A t.heap) A) ([.ref (za G 77), .int (nI t), .int sr, .int n] : List Value).toArray s 0 0 A) (F0 m 69 ls []) := by
              intro f
              induction f with
              | zero =>
                intro j u h1 hst hf
                exact absurd hf (by omega)
              | succ f ih =>
                intro j u h1 hst hf H locs hI ls hl
                have ih69 := ih
                refine lv_iload hx hb dX12_tape_69 (lv_at hl 2 rfl) ?_
                refine lv_bipush (v := (nI 60)) hx hb dX12_tape_71 rfl ?_
                refine lv_icmp_ge (tgt := 95) hx hb dX12_tape_73 (by decide) (fun c_73 => ?_) (fun c_73 => ?_)
                · skip
                  rw [zqG (by omega) (by omega)] at c_73
                  refine lv_iconst (v := (nI 1)) hx hb dX12_tape_95 rfl ?_
                  exact z_iret hx hb hr hlocks hI (Or.inr ⟨t, ht, rfl, Or.inr (Or.inr ⟨hgood, hgood2, (by rw [← hst, show j = 60 by omega]), rfl⟩)⟩) dX12_tape_96
                · skip
                  rw [zqG (by omega) (by omega)] at c_73
                  refine lv_aload_n hx hb dX12_tape_76 rfl (lv_at hl 0 rfl) ?_
                  refine z_get (C := RX12) (T := TX12) (N := 51) (ci := 12) (v := .ref (za G 110)) hx hb hts hin12 hown hK hI (zo77 hG) rfl 49 (by decide) wF160 (fun _ h9 => h9) rfl dX12_tape_77 ?_
                  refine lv_bipush (v := (nI 60)) hx hb dX12_tape_80 rfl ?_
                  refine lv_iload_n hx hb dX12_tape_82 rfl (lv_at hl 1 rfl) ?_
                  refine z_imul (v := (nI (60 * t))) hx hb (pk_mul _ _) dX12_tape_83 ?_
                  refine lv_iload hx hb dX12_tape_84 (lv_at hl 2 rfl) ?_
                  refine z_iadd (v := (nI ((60 * t) + j))) hx hb (nI_add _ _) dX12_tape_86 ?_
                  refine lv_lconst (v := 0) hx hb dX12_tape_87 rfl ?_
                  refine z_last (y := 0) hx hb hK hI (zo110 hG) ((60 * t) + j) rfl (by omega) (by decide) dX12_tape_88 (fun H locs hI => ?_)
                  refine lv_iinc (v := (nI (j + 1))) (lv' := [(4, .int (nI (j + 1))), (0, .ref (za G 77)), (1, .int (nI t))]) hx hb dX12_tape_89 hl (k := 2) rfl (zinc j) (by decide) rfl (fun ls hl => ?_)
                  refine lv_goto (tgt := 69) hx hb dX12_tape_92 (by decide) ?_
                  exact ih69 (j + 1) (zsL u 110 ((60 * t) + j) 0) (by omega) (by subst hst; rw [zsL_r, zsrL_u, zsrL_t, zclr_s]) (by omega) _ _ hI ls (lv_sub hl [1, 2, 0] rfl)
            exact L69 (61) 0 (zsI (zsI x 108 t sr) 109 t (nI 0)) (by omega) (by rw [zclr_0]; first | (rw [if_pos (z_le c_57)]; exact zsrL_e) | (rw [if_neg (z_nle c_57)]; exact zsrL_e)) (by omega) _ _ hI ls (lv_sub hl [1, 2, 0] rfl)
        · skip
          exact absurd c_21 c_34
      · skip
        refine lv_iload_n hx hb dX12_tape_24 rfl (lv_at hl 3 rfl) ?_
        refine lv_bipush (v := (nI 60)) hx hb dX12_tape_25 rfl ?_
        refine lv_icmp_le (tgt := 33) hx hb dX12_tape_27 (by decide) (fun c_27 => ?_) (fun c_27 => ?_)
        · skip
          refine lv_iload_n hx hb dX12_tape_33 rfl (lv_at hl 2 rfl) ?_
          refine lv_if_lt (tgt := 44) hx hb dX12_tape_34 (by decide) (fun c_34 => ?_) (fun c_34 => ?_)
          · skip
            exact absurd c_34 c_21
          · skip
            refine lv_iload_n hx hb dX12_tape_37 rfl (lv_at hl 3 rfl) ?_
            refine lv_if_ge (tgt := 44) hx hb dX12_tape_38 (by decide) (fun c_38 => ?_) (fun c_38 => ?_)
            · skip
              have hgood : ¬ (¬ (¬ sr < -1 ∧ ¬ nI 4 < sr) ∨ (¬ sr < 0 ∧ nI 60 < n)) := fun h => h.elim (fun h => h c_17) (fun h => z_nle c_27 h.2)
              have hgood2 : ¬ (¬ sr < 0 ∧ n < 0) := fun h => z_nle c_38 h.2
              refine lv_aload_n hx hb dX12_tape_44 rfl (lv_at hl 0 rfl) ?_
              refine z_get (C := RX12) (T := TX12) (N := 51) (ci := 12) (v := .ref (za G 108)) hx hb hts hin12 hown hK hI (zo77 hG) rfl 47 (by decide) wF154 (fun _ h9 => h9) rfl dX12_tape_45 ?_
              refine lv_iload_n hx hb dX12_tape_48 rfl (lv_at hl 1 rfl) ?_
              refine lv_iload_n hx hb dX12_tape_49 rfl (lv_at hl 2 rfl) ?_
              refine z_iast (y := sr) hx hb hK hI (zo108 hG) t rfl (by omega) (by decide) dX12_tape_50 (fun H locs hI => ?_)
              refine lv_aload_n hx hb dX12_tape_51 rfl (lv_at hl 0 rfl) ?_
              refine z_get (C := RX12) (T := TX12) (N := 51) (ci := 12) (v := .ref (za G 109)) hx hb hts hin12 hown hK hI (zo77 hG) rfl 48 (by decide) wF157 (fun _ h9 => h9) rfl dX12_tape_52 ?_
              refine lv_iload_n hx hb dX12_tape_55 rfl (lv_at hl 1 rfl) ?_
              refine lv_iload_n hx hb dX12_tape_56 rfl (lv_at hl 2 rfl) ?_
              refine lv_if_ge (tgt := 64) hx hb dX12_tape_57 (by decide) (fun c_57 => ?_) (fun c_57 => ?_)
              · skip
                refine lv_iload_n hx hb dX12_tape_64 rfl (lv_at hl 3 rfl) ?_
                refine z_iast (y := n) hx hb hK hI (zo109 hG) t rfl (by omega) (by decide) dX12_tape_65 (fun H locs hI => ?_)
                refine lv_iconst (v := (nI 0)) hx hb dX12_tape_66 rfl ?_
                refine lv_istore (lv' := [(4, .int (nI 0)), (0, .ref (za G 77)), (1, .int (nI t)), (2, .int sr), (3, .int n)]) hx hb dX12_tape_67 hl (by decide) rfl (fun ls hl => ?_)
                have L69 : ∀ (f : Nat) (j : Nat) (u : zX), (j ≤ 60) → (zsrL (zsI (zsI x 108 t sr) 109 t (if sr < 0 then nI 0 else n)) 110 (zclr (x.2.1 110) (60 * t) j) = u) → 61 ≤ j + f → ∀ (H : Heap) (locs : List Loc), zI G u A s.heap H locs → ∀ ls : Array Slot, lv_has ls 5 [(0, .ref (za G 77)), (1, .int (nI t)), (4, .int (nI j))] → W p l e { frames := 2, cells := 0, slots := 0, locals := 44 } s m ([.ref (za G 77), .int (nI t), .int sr, .int n] : List Value).toArray below meth c H locs 0 0 (MQ below (va_Qi (fun (r : Int32) (u : zX) => (¬ zin 6 (nI t) ∧ x = u ∧ -1 = r) ∨ (∃ tb, tb < 6 ∧ (nI t) = nI tb ∧ (((¬ (¬ sr < -1 ∧ ¬ nI 4 < sr) ∨ (¬ sr < 0 ∧ nI 60 < n)) ∧ x = u ∧ -2 = r) ∨ (¬ (¬ (¬ sr < -1 ∧ ¬ nI 4 < sr) ∨ (¬ sr < 0 ∧ nI 60 < n)) ∧ (¬ sr < 0 ∧ n < 0) ∧ x = u ∧ -14 = r) ∨ (¬ (¬ (¬ sr < -1 ∧ ¬ nI 4 < sr) ∨ (¬ sr < 0 ∧ nI 60 < n)) ∧ ¬ (¬ sr < 0 ∧ n < 0) ∧ zsrL (zsI (zsI x 108 tb sr) 109 tb (if sr < 0 then nI 0 else n)) 110 (zclr (x.2.1 110) (60 * tb) 60) = u ∧ nI 1 = r)))) (fun u t => zJ G u A t.heap) A) ([.ref (za G 77), .int (nI t), .int sr, .int n] : List Value).toArray s 0 0 A) (F0 m 69 ls []) := by
                  intro f
                  induction f with
                  | zero =>
                    intro j u h1 hst hf
                    exact absurd hf (by omega)
                  | succ f ih =>
                    intro j u h1 hst hf H locs hI ls hl
                    have ih69 := ih
                    refine lv_iload hx hb dX12_tape_69 (lv_at hl 2 rfl) ?_
                    refine lv_bipush (v := (nI 60)) hx hb dX12_tape_71 rfl ?_
                    refine lv_icmp_ge (tgt := 95) hx hb dX12_tape_73 (by decide) (fun c_73 => ?_) (fun c_73 => ?_)
                    · skip
                      rw [zqG (by omega) (by omega)] at c_73
                      refine lv_iconst (v := (nI 1)) hx hb dX12_tape_95 rfl ?_
                      exact z_iret hx hb hr hlocks hI (Or.inr ⟨t, ht, rfl, Or.inr (Or.inr ⟨hgood, hgood2, (by rw [← hst, show j = 60 by omega]), rfl⟩)⟩) dX12_tape_96
                    · skip
                      rw [zqG (by omega) (by omega)] at c_73
                      refine lv_aload_n hx hb dX12_tape_76 rfl (lv_at hl 0 rfl) ?_
                      refine z_get (C := RX12) (T := TX12) (N := 51) (ci := 12) (v := .ref (za G 110)) hx hb hts hin12 hown hK hI (zo77 hG) rfl 49 (by decide) wF160 (fun _ h9 => h9) rfl dX12_tape_77 ?_
                      refine lv_bipush (v := (nI 60)) hx hb dX12_tape_80 rfl ?_
                      refine lv_iload_n hx hb dX12_tape_82 rfl (lv_at hl 1 rfl) ?_
                      refine z_imul (v := (nI (60 * t))) hx hb (pk_mul _ _) dX12_tape_83 ?_
                      refine lv_iload hx hb dX12_tape_84 (lv_at hl 2 rfl) ?_
                      refine z_iadd (v := (nI ((60 * t) + j))) hx hb (nI_add _ _) dX12_tape_86 ?_
                      refine lv_lconst (v := 0) hx hb dX12_tape_87 rfl ?_
                      refine z_last (y := 0) hx hb hK hI (zo110 hG) ((60 * t) + j) rfl (by omega) (by decide) dX12_tape_88 (fun H locs hI => ?_)
                      refine lv_iinc (v := (nI (j + 1))) (lv' := [(4, .int (nI (j + 1))), (0, .ref (za G 77)), (1, .int (nI t))]) hx hb dX12_tape_89 hl (k := 2) rfl (zinc j) (by decide) rfl (fun ls hl => ?_)
                      refine lv_goto (tgt := 69) hx hb dX12_tape_92 (by decide) ?_
                      exact ih69 (j + 1) (zsL u 110 ((60 * t) + j) 0) (by omega) (by subst hst; rw [zsL_r, zsrL_u, zsrL_t, zclr_s]) (by omega) _ _ hI ls (lv_sub hl [1, 2, 0] rfl)
                exact L69 (61) 0 (zsI (zsI x 108 t sr) 109 t n) (by omega) (by rw [zclr_0]; first | (rw [if_pos (z_le c_57)]; exact zsrL_e) | (rw [if_neg (z_nle c_57)]; exact zsrL_e)) (by omega) _ _ hI ls (lv_sub hl [1, 2, 0] rfl)
              · skip
                exact absurd (z_le c_57) c_34
            · skip
              refine lv_bipush (v := (-14)) hx hb dX12_tape_41 rfl ?_
              exact z_iret hx hb hr hlocks hI (Or.inr ⟨t, ht, rfl, Or.inr (Or.inl ⟨fun h => h.elim (fun h => h c_17) (fun h => z_nle c_27 h.2), ⟨c_34, z_le c_38⟩, rfl, rfl⟩)⟩) dX12_tape_43
        · skip
          refine lv_bipush (v := (-2)) hx hb dX12_tape_30 rfl ?_
          exact z_iret hx hb hr hlocks hI (Or.inr ⟨t, ht, rfl, Or.inl ⟨Or.inr ⟨c_21, z_le c_27⟩, rfl, rfl⟩⟩) dX12_tape_32
  · skip
    rw [zb_0] at c_5
    refine lv_iconst (v := (-1)) hx hb dX12_tape_8 rfl ?_
    exact z_iret hx hb hr hlocks hI (Or.inl ⟨c_5, rfl, rfl⟩) dX12_tape_9
