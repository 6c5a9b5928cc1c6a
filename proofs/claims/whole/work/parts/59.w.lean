set_option maxHeartbeats 1000000 in
set_option maxRecDepth 100000 in
theorem c_X5_isSo (l : Launch) {G : zG} (hG : zOK G) (x : zX) (b q : Nat) (hb0 : zRm b) (hq : q < 2100) : zMi l yX5_isSo wsX5_isSo { frames := 0, cells := 0, slots := 0, locals := 0 } G [.ref (za G b), .int (nI q)] x (fun (r : Int32) (u : zX) => x = u ∧ (if zso x b q then nI 1 else nI 0) = r) := by
  intro A
  refine zBody (cc := cX5_isSo) (maxL := 4) (ret := (some .boolean)) (by decide) rfl (Nat.le_of_ble_eq_true rfl) ?_
  intro p e s m below meth c hx hb hml hown hts hr hlocks hK hN hI ls hl
  have hown : s.vm.findClass RX5 = some m.cls := hown
  have hl : lv_has ls 4 [(0, .ref (za G b)), (1, .int (nI q))] := hl
  have hin5 : ∀ w ∈ wsX50, w ∈ wsX5_isSo := (fun _ h => List.mem_cons_of_mem _ (List.mem_append_right _ (h)))
  have wF32 := hts (.fieldLink RX5 32 "WhoSitsBy$Room" "facts" "[I") (z_mem 1 rfl)
  refine lv_iload_n hx hb dX5_isSo_0 rfl (lv_at hl 1 rfl) ?_
  refine lv_sipush (v := (nI 300)) hx hb dX5_isSo_1 rfl ?_
  refine z_idiv (v := (nI (q / 300))) hx hb (pk_div (by omega) (by omega) (by omega)) dX5_isSo_4 (by decide) ?_
  refine lv_istore_n (lv' := [(2, .int (nI (q / 300))), (0, .ref (za G b)), (1, .int (nI q))]) hx hb dX5_isSo_5 rfl hl (by decide) rfl (fun ls hl => ?_)
  refine lv_iload_n hx hb dX5_isSo_6 rfl (lv_at hl 0 rfl) ?_
  refine lv_if_lt (tgt := 19) hx hb dX5_isSo_7 (by decide) (fun c_7 => ?_) (fun c_7 => ?_)
  · skip
    rw [show (0 : Int32) = nI 0 from rfl] at c_7; rw [zqL (by omega) (by omega)] at c_7
    exact absurd c_7 (by omega)
  · skip
    rw [show (0 : Int32) = nI 0 from rfl] at c_7; rw [zqL (by omega) (by omega)] at c_7
    refine lv_iload_n hx hb dX5_isSo_10 rfl (lv_at hl 0 rfl) ?_
    refine lv_aload_n hx hb dX5_isSo_11 rfl (lv_at hl 1 rfl) ?_
    refine z_get (C := RX5) (T := TX5) (N := 11) (ci := 5) (v := .ref (za G (b + 6))) hx hb hts hin5 hown hK hI (zor hG hb0) rfl 10 (by decide) wF32 (fun _ h9 => h9) rfl dX5_isSo_12 ?_
    refine z_alen (v := nI 7) hx hb hK hI 0 (zor6 hG hb0).1 ((zor6 hG hb0).2 _) rfl rfl dX5_isSo_15 ?_
    refine lv_icmp_lt (tgt := 21) hx hb dX5_isSo_16 (by decide) (fun c_16 => ?_) (fun c_16 => ?_)
    · skip
      rw [zqL (by omega) (by omega)] at c_16
      refine lv_iload_n hx hb dX5_isSo_21 rfl (lv_at hl 2 rfl) ?_
      refine lv_bipush (v := (nI 100)) hx hb dX5_isSo_22 rfl ?_
      refine z_irem (v := (nI (q % 100))) hx hb (pk_rem (by omega) (by omega) (by omega)) dX5_isSo_24 (by decide) ?_
      refine lv_istore_n (lv' := [(3, .int (nI (q % 100))), (2, .int (nI (q / 300))), (0, .ref (za G b)), (1, .int (nI q))]) hx hb dX5_isSo_25 rfl hl (by decide) rfl (fun ls hl => ?_)
      refine lv_iload_n hx hb dX5_isSo_26 rfl (lv_at hl 3 rfl) ?_
      refine lv_bipush (v := (nI 100)) hx hb dX5_isSo_27 rfl ?_
      refine z_idiv (v := (nI (q / 100))) hx hb (pk_div (by omega) (by omega) (by omega)) dX5_isSo_29 (by decide) ?_
      refine lv_iconst (v := (nI 3)) hx hb dX5_isSo_30 rfl ?_
      refine z_irem (v := (nI (q / 100 % 3))) hx hb (pk_rem (by omega) (by omega) (by omega)) dX5_isSo_31 (by decide) ?_
      by_cases q32_0 : (nI (q / 100 % 3)) = (nI 0)
      · skip
        refine lv_lookup (off := 28) (tgt := 60) hx hb dX5_isSo_32 (by decide) (by rw [q32_0]; decide) (by decide) ?_
        refine lv_aload_n hx hb dX5_isSo_60 rfl (lv_at hl 2 rfl) ?_
        refine z_get (C := RX5) (T := TX5) (N := 11) (ci := 5) (v := .ref (za G (b + 6))) hx hb hts hin5 hown hK hI (zor hG hb0) rfl 10 (by decide) wF32 (fun _ h9 => h9) rfl dX5_isSo_61 ?_
        refine lv_iload_n hx hb dX5_isSo_64 rfl (lv_at hl 1 rfl) ?_
        refine z_iald (v := (x.1 (b + 6) (q / 300))) hx hb hK hI (zor6 hG hb0) (q / 300) rfl (by omega) (by decide) rfl dX5_isSo_65 ?_
        refine lv_iload_n hx hb dX5_isSo_66 rfl (lv_at hl 0 rfl) ?_
        refine lv_icmp_ge (tgt := 74) hx hb dX5_isSo_67 (by decide) (fun c_67 => ?_) (fun c_67 => ?_)
        · skip
          refine lv_iconst (v := (nI 0)) hx hb dX5_isSo_74 rfl ?_
          exact z_zret hx hb hr hlocks hI (Or.inl rfl) (⟨rfl, if_neg (by rintro (h | h | h); exact z_nle c_67 h.2; exact h.1 q32_0; exact h.1 q32_0)⟩) dX5_isSo_75
        · skip
          refine lv_iconst (v := (nI 1)) hx hb dX5_isSo_70 rfl ?_
          refine lv_goto (tgt := 75) hx hb dX5_isSo_71 (by decide) ?_
          exact z_zret hx hb hr hlocks hI (Or.inr rfl) (⟨rfl, if_pos (Or.inl ⟨q32_0, z_le c_67⟩)⟩) dX5_isSo_75
      by_cases q32_1 : (nI (q / 100 % 3)) = (nI 1)
      · skip
        refine lv_lookup (off := 44) (tgt := 76) hx hb dX5_isSo_32 (by decide) (by rw [q32_1]; decide) (by decide) ?_
        refine lv_aload_n hx hb dX5_isSo_76 rfl (lv_at hl 2 rfl) ?_
        refine z_get (C := RX5) (T := TX5) (N := 11) (ci := 5) (v := .ref (za G (b + 6))) hx hb hts hin5 hown hK hI (zor hG hb0) rfl 10 (by decide) wF32 (fun _ h9 => h9) rfl dX5_isSo_77 ?_
        refine lv_iload_n hx hb dX5_isSo_80 rfl (lv_at hl 1 rfl) ?_
        refine z_iald (v := (x.1 (b + 6) (q / 300))) hx hb hK hI (zor6 hG hb0) (q / 300) rfl (by omega) (by decide) rfl dX5_isSo_81 ?_
        refine lv_iload_n hx hb dX5_isSo_82 rfl (lv_at hl 0 rfl) ?_
        refine lv_icmp_ne (tgt := 90) hx hb dX5_isSo_83 (by decide) (fun c_83 => ?_) (fun c_83 => ?_)
        · skip
          refine lv_iconst (v := (nI 0)) hx hb dX5_isSo_90 rfl ?_
          exact z_zret hx hb hr hlocks hI (Or.inl rfl) (⟨rfl, if_neg (by rintro (h | h | h); exact q32_0 h.1; exact c_83 h.2.2; exact h.2.1 q32_1)⟩) dX5_isSo_91
        · skip
          refine lv_iconst (v := (nI 1)) hx hb dX5_isSo_86 rfl ?_
          refine lv_goto (tgt := 91) hx hb dX5_isSo_87 (by decide) ?_
          exact z_zret hx hb hr hlocks hI (Or.inr rfl) (⟨rfl, if_pos (Or.inr (Or.inl ⟨q32_0, q32_1, c_83⟩))⟩) dX5_isSo_91
      refine lv_lookup (off := 60) (tgt := 92) hx hb dX5_isSo_32 (by decide) ((lv_osw (k := nI 0) q32_0 rfl).trans ((lv_osw (k := nI 1) q32_1 rfl).trans (rfl))) (by decide) ?_
      refine lv_aload_n hx hb dX5_isSo_92 rfl (lv_at hl 2 rfl) ?_
      refine z_get (C := RX5) (T := TX5) (N := 11) (ci := 5) (v := .ref (za G (b + 6))) hx hb hts hin5 hown hK hI (zor hG hb0) rfl 10 (by decide) wF32 (fun _ h9 => h9) rfl dX5_isSo_93 ?_
      refine lv_iload_n hx hb dX5_isSo_96 rfl (lv_at hl 1 rfl) ?_
      refine z_iald (v := (x.1 (b + 6) (q / 300))) hx hb hK hI (zor6 hG hb0) (q / 300) rfl (by omega) (by decide) rfl dX5_isSo_97 ?_
      refine lv_iload_n hx hb dX5_isSo_98 rfl (lv_at hl 0 rfl) ?_
      refine lv_icmp_le (tgt := 106) hx hb dX5_isSo_99 (by decide) (fun c_99 => ?_) (fun c_99 => ?_)
      · skip
        refine lv_iconst (v := (nI 0)) hx hb dX5_isSo_106 rfl ?_
        exact z_zret hx hb hr hlocks hI (Or.inl rfl) (⟨rfl, if_neg (by rintro (h | h | h); exact q32_0 h.1; exact q32_1 h.2.1; exact z_nle c_99 h.2.2)⟩) dX5_isSo_107
      · skip
        refine lv_iconst (v := (nI 1)) hx hb dX5_isSo_102 rfl ?_
        refine lv_goto (tgt := 107) hx hb dX5_isSo_103 (by decide) ?_
        exact z_zret hx hb hr hlocks hI (Or.inr rfl) (⟨rfl, if_pos (Or.inr (Or.inr ⟨q32_0, q32_1, z_le c_99⟩))⟩) dX5_isSo_107
    · skip
      rw [zqL (by omega) (by omega)] at c_16
      exact absurd c_16 (by omega)
set_option maxHeartbeats 1000000 in
set_option maxRecDepth 100000 in
theorem c_X5_holds (l : Launch) {G : zG} (hG : zOK G) (x : zX) (b fr en : Nat) (hb0 : zRm b) (hfr : fr ≤ 100) (hen : en ≤ 100) (hcd : ∀ c, c < en → zcdO (x.1 (b + 4) c)) : zMi l yX5_holds wsX5_holds { frames := 1, cells := 0, slots := 0, locals := 40 } G [.ref (za G b), .int (nI fr), .int (nI en)] x (fun (r : Int32) (u : zX) => x = u ∧ (if zhd x b fr en then nI 1 else nI 0) = r) := by
  intro A
  refine zBody (cc := cX5_holds) (maxL := 6) (ret := (some .boolean)) (by decide) rfl (Nat.le_of_ble_eq_true rfl) ?_
  intro p e s m below meth c hx hb hml hown hts hr hlocks hK hN hI ls hl
  have hown : s.vm.findClass RX5 = some m.cls := hown
  have hl : lv_has ls 6 [(0, .ref (za G b)), (1, .int (nI fr)), (2, .int (nI en))] := hl
  have hin5 : ∀ w ∈ wsX50, w ∈ wsX5_holds := (fun _ h => List.mem_cons_of_mem _ (List.mem_append_right _ (h)))
  have wM41 := hts (.methodLink RX5 41 Lib.Math.max.name) (z_mem 1 rfl)
  have wMs41 := hts (.static Lib.Math.max.name) (z_mem 2 rfl)
  have wMi := hts (.initialized "java/lang/Math") (z_mem 3 rfl)
  have wMc41 := hts (.code Lib.Math.max.name Lib.Math.max.code 2 (some .int)) (z_mem 4 rfl)
  have wF21 := hts (.fieldLink RX5 21 "WhoSitsBy$Room" "codes" "[I") (z_mem 5 rfl)
  refine lv_iconst (v := (nI 0)) hx hb dX5_holds_0 rfl ?_
  refine lv_istore_n (lv' := [(3, .int (nI 0)), (0, .ref (za G b)), (1, .int (nI fr)), (2, .int (nI en))]) hx hb dX5_holds_1 rfl hl (by decide) rfl (fun ls hl => ?_)
  refine lv_iconst (v := (nI 0)) hx hb dX5_holds_2 rfl ?_
  refine lv_iload_n hx hb dX5_holds_3 rfl (lv_at hl 2 rfl) ?_
  refine va_mmax hx hb (hml.trans hl.1.symm) hown wM41 wMs41 wMi wMc41 (Nat.le_of_ble_eq_true rfl) (Nat.le_of_ble_eq_true rfl) (Nat.zero_le _) (Nat.zero_le _) dX5_holds_4 ?_
  rw [z_max0 (n := fr) (by omega)]
  refine lv_istore (lv' := [(4, .int (nI fr)), (3, .int (nI 0)), (0, .ref (za G b)), (1, .int (nI fr)), (2, .int (nI en))]) hx hb dX5_holds_7 hl (by decide) rfl (fun ls hl => ?_)
  have L9 : ∀ (f : Nat) (c1 : Nat) (s1 : Int32), (fr ≤ c1) → (c1 = fr ∨ c1 ≤ en) → (s1 = zhf x b fr (c1 - fr)) → 201 ≤ c1 + f → ∀ (H : Heap) (locs : List Loc), zI G x A s.heap H locs → ∀ ls : Array Slot, lv_has ls 6 [(0, .ref (za G b)), (1, .int (nI fr)), (2, .int (nI en)), (3, .int s1), (4, .int (nI c1))] → W p l e { frames := 1, cells := 0, slots := 0, locals := 40 } s m ([.ref (za G b), .int (nI fr), .int (nI en)] : List Value).toArray below meth c H locs 0 0 (MQ below (va_Qi (fun (r : Int32) (u : zX) => x = u ∧ (if zhd x b fr en then nI 1 else nI 0) = r) (fun u t => zJ G u A t.heap) A) ([.ref (za G b), .int (nI fr), .int (nI en)] : List Value).toArray s 0 0 A) (F0 m 9 ls []) := by
    intro f
    induction f with
    | zero =>
      intro c1 s1 h0 h1 h2 hf
      exact absurd hf (by omega)
    | succ f ih =>
      intro c1 s1 h0 h1 h2 hf H locs hI ls hl
      have ih9 := ih
      refine lv_iload hx hb dX5_holds_9 (lv_at hl 4 rfl) ?_
      refine lv_iload_n hx hb dX5_holds_11 rfl (lv_at hl 2 rfl) ?_
      refine lv_icmp_ge (tgt := 107) hx hb dX5_holds_12 (by decide) (fun c_12 => ?_) (fun c_12 => ?_)
      · skip
        rw [zqG (by omega) (by omega)] at c_12
        have e9 : zhf x b fr (en - fr) = s1 := by rw [h2, show c1 - fr = en - fr by omega]
        refine lv_iload_n hx hb dX5_holds_107 rfl (lv_at hl 3 rfl) ?_
        refine lv_iconst (v := (nI 1)) hx hb dX5_holds_108 rfl ?_
        refine lv_iand hx hb dX5_holds_109 ?_
        refine lv_if_eq (tgt := 117) hx hb dX5_holds_110 (by decide) (fun c_110 => ?_) (fun c_110 => ?_)
        · skip
          refine lv_iconst (v := (nI 0)) hx hb dX5_holds_117 rfl ?_
          exact z_zret hx hb hr hlocks hI (Or.inl rfl) (⟨rfl, if_neg (fun h => h (by rw [e9]; exact c_110))⟩) dX5_holds_118
        · skip
          refine lv_iconst (v := (nI 1)) hx hb dX5_holds_113 rfl ?_
          refine lv_goto (tgt := 118) hx hb dX5_holds_114 (by decide) ?_
          exact z_zret hx hb hr hlocks hI (Or.inr rfl) (⟨rfl, if_pos (by show ¬ (zhf x b fr (en - fr) &&& nI 1) = 0; rw [e9]; exact c_110)⟩) dX5_holds_118
      · skip
        rw [zqG (by omega) (by omega)] at c_12
        refine lv_iload hx hb dX5_holds_15 (lv_at hl 4 rfl) ?_
        refine lv_aload_n hx hb dX5_holds_17 rfl (lv_at hl 0 rfl) ?_
        refine z_get (C := RX5) (T := TX5) (N := 11) (ci := 5) (v := .ref (za G (b + 4))) hx hb hts hin5 hown hK hI (zor hG hb0) rfl 3 (by decide) wF21 (fun _ h9 => h9) rfl dX5_holds_18 ?_
        refine z_alen (v := nI 100) hx hb hK hI 0 (zor4 hG hb0).1 ((zor4 hG hb0).2 _) rfl rfl dX5_holds_21 ?_
        refine lv_icmp_ge (tgt := 107) hx hb dX5_holds_22 (by decide) (fun c_22 => ?_) (fun c_22 => ?_)
        · skip
          rw [zqG (by omega) (by omega)] at c_22
          exact absurd c_22 (by omega)
        · skip
          rw [zqG (by omega) (by omega)] at c_22
          rcases hcd c1 (by omega) with hA | hA | hA | ⟨q1, hq1, hA⟩
          · skip
            refine lv_aload_n hx hb dX5_holds_25 rfl (lv_at hl 0 rfl) ?_
            refine z_get (C := RX5) (T := TX5) (N := 11) (ci := 5) (v := .ref (za G (b + 4))) hx hb hts hin5 hown hK hI (zor hG hb0) rfl 3 (by decide) wF21 (fun _ h9 => h9) rfl dX5_holds_26 ?_
            refine lv_iload hx hb dX5_holds_29 (lv_at hl 4 rfl) ?_
            refine z_iald (v := (-1)) hx hb hK hI (zor4 hG hb0) c1 rfl (by omega) (by decide) hA dX5_holds_31 ?_
            refine lv_istore (lv' := [(5, .int (-1)), (0, .ref (za G b)), (1, .int (nI fr)), (2, .int (nI en)), (3, .int s1), (4, .int (nI c1))]) hx hb dX5_holds_32 hl (by decide) rfl (fun ls hl => ?_)
            refine lv_iload hx hb dX5_holds_34 (lv_at hl 0 rfl) ?_
            refine lv_if_lt (tgt := 61) hx hb dX5_holds_36 (by decide) (fun c_36 => ?_) (fun c_36 => ?_)
            · skip
              refine lv_iload hx hb dX5_holds_61 (lv_at hl 0 rfl) ?_
              refine lv_iconst (v := (-1)) hx hb dX5_holds_63 rfl ?_
              refine lv_icmp_ne (tgt := 74) hx hb dX5_holds_64 (by decide) (fun c_64 => ?_) (fun c_64 => ?_)
              · skip
                exact absurd rfl c_64
              · skip
                refine lv_iload_n hx hb dX5_holds_67 rfl (lv_at hl 4 rfl) ?_
                refine lv_iconst (v := (nI 1)) hx hb dX5_holds_68 rfl ?_
                refine lv_ixor hx hb dX5_holds_69 ?_
                refine lv_istore_n (lv' := [(3, .int (s1 ^^^ (nI 1))), (5, .int (-1)), (0, .ref (za G b)), (1, .int (nI fr)), (2, .int (nI en)), (4, .int (nI c1))]) hx hb dX5_holds_70 rfl hl (by decide) rfl (fun ls hl => ?_)
                refine lv_goto (tgt := 101) hx hb dX5_holds_71 (by decide) ?_
                refine lv_iinc (v := (nI (c1 + 1))) (lv' := [(4, .int (nI (c1 + 1))), (3, .int (s1 ^^^ (nI 1))), (5, .int (-1)), (0, .ref (za G b)), (1, .int (nI fr)), (2, .int (nI en))]) hx hb dX5_holds_101 hl (k := 5) rfl (zinc c1) (by decide) rfl (fun ls hl => ?_)
                refine lv_goto (tgt := 9) hx hb dX5_holds_104 (by decide) ?_
                exact ih9 (c1 + 1) (s1 ^^^ (nI 1)) (by omega) (by omega) (zhf_s h0 h2 (by rw [hA]; exact rfl)) (by omega) _ _ hI ls (lv_sub hl [3, 4, 5, 1, 0] rfl)
            · skip
              exact absurd (by decide) c_36
          · skip
            refine lv_aload_n hx hb dX5_holds_25 rfl (lv_at hl 0 rfl) ?_
            refine z_get (C := RX5) (T := TX5) (N := 11) (ci := 5) (v := .ref (za G (b + 4))) hx hb hts hin5 hown hK hI (zor hG hb0) rfl 3 (by decide) wF21 (fun _ h9 => h9) rfl dX5_holds_26 ?_
            refine lv_iload hx hb dX5_holds_29 (lv_at hl 4 rfl) ?_
            refine z_iald (v := (-2)) hx hb hK hI (zor4 hG hb0) c1 rfl (by omega) (by decide) hA dX5_holds_31 ?_
            refine lv_istore (lv' := [(5, .int (-2)), (0, .ref (za G b)), (1, .int (nI fr)), (2, .int (nI en)), (3, .int s1), (4, .int (nI c1))]) hx hb dX5_holds_32 hl (by decide) rfl (fun ls hl => ?_)
            refine lv_iload hx hb dX5_holds_34 (lv_at hl 0 rfl) ?_
            refine lv_if_lt (tgt := 61) hx hb dX5_holds_36 (by decide) (fun c_36 => ?_) (fun c_36 => ?_)
            · skip
              refine lv_iload hx hb dX5_holds_61 (lv_at hl 0 rfl) ?_
              refine lv_iconst (v := (-1)) hx hb dX5_holds_63 rfl ?_
              refine lv_icmp_ne (tgt := 74) hx hb dX5_holds_64 (by decide) (fun c_64 => ?_) (fun c_64 => ?_)
              · skip
                refine lv_iload hx hb dX5_holds_74 (lv_at hl 0 rfl) ?_
                refine lv_bipush (v := (-2)) hx hb dX5_holds_76 rfl ?_
                refine lv_icmp_ne (tgt := 93) hx hb dX5_holds_78 (by decide) (fun c_78 => ?_) (fun c_78 => ?_)
                · skip
                  exact absurd rfl c_78
                · skip
                  refine lv_iload_n hx hb dX5_holds_81 rfl (lv_at hl 4 rfl) ?_
                  refine lv_iconst (v := (nI 1)) hx hb dX5_holds_82 rfl ?_
                  refine lv_ishr hx hb dX5_holds_83 ?_
                  refine lv_iload_n hx hb dX5_holds_84 rfl (lv_at hl 4 rfl) ?_
                  refine lv_bipush (v := (-2)) hx hb dX5_holds_85 rfl ?_
                  refine lv_ior hx hb dX5_holds_87 ?_
                  refine lv_iand hx hb dX5_holds_88 ?_
                  refine lv_istore_n (lv' := [(3, .int ((s1 >>> ((nI 1) &&& 31)) &&& (s1 ||| (-2)))), (5, .int (-2)), (0, .ref (za G b)), (1, .int (nI fr)), (2, .int (nI en)), (4, .int (nI c1))]) hx hb dX5_holds_89 rfl hl (by decide) rfl (fun ls hl => ?_)
                  refine lv_goto (tgt := 101) hx hb dX5_holds_90 (by decide) ?_
                  refine lv_iinc (v := (nI (c1 + 1))) (lv' := [(4, .int (nI (c1 + 1))), (3, .int ((s1 >>> ((nI 1) &&& 31)) &&& (s1 ||| (-2)))), (5, .int (-2)), (0, .ref (za G b)), (1, .int (nI fr)), (2, .int (nI en))]) hx hb dX5_holds_101 hl (k := 5) rfl (zinc c1) (by decide) rfl (fun ls hl => ?_)
                  refine lv_goto (tgt := 9) hx hb dX5_holds_104 (by decide) ?_
                  exact ih9 (c1 + 1) ((s1 >>> ((nI 1) &&& 31)) &&& (s1 ||| (-2))) (by omega) (by omega) (zhf_s h0 h2 (by rw [hA]; exact rfl)) (by omega) _ _ hI ls (lv_sub hl [3, 4, 5, 1, 0] rfl)
              · skip
                exact absurd c_64 (by decide)
            · skip
              exact absurd (by decide) c_36
          · skip
            refine lv_aload_n hx hb dX5_holds_25 rfl (lv_at hl 0 rfl) ?_
            refine z_get (C := RX5) (T := TX5) (N := 11) (ci := 5) (v := .ref (za G (b + 4))) hx hb hts hin5 hown hK hI (zor hG hb0) rfl 3 (by decide) wF21 (fun _ h9 => h9) rfl dX5_holds_26 ?_
            refine lv_iload hx hb dX5_holds_29 (lv_at hl 4 rfl) ?_
            refine z_iald (v := (-3)) hx hb hK hI (zor4 hG hb0) c1 rfl (by omega) (by decide) hA dX5_holds_31 ?_
            refine lv_istore (lv' := [(5, .int (-3)), (0, .ref (za G b)), (1, .int (nI fr)), (2, .int (nI en)), (3, .int s1), (4, .int (nI c1))]) hx hb dX5_holds_32 hl (by decide) rfl (fun ls hl => ?_)
            refine lv_iload hx hb dX5_holds_34 (lv_at hl 0 rfl) ?_
            refine lv_if_lt (tgt := 61) hx hb dX5_holds_36 (by decide) (fun c_36 => ?_) (fun c_36 => ?_)
            · skip
              refine lv_iload hx hb dX5_holds_61 (lv_at hl 0 rfl) ?_
              refine lv_iconst (v := (-1)) hx hb dX5_holds_63 rfl ?_
              refine lv_icmp_ne (tgt := 74) hx hb dX5_holds_64 (by decide) (fun c_64 => ?_) (fun c_64 => ?_)
              · skip
                refine lv_iload hx hb dX5_holds_74 (lv_at hl 0 rfl) ?_
                refine lv_bipush (v := (-2)) hx hb dX5_holds_76 rfl ?_
                refine lv_icmp_ne (tgt := 93) hx hb dX5_holds_78 (by decide) (fun c_78 => ?_) (fun c_78 => ?_)
                · skip
                  refine lv_iload_n hx hb dX5_holds_93 rfl (lv_at hl 4 rfl) ?_
                  refine lv_iconst (v := (nI 1)) hx hb dX5_holds_94 rfl ?_
                  refine lv_ishr hx hb dX5_holds_95 ?_
                  refine lv_iload_n hx hb dX5_holds_96 rfl (lv_at hl 4 rfl) ?_
                  refine lv_iconst (v := (nI 1)) hx hb dX5_holds_97 rfl ?_
                  refine lv_iand hx hb dX5_holds_98 ?_
                  refine lv_ior hx hb dX5_holds_99 ?_
                  refine lv_istore_n (lv' := [(3, .int ((s1 >>> ((nI 1) &&& 31)) ||| (s1 &&& (nI 1)))), (5, .int (-3)), (0, .ref (za G b)), (1, .int (nI fr)), (2, .int (nI en)), (4, .int (nI c1))]) hx hb dX5_holds_100 rfl hl (by decide) rfl (fun ls hl => ?_)
                  refine lv_iinc (v := (nI (c1 + 1))) (lv' := [(4, .int (nI (c1 + 1))), (3, .int ((s1 >>> ((nI 1) &&& 31)) ||| (s1 &&& (nI 1)))), (5, .int (-3)), (0, .ref (za G b)), (1, .int (nI fr)), (2, .int (nI en))]) hx hb dX5_holds_101 hl (k := 5) rfl (zinc c1) (by decide) rfl (fun ls hl => ?_)
                  refine lv_goto (tgt := 9) hx hb dX5_holds_104 (by decide) ?_
                  exact ih9 (c1 + 1) ((s1 >>> ((nI 1) &&& 31)) ||| (s1 &&& (nI 1))) (by omega) (by omega) (zhf_s h0 h2 (by rw [hA]; exact rfl)) (by omega) _ _ hI ls (lv_sub hl [3, 4, 5, 1, 0] rfl)
                · skip
                  exact absurd c_78 (by decide)
              · skip
                exact absurd c_64 (by decide)
            · skip
              exact absurd (by decide) c_36
          · skip
            refine lv_aload_n hx hb dX5_holds_25 rfl (lv_at hl 0 rfl) ?_
            refine z_get (C := RX5) (T := TX5) (N := 11) (ci := 5) (v := .ref (za G (b + 4))) hx hb hts hin5 hown hK hI (zor hG hb0) rfl 3 (by decide) wF21 (fun _ h9 => h9) rfl dX5_holds_26 ?_
            refine lv_iload hx hb dX5_holds_29 (lv_at hl 4 rfl) ?_
            refine z_iald (v := (nI q1)) hx hb hK hI (zor4 hG hb0) c1 rfl (by omega) (by decide) hA dX5_holds_31 ?_
            refine lv_istore (lv' := [(5, .int (nI q1)), (0, .ref (za G b)), (1, .int (nI fr)), (2, .int (nI en)), (3, .int s1), (4, .int (nI c1))]) hx hb dX5_holds_32 hl (by decide) rfl (fun ls hl => ?_)
            refine lv_iload hx hb dX5_holds_34 (lv_at hl 0 rfl) ?_
            refine lv_if_lt (tgt := 61) hx hb dX5_holds_36 (by decide) (fun c_36 => ?_) (fun c_36 => ?_)
            · skip
              rw [show (0 : Int32) = nI 0 from rfl] at c_36; rw [zqL (by omega) (by omega)] at c_36
              exact absurd c_36 (by omega)
            · skip
              rw [show (0 : Int32) = nI 0 from rfl] at c_36; rw [zqL (by omega) (by omega)] at c_36
              refine lv_iload_n hx hb dX5_holds_39 rfl (lv_at hl 4 rfl) ?_
              refine lv_iconst (v := (nI 1)) hx hb dX5_holds_40 rfl ?_
              refine lv_ishl hx hb dX5_holds_41 ?_
              refine lv_aload_n hx hb dX5_holds_42 rfl (lv_at hl 1 rfl) ?_
              refine lv_iload hx hb dX5_holds_43 (lv_at hl 0 rfl) ?_
              refine z_calli (va_runV (As := [.int (nI q1)]) (rest := [.int (s1 <<< ((nI 1) &&& 31))]) ⟨hx, hb, hml, hown, hts⟩ ((c_X5_isSo l hG x b q1 hb0 (by omega)) A) (cwV 1 hts gX5_holds_X5_isSo rfl rfl rfl (by decide +kernel) ⟨Nat.le_of_ble_eq_true rfl, Nat.le_of_ble_eq_true rfl⟩) (z_pV hI hK hN (z_recv hK hI (zor hG hb0) rfl)) rfl rfl hl.1 rfl (lv_room (Nat.le_of_ble_eq_true rfl)) dX5_holds_45 ⟨Nat.zero_le _, Nat.zero_le _⟩) hI (fun r_45 u H locs hw hI => ?_)
              obtain ⟨rfl, rfl⟩ := hw
              refine lv_if_eq (tgt := 55) hx hb dX5_holds_48 (by decide) (fun c_48 => ?_) (fun c_48 => ?_)
              · skip
                rw [zb_0] at c_48
                refine lv_iconst (v := (nI 0)) hx hb dX5_holds_55 rfl ?_
                refine lv_ior hx hb dX5_holds_56 ?_
                refine lv_istore_n (lv' := [(3, .int ((s1 <<< ((nI 1) &&& 31)) ||| (nI 0))), (5, .int (nI q1)), (0, .ref (za G b)), (1, .int (nI fr)), (2, .int (nI en)), (4, .int (nI c1))]) hx hb dX5_holds_57 rfl hl (by decide) rfl (fun ls hl => ?_)
                refine lv_goto (tgt := 101) hx hb dX5_holds_58 (by decide) ?_
                refine lv_iinc (v := (nI (c1 + 1))) (lv' := [(4, .int (nI (c1 + 1))), (3, .int ((s1 <<< ((nI 1) &&& 31)) ||| (nI 0))), (5, .int (nI q1)), (0, .ref (za G b)), (1, .int (nI fr)), (2, .int (nI en))]) hx hb dX5_holds_101 hl (k := 5) rfl (zinc c1) (by decide) rfl (fun ls hl => ?_)
                refine lv_goto (tgt := 9) hx hb dX5_holds_104 (by decide) ?_
                exact ih9 (c1 + 1) ((s1 <<< ((nI 1) &&& 31)) ||| (nI 0)) (by omega) (by omega) (zhf_s h0 h2 (by rw [hA]; exact (zhs_t hq1 (if_neg c_48)))) (by omega) _ _ hI ls (lv_sub hl [3, 4, 5, 1, 0] rfl)
              · skip
                rw [zb_0, Classical.not_not] at c_48
                refine lv_iconst (v := (nI 1)) hx hb dX5_holds_51 rfl ?_
                refine lv_goto (tgt := 56) hx hb dX5_holds_52 (by decide) ?_
                refine lv_ior hx hb dX5_holds_56 ?_
                refine lv_istore_n (lv' := [(3, .int ((s1 <<< ((nI 1) &&& 31)) ||| (nI 1))), (5, .int (nI q1)), (0, .ref (za G b)), (1, .int (nI fr)), (2, .int (nI en)), (4, .int (nI c1))]) hx hb dX5_holds_57 rfl hl (by decide) rfl (fun ls hl => ?_)
                refine lv_goto (tgt := 101) hx hb dX5_holds_58 (by decide) ?_
                refine lv_iinc (v := (nI (c1 + 1))) (lv' := [(4, .int (nI (c1 + 1))), (3, .int ((s1 <<< ((nI 1) &&& 31)) ||| (nI 1))), (5, .int (nI q1)), (0, .ref (za G b)), (1, .int (nI fr)), (2, .int (nI en))]) hx hb dX5_holds_101 hl (k := 5) rfl (zinc c1) (by decide) rfl (fun ls hl => ?_)
                refine lv_goto (tgt := 9) hx hb dX5_holds_104 (by decide) ?_
                exact ih9 (c1 + 1) ((s1 <<< ((nI 1) &&& 31)) ||| (nI 1)) (by omega) (by omega) (zhf_s h0 h2 (by rw [hA]; exact (zhs_t hq1 (if_pos c_48)))) (by omega) _ _ hI ls (lv_sub hl [3, 4, 5, 1, 0] rfl)
  exact L9 (201) fr (nI 0) (by omega) (Or.inl rfl) (by rw [Nat.sub_self]; rfl) (by omega) _ _ hI ls (lv_sub hl [2, 3, 4, 1, 0] rfl)
set_option maxHeartbeats 1000000 in
set_option maxRecDepth 100000 in
theorem c_X5_sumOf (l : Launch) {G : zG} (hG : zOK G) (x : zX) (b C : Nat) (w : Int32) (hb0 : zRm b) (hro : zRo x b C) : zMi l yX5_sumOf wsX5_sumOf { frames := 2, cells := 0, slots := 0, locals := 65 } G [.ref (za G b), .int w] x (fun (r : Int32) (u : zX) => x = u ∧ zsm x b w C = r) := by
  intro A
  refine zBody (cc := cX5_sumOf) (maxL := 5) (ret := (some .int)) (by decide) rfl (Nat.le_of_ble_eq_true rfl) ?_
  intro p e s m below meth c hx hb hml hown hts hr hlocks hK hN hI ls hl
  have hown : s.vm.findClass RX5 = some m.cls := hown
  have hl : lv_has ls 5 [(0, .ref (za G b)), (1, .int w)] := hl
  have hin5 : ∀ w ∈ wsX50, w ∈ wsX5_sumOf := (fun _ h => List.mem_cons_of_mem _ (List.mem_append_right _ (h)))
  have wF56 := hts (.fieldLink RX5 56 "WhoSitsBy$Room" "clauseCount" "I") (z_mem 1 rfl)
  have wF11 := hts (.fieldLink RX5 11 "WhoSitsBy$Room" "words" "[I") (z_mem 2 rfl)
  have wF18 := hts (.fieldLink RX5 18 "WhoSitsBy$Room" "ends" "[I") (z_mem 3 rfl)
  have wF15 := hts (.fieldLink RX5 15 "WhoSitsBy$Room" "amounts" "[I") (z_mem 4 rfl)
  have h10 := hro.1
  refine lv_iconst (v := (nI 0)) hx hb dX5_sumOf_0 rfl ?_
  refine lv_istore_n (lv' := [(2, .int (nI 0)), (0, .ref (za G b)), (1, .int w)]) hx hb dX5_sumOf_1 rfl hl (by decide) rfl (fun ls hl => ?_)
  refine lv_iconst (v := (nI 0)) hx hb dX5_sumOf_2 rfl ?_
  refine lv_istore_n (lv' := [(3, .int (nI 0)), (2, .int (nI 0)), (0, .ref (za G b)), (1, .int w)]) hx hb dX5_sumOf_3 rfl hl (by decide) rfl (fun ls hl => ?_)
  refine lv_iconst (v := (nI 0)) hx hb dX5_sumOf_4 rfl ?_
  refine lv_istore (lv' := [(4, .int (nI 0)), (3, .int (nI 0)), (2, .int (nI 0)), (0, .ref (za G b)), (1, .int w)]) hx hb dX5_sumOf_5 hl (by decide) rfl (fun ls hl => ?_)
  have L7 : ∀ (f : Nat) (c1 : Nat) (a : Int32) (fr : Nat), (c1 ≤ C) → (a = zsm x b w c1) → (fr = zfr x b c1) → (fr ≤ 100) → C + 1 ≤ c1 + f → ∀ (H : Heap) (locs : List Loc), zI G x A s.heap H locs → ∀ ls : Array Slot, lv_has ls 5 [(0, .ref (za G b)), (1, .int w), (2, .int a), (3, .int (nI fr)), (4, .int (nI c1))] → W p l e { frames := 2, cells := 0, slots := 0, locals := 65 } s m ([.ref (za G b), .int w] : List Value).toArray below meth c H locs 0 0 (MQ below (va_Qi (fun (r : Int32) (u : zX) => x = u ∧ zsm x b w C = r) (fun u t => zJ G u A t.heap) A) ([.ref (za G b), .int w] : List Value).toArray s 0 0 A) (F0 m 7 ls []) := by
    intro f
    induction f with
    | zero =>
      intro c1 a fr h1 h2 h3 h4 hf
      exact absurd hf (by omega)
    | succ f ih =>
      intro c1 a fr h1 h2 h3 h4 hf H locs hI ls hl
      have ih7 := ih
      refine lv_iload hx hb dX5_sumOf_7 (lv_at hl 4 rfl) ?_
      refine lv_aload_n hx hb dX5_sumOf_9 rfl (lv_at hl 0 rfl) ?_
      refine z_get (C := RX5) (T := TX5) (N := 11) (ci := 5) (v := .int (nI C)) hx hb hts hin5 hown hK hI (zor hG hb0) rfl 4 (by decide) wF56 (fun _ h9 => h9) (congrArg (fun q => some (Value.int q)) hro.2.1) dX5_sumOf_10 ?_
      refine lv_icmp_ge (tgt := 73) hx hb dX5_sumOf_13 (by decide) (fun c_13 => ?_) (fun c_13 => ?_)
      · skip
        rw [zqG (by omega) (by omega)] at c_13
        refine lv_iload_n hx hb dX5_sumOf_73 rfl (lv_at hl 2 rfl) ?_
        exact z_iret hx hb hr hlocks hI (⟨rfl, by rw [h2, show C = c1 by omega]⟩) dX5_sumOf_74
      · skip
        rw [zqG (by omega) (by omega)] at c_13
        refine lv_iload hx hb dX5_sumOf_16 (lv_at hl 4 rfl) ?_
        refine lv_bipush (v := (nI 10)) hx hb dX5_sumOf_18 rfl ?_
        refine lv_icmp_ge (tgt := 73) hx hb dX5_sumOf_20 (by decide) (fun c_20 => ?_) (fun c_20 => ?_)
        · skip
          rw [zqG (by omega) (by omega)] at c_20
          exact absurd c_20 (by omega)
        · skip
          rw [zqG (by omega) (by omega)] at c_20
          have hen1 := (hro.2.2 c1 (by omega)).2.1
          refine lv_aload_n hx hb dX5_sumOf_23 rfl (lv_at hl 0 rfl) ?_
          refine z_get (C := RX5) (T := TX5) (N := 11) (ci := 5) (v := .ref (za G (b + 1))) hx hb hts hin5 hown hK hI (zor hG hb0) rfl 0 (by decide) wF11 (fun _ h9 => h9) rfl dX5_sumOf_24 ?_
          refine lv_iload hx hb dX5_sumOf_27 (lv_at hl 4 rfl) ?_
          refine z_iald (v := (x.1 (b + 1) c1)) hx hb hK hI (zor1 hG hb0) c1 rfl (by omega) (by decide) rfl dX5_sumOf_29 ?_
          refine lv_iload_n hx hb dX5_sumOf_30 rfl (lv_at hl 1 rfl) ?_
          refine lv_icmp_ne (tgt := 59) hx hb dX5_sumOf_31 (by decide) (fun c_31 => ?_) (fun c_31 => ?_)
          · skip
            refine lv_aload_n hx hb dX5_sumOf_59 rfl (lv_at hl 0 rfl) ?_
            refine z_get (C := RX5) (T := TX5) (N := 11) (ci := 5) (v := .ref (za G (b + 3))) hx hb hts hin5 hown hK hI (zor hG hb0) rfl 2 (by decide) wF18 (fun _ h9 => h9) rfl dX5_sumOf_60 ?_
            refine lv_iload hx hb dX5_sumOf_63 (lv_at hl 4 rfl) ?_
            refine z_iald (v := (nI (zen x b c1))) hx hb hK hI (zor3 hG hb0) c1 rfl (by omega) (by decide) (hro.2.2 c1 (by omega)).1 dX5_sumOf_65 ?_
            refine lv_istore_n (lv' := [(3, .int (nI (zen x b c1))), (0, .ref (za G b)), (1, .int w), (2, .int a), (4, .int (nI c1))]) hx hb dX5_sumOf_66 rfl hl (by decide) rfl (fun ls hl => ?_)
            refine lv_iinc (v := (nI (c1 + 1))) (lv' := [(4, .int (nI (c1 + 1))), (3, .int (nI (zen x b c1))), (0, .ref (za G b)), (1, .int w), (2, .int a)]) hx hb dX5_sumOf_67 hl (k := 4) rfl (zinc c1) (by decide) rfl (fun ls hl => ?_)
            refine lv_goto (tgt := 7) hx hb dX5_sumOf_70 (by decide) ?_
            exact ih7 (c1 + 1) a (zen x b c1) (by omega) (zsum_f h2 (if_neg (fun h => c_31 h.1))) rfl hen1 (by omega) _ _ hI ls (lv_sub hl [2, 3, 4, 1, 0] rfl)
          · skip
            refine lv_aload_n hx hb dX5_sumOf_34 rfl (lv_at hl 0 rfl) ?_
            refine lv_iload_n hx hb dX5_sumOf_35 rfl (lv_at hl 3 rfl) ?_
            refine lv_aload_n hx hb dX5_sumOf_36 rfl (lv_at hl 0 rfl) ?_
            refine z_get (C := RX5) (T := TX5) (N := 11) (ci := 5) (v := .ref (za G (b + 3))) hx hb hts hin5 hown hK hI (zor hG hb0) rfl 2 (by decide) wF18 (fun _ h9 => h9) rfl dX5_sumOf_37 ?_
            refine lv_iload hx hb dX5_sumOf_40 (lv_at hl 4 rfl) ?_
            refine z_iald (v := (nI (zen x b c1))) hx hb hK hI (zor3 hG hb0) c1 rfl (by omega) (by decide) (hro.2.2 c1 (by omega)).1 dX5_sumOf_42 ?_
            refine z_calli (va_runV (As := [.int (nI fr), .int (nI (zen x b c1))]) (rest := []) ⟨hx, hb, hml, hown, hts⟩ ((c_X5_holds l hG x b fr (zen x b c1) hb0 h4 hen1 (hro.2.2 c1 (by omega)).2.2) A) (cwV 2 hts gX5_sumOf_X5_holds rfl rfl rfl (by decide +kernel) ⟨Nat.le_of_ble_eq_true rfl, Nat.le_of_ble_eq_true rfl⟩) (z_pV hI hK hN (z_recv hK hI (zor hG hb0) rfl)) rfl rfl hl.1 rfl (lv_room (Nat.le_of_ble_eq_true rfl)) dX5_sumOf_43 ⟨Nat.zero_le _, Nat.zero_le _⟩) hI (fun r_43 u H locs hw hI => ?_)
            obtain ⟨rfl, rfl⟩ := hw
            refine lv_if_eq (tgt := 59) hx hb dX5_sumOf_46 (by decide) (fun c_46 => ?_) (fun c_46 => ?_)
            · skip
              rw [zb_0] at c_46
              refine lv_aload_n hx hb dX5_sumOf_59 rfl (lv_at hl 0 rfl) ?_
              refine z_get (C := RX5) (T := TX5) (N := 11) (ci := 5) (v := .ref (za G (b + 3))) hx hb hts hin5 hown hK hI (zor hG hb0) rfl 2 (by decide) wF18 (fun _ h9 => h9) rfl dX5_sumOf_60 ?_
              refine lv_iload hx hb dX5_sumOf_63 (lv_at hl 4 rfl) ?_
              refine z_iald (v := (nI (zen x b c1))) hx hb hK hI (zor3 hG hb0) c1 rfl (by omega) (by decide) (hro.2.2 c1 (by omega)).1 dX5_sumOf_65 ?_
              refine lv_istore_n (lv' := [(3, .int (nI (zen x b c1))), (0, .ref (za G b)), (1, .int w), (2, .int a), (4, .int (nI c1))]) hx hb dX5_sumOf_66 rfl hl (by decide) rfl (fun ls hl => ?_)
              refine lv_iinc (v := (nI (c1 + 1))) (lv' := [(4, .int (nI (c1 + 1))), (3, .int (nI (zen x b c1))), (0, .ref (za G b)), (1, .int w), (2, .int a)]) hx hb dX5_sumOf_67 hl (k := 4) rfl (zinc c1) (by decide) rfl (fun ls hl => ?_)
              refine lv_goto (tgt := 7) hx hb dX5_sumOf_70 (by decide) ?_
              exact ih7 (c1 + 1) a (zen x b c1) (by omega) (zsum_f h2 (if_neg (fun h => c_46 (by rw [h3]; exact h.2)))) rfl hen1 (by omega) _ _ hI ls (lv_sub hl [2, 3, 4, 1, 0] rfl)
            · skip
              rw [zb_0, Classical.not_not] at c_46
              refine lv_iload_n hx hb dX5_sumOf_49 rfl (lv_at hl 2 rfl) ?_
              refine lv_aload_n hx hb dX5_sumOf_50 rfl (lv_at hl 0 rfl) ?_
              refine z_get (C := RX5) (T := TX5) (N := 11) (ci := 5) (v := .ref (za G (b + 2))) hx hb hts hin5 hown hK hI (zor hG hb0) rfl 1 (by decide) wF15 (fun _ h9 => h9) rfl dX5_sumOf_51 ?_
              refine lv_iload hx hb dX5_sumOf_54 (lv_at hl 4 rfl) ?_
              refine z_iald (v := (x.1 (b + 2) c1)) hx hb hK hI (zor2 hG hb0) c1 rfl (by omega) (by decide) rfl dX5_sumOf_56 ?_
              refine lv_iadd hx hb dX5_sumOf_57 ?_
              refine lv_istore_n (lv' := [(2, .int (a + (x.1 (b + 2) c1))), (0, .ref (za G b)), (1, .int w), (3, .int (nI fr)), (4, .int (nI c1))]) hx hb dX5_sumOf_58 rfl hl (by decide) rfl (fun ls hl => ?_)
              refine lv_aload_n hx hb dX5_sumOf_59 rfl (lv_at hl 1 rfl) ?_
              refine z_get (C := RX5) (T := TX5) (N := 11) (ci := 5) (v := .ref (za G (b + 3))) hx hb hts hin5 hown hK hI (zor hG hb0) rfl 2 (by decide) wF18 (fun _ h9 => h9) rfl dX5_sumOf_60 ?_
              refine lv_iload hx hb dX5_sumOf_63 (lv_at hl 4 rfl) ?_
              refine z_iald (v := (nI (zen x b c1))) hx hb hK hI (zor3 hG hb0) c1 rfl (by omega) (by decide) (hro.2.2 c1 (by omega)).1 dX5_sumOf_65 ?_
              refine lv_istore_n (lv' := [(3, .int (nI (zen x b c1))), (2, .int (a + (x.1 (b + 2) c1))), (0, .ref (za G b)), (1, .int w), (4, .int (nI c1))]) hx hb dX5_sumOf_66 rfl hl (by decide) rfl (fun ls hl => ?_)
              refine lv_iinc (v := (nI (c1 + 1))) (lv' := [(4, .int (nI (c1 + 1))), (3, .int (nI (zen x b c1))), (2, .int (a + (x.1 (b + 2) c1))), (0, .ref (za G b)), (1, .int w)]) hx hb dX5_sumOf_67 hl (k := 4) rfl (zinc c1) (by decide) rfl (fun ls hl => ?_)
              refine lv_goto (tgt := 7) hx hb dX5_sumOf_70 (by decide) ?_
              exact ih7 (c1 + 1) (a + (x.1 (b + 2) c1)) (zen x b c1) (by omega) (zsum_t h2 (if_pos ⟨c_31, by rw [← h3]; exact c_46⟩)) rfl hen1 (by omega) _ _ hI ls (lv_sub hl [3, 4, 2, 1, 0] rfl)
  exact L7 (C + 1) 0 (nI 0) 0 (by omega) rfl rfl (by omega) (by omega) _ _ hI ls (lv_sub hl [3, 4, 2, 1, 0] rfl)
