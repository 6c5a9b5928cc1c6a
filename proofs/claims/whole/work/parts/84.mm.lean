set_option maxHeartbeats 1000000 in
set_option maxRecDepth 100000 in
theorem c_X12_takesE (l : Launch) {G : zG} (hG : zOK G) (x : zX) (c1 : Nat) (p1 s1 n1 F : Nat) (o1 d1 : Int32) (w4 w5 : Nat → Int32) (hfd : x.1 77 14 = nI F) (hF : F ≤ 100) (hp1 : p1 ≤ F) (hc9 : c1 < 60) (hs9 : s1 + (F - p1) ≤ 600) : zMi l yX12_takesE wsX12_takesE { frames := 4, cells := 0, slots := 0, locals := 86 } G [.ref (za G 77), .int (nI c1)] (zrr x p1 s1 n1 o1 d1 w4 w5) (fun (r : Int32) (u : zX) => zru (zsI (zsI x 92 c1 (nI s1)) 93 c1 (zrE (zrt x F) (F + 1 - p1) true p1 s1 0 (nI 0) d1 w4 w5 (x.1 93 c1)).2.1) (zrE (zrt x F) (F + 1 - p1) true p1 s1 0 (nI 0) d1 w4 w5 (x.1 93 c1)).2.2 = u ∧ (if (zrE (zrt x F) (F + 1 - p1) true p1 s1 0 (nI 0) d1 w4 w5 (x.1 93 c1)).1 = true then nI 1 else nI 0) = r) := by
  intro A
  refine zBody (cc := cX12_takesE) (maxL := 4) (ret := (some .boolean)) (by decide) rfl (Nat.le_of_ble_eq_true rfl) ?_
  intro p e s m below meth c hx hb hml hown hts hr hlocks hK hN hI ls hl
  have hown : s.vm.findClass RX12 = some m.cls := hown
  have hl : lv_has ls 4 [(0, .ref (za G 77)), (1, .int (nI c1))] := hl
  have hin12 : ∀ w ∈ wsX120, w ∈ wsX12_takesE := (fun _ h => List.mem_cons_of_mem _ (List.mem_append_right _ (h)))
  have wF90 := hts (.fieldLink RX12 90 "WhoSitsByModel" "waiting" "I") (z_mem 1 rfl)
  have wF93 := hts (.fieldLink RX12 93 "WhoSitsByModel" "open" "I") (z_mem 2 rfl)
  have wF75 := hts (.fieldLink RX12 75 "WhoSitsByModel" "from" "[I") (z_mem 3 rfl)
  have wF87 := hts (.fieldLink RX12 87 "WhoSitsByModel" "signs" "I") (z_mem 4 rfl)
  have wF84 := hts (.fieldLink RX12 84 "WhoSitsByModel" "waits" "[I") (z_mem 5 rfl)
  have wF57 := hts (.fieldLink RX12 57 "WhoSitsByModel" "at" "I") (z_mem 6 rfl)
  have wF78 := hts (.fieldLink RX12 78 "WhoSitsByModel" "to" "[I") (z_mem 7 rfl)
  refine lv_aload_n hx hb dX12_takesE_0 rfl (lv_at hl 0 rfl) ?_
  refine lv_iconst (v := (nI 0)) hx hb dX12_takesE_1 rfl ?_
  refine z_putI (C := RX12) (T := TX12) (N := 51) (ci := 12) (ty := .int) hx hb hts hin12 tyX12 tyX12_ok nmX12 hown hK hI (zo77 hG) rfl 26 (by decide) wF90 (fun _ h9 => h9) rfl (fun _ _ => rfl) (by decide +kernel) rfl rfl (fun _ _ => Nat.le_of_ble_eq_true rfl) dX12_takesE_2 (fun H locs hI => ?_)
  rw [zrr_26] at hI
  refine lv_aload_n hx hb dX12_takesE_5 rfl (lv_at hl 0 rfl) ?_
  refine lv_iconst (v := (nI 0)) hx hb dX12_takesE_6 rfl ?_
  refine z_putI (C := RX12) (T := TX12) (N := 51) (ci := 12) (ty := .int) hx hb hts hin12 tyX12 tyX12_ok nmX12 hown hK hI (zo77 hG) rfl 27 (by decide) wF93 (fun _ h9 => h9) rfl (fun _ _ => rfl) (by decide +kernel) rfl rfl (fun _ _ => Nat.le_of_ble_eq_true rfl) dX12_takesE_7 (fun H locs hI => ?_)
  rw [zrr_27] at hI
  refine lv_aload_n hx hb dX12_takesE_10 rfl (lv_at hl 0 rfl) ?_
  refine z_get (C := RX12) (T := TX12) (N := 51) (ci := 12) (v := .ref (za G 92)) hx hb hts hin12 hown hK hI (zo77 hG) rfl 21 (by decide) wF75 (fun _ h9 => h9) rfl dX12_takesE_11 ?_
  refine lv_iload_n hx hb dX12_takesE_14 rfl (lv_at hl 1 rfl) ?_
  refine lv_aload_n hx hb dX12_takesE_15 rfl (lv_at hl 0 rfl) ?_
  refine z_get (C := RX12) (T := TX12) (N := 51) (ci := 12) (v := .int (nI s1)) hx hb hts hin12 hown hK hI (zo77 hG) rfl 25 (by decide) wF87 (fun _ h9 => h9) rfl dX12_takesE_16 ?_
  refine z_iast (y := (nI s1)) hx hb hK hI (zo92 hG) c1 rfl (by omega) (by decide) dX12_takesE_19 (fun H locs hI => ?_)
  rw [zrr_o (i := 92) (by decide) (by decide) (by decide)] at hI
  have hI : zI G (zrr (zsI (zsI x 92 c1 (nI s1)) 93 c1 (x.1 93 c1)) p1 s1 0 (nI 0) d1 w4 w5) A s.heap H locs := by rw [← zsI_e (x := (zsI x 92 c1 (nI s1))) (i := 93) (k := c1) (y := x.1 93 c1) rfl] at hI; exact hI
  refine lv_iconst (v := (nI 1)) hx hb dX12_takesE_20 rfl ?_
  refine lv_istore_n (lv' := [(2, .int (nI 1)), (0, .ref (za G 77)), (1, .int (nI c1))]) hx hb dX12_takesE_21 rfl hl (by decide) rfl (fun ls hl => ?_)
  have L22 : ∀ (f : Nat) (g : Nat) (bw : Bool) (p2 : Nat) (s2 : Nat) (n2 : Nat) (o2 : Int32) (d2 : Int32) (v4 : Nat → Int32) (v5 : Nat → Int32) (tv : Int32), (zrE (zrt x F) g bw p2 s2 n2 o2 d2 v4 v5 tv = zrE (zrt x F) (F + 1 - p1) true p1 s1 0 (nI 0) d1 w4 w5 (x.1 93 c1)) → (F + 1 ≤ g + p2) → (p2 ≤ F) → (n2 ≤ p2) → (s2 + n2 + (F - p2) ≤ 600) → g ≤ f → ∀ (H : Heap) (locs : List Loc), zI G (zrr (zsI (zsI x 92 c1 (nI s1)) 93 c1 tv) p2 s2 n2 o2 d2 v4 v5) A s.heap H locs → ∀ ls : Array Slot, lv_has ls 4 [(0, .ref (za G 77)), (1, .int (nI c1)), (2, .int (if bw = true then nI 1 else nI 0))] → W p l e { frames := 4, cells := 0, slots := 0, locals := 86 } s m ([.ref (za G 77), .int (nI c1)] : List Value).toArray below meth c H locs 0 0 (MQ below (va_Qi (fun (r : Int32) (u : zX) => zru (zsI (zsI x 92 c1 (nI s1)) 93 c1 (zrE (zrt x F) (F + 1 - p1) true p1 s1 0 (nI 0) d1 w4 w5 (x.1 93 c1)).2.1) (zrE (zrt x F) (F + 1 - p1) true p1 s1 0 (nI 0) d1 w4 w5 (x.1 93 c1)).2.2 = u ∧ (if (zrE (zrt x F) (F + 1 - p1) true p1 s1 0 (nI 0) d1 w4 w5 (x.1 93 c1)).1 = true then nI 1 else nI 0) = r) (fun u t => zJ G u A t.heap) A) ([.ref (za G 77), .int (nI c1)] : List Value).toArray s 0 0 A) (F0 m 22 ls []) := by
    intro f
    induction f with
    | zero =>
      intro g bw p2 s2 n2 o2 d2 v4 v5 tv hF9 hg9 hp2 hn2 hs2 hf
      exact absurd hf (by omega)
    | succ f ih =>
      intro g bw p2 s2 n2 o2 d2 v4 v5 tv hF9 hg9 hp2 hn2 hs2 hf H locs hI ls hl
      obtain ⟨g9, rfl⟩ : ∃ g9, g = g9 + 1 := ⟨g - 1, by omega⟩
      have ih22 := ih
      refine lv_aload_n hx hb dX12_takesE_22 rfl (lv_at hl 0 rfl) ?_
      refine z_calli (va_runV (As := []) (rest := []) ⟨hx, hb, hml, hown, hts⟩ ((c_X12_nextR l hG (zsI (zsI x 92 c1 (nI s1)) 93 c1 tv) p2 s2 n2 o2 d2 v4 v5 F hfd hF (by omega)) A) (cwV 0 hts gX12_takesE_X12_next rfl rfl rfl (by decide +kernel) ⟨Nat.le_of_ble_eq_true rfl, Nat.le_of_ble_eq_true rfl⟩) (z_pV hI hK hN (z_recv hK hI (zo77 hG) rfl)) rfl rfl hl.1 rfl (lv_room (Nat.le_of_ble_eq_true rfl)) dX12_takesE_23 ⟨Nat.zero_le _, Nat.zero_le _⟩) hI (fun r_23 u H locs hw hI => ?_)
      rw [show zrt (zsI (zsI x 92 c1 (nI s1)) 93 c1 tv) F = zrt x F from rfl] at hw
      obtain ⟨rfl, rfl⟩ := hw
      refine lv_istore_n (lv' := [(3, .int ((zrt x F) p2)), (0, .ref (za G 77)), (1, .int (nI c1)), (2, .int (if bw = true then nI 1 else nI 0))]) hx hb dX12_takesE_26 rfl hl (by decide) rfl (fun ls hl => ?_)
      refine lv_iload_n hx hb dX12_takesE_27 rfl (lv_at hl 3 rfl) ?_
      refine lv_if_eq (tgt := 110) hx hb dX12_takesE_28 (by decide) (fun c_28 => ?_) (fun c_28 => ?_)
      · skip
        rw [zb_0] at c_28
        obtain rfl : bw = false := Bool.eq_false_iff.mpr c_28
        refine lv_iload_n hx hb dX12_takesE_110 rfl (lv_at hl 0 rfl) ?_
        refine lv_bipush (v := (nI 38)) hx hb dX12_takesE_111 rfl ?_
        refine lv_icmp_eq (tgt := 122) hx hb dX12_takesE_113 (by decide) (fun c_113 => ?_) (fun c_113 => ?_)
        · skip
          have hb9 : (zrt x F) p2 = nI 38 ∨ (zrt x F) p2 = nI 124 := Or.inl c_113
          have hp3 : p2 + 1 ≤ F := zT_lt zrt_e (fun e9 => by rw [e9] at hb9; exact absurd hb9 (by decide))
          have hz1 := zsl_le (w5 := v5) (g := (zrt x F) p2) n2 s2 v4
          refine lv_aload_n hx hb dX12_takesE_122 rfl (lv_at hl 1 rfl) ?_
          refine lv_iload_n hx hb dX12_takesE_123 rfl (lv_at hl 0 rfl) ?_
          refine z_callv (va_runV (As := [.int ((zrt x F) p2)]) (rest := []) ⟨hx, hb, hml, hown, hts⟩ ((c_X12_settle l hG (zsI (zsI x 92 c1 (nI s1)) 93 c1 tv) p2 s2 n2 o2 d2 v4 v5 ((zrt x F) p2) (by omega) (by omega)) A) (cwV 1 hts gX12_takesE_X12_settle rfl rfl rfl (by decide +kernel) ⟨Nat.le_of_ble_eq_true rfl, Nat.le_of_ble_eq_true rfl⟩) (z_pV hI hK hN (z_recv hK hI (zo77 hG) rfl)) rfl rfl hl.1 rfl (lv_room (Nat.le_of_ble_eq_true rfl)) dX12_takesE_124 ⟨Nat.zero_le _, Nat.zero_le _⟩) hI (fun u H locs hw hI => ?_)
          obtain rfl := hw
          refine lv_aload_n hx hb dX12_takesE_127 rfl (lv_at hl 1 rfl) ?_
          refine z_get (C := RX12) (T := TX12) (N := 51) (ci := 12) (v := .ref (za G 95)) hx hb hts hin12 hown hK hI (zo77 hG) rfl 24 (by decide) wF84 (fun _ h9 => h9) rfl dX12_takesE_128 ?_
          refine lv_aload_n hx hb dX12_takesE_131 rfl (lv_at hl 1 rfl) ?_
          refine z_get (C := RX12) (T := TX12) (N := 51) (ci := 12) (v := .int (nI ((zsl v5 ((zrt x F) p2) n2 s2 v4).2.1))) hx hb hts hin12 hown hK hI (zo77 hG) rfl 26 (by decide) wF90 (fun _ h9 => h9) rfl dX12_takesE_132 ?_
          refine lv_iload_n hx hb dX12_takesE_135 rfl (lv_at hl 0 rfl) ?_
          refine z_iast (y := ((zrt x F) p2)) hx hb hK hI (zo95 hG) ((zsl v5 ((zrt x F) p2) n2 s2 v4).2.1) rfl (by omega) (by decide) dX12_takesE_136 (fun H locs hI => ?_)
          rw [zrr_95] at hI
          refine lv_aload_n hx hb dX12_takesE_137 rfl (lv_at hl 1 rfl) ?_
          refine lv_dup hx hb dX12_takesE_138 rfl ?_
          refine z_get (C := RX12) (T := TX12) (N := 51) (ci := 12) (v := .int (nI ((zsl v5 ((zrt x F) p2) n2 s2 v4).2.1))) hx hb hts hin12 hown hK hI (zo77 hG) rfl 26 (by decide) wF90 (fun _ h9 => h9) rfl dX12_takesE_139 ?_
          refine lv_iconst (v := (nI 1)) hx hb dX12_takesE_142 rfl ?_
          refine z_iadd (v := (nI (((zsl v5 ((zrt x F) p2) n2 s2 v4).2.1) + 1))) hx hb (nI_add _ _) dX12_takesE_143 ?_
          refine z_putI (C := RX12) (T := TX12) (N := 51) (ci := 12) (ty := .int) hx hb hts hin12 tyX12 tyX12_ok nmX12 hown hK hI (zo77 hG) rfl 26 (by decide) wF90 (fun _ h9 => h9) rfl (fun _ _ => rfl) (by decide +kernel) rfl rfl (fun _ _ => Nat.le_of_ble_eq_true rfl) dX12_takesE_144 (fun H locs hI => ?_)
          rw [zrr_26] at hI
          refine lv_iconst (v := (nI 1)) hx hb dX12_takesE_147 rfl ?_
          refine lv_istore_n (lv' := [(2, .int (nI 1)), (3, .int ((zrt x F) p2)), (0, .ref (za G 77)), (1, .int (nI c1))]) hx hb dX12_takesE_148 rfl hl (by decide) rfl (fun ls hl => ?_)
          refine lv_aload_n hx hb dX12_takesE_149 rfl (lv_at hl 2 rfl) ?_
          refine lv_dup hx hb dX12_takesE_150 rfl ?_
          refine z_get (C := RX12) (T := TX12) (N := 51) (ci := 12) (v := .int (nI p2)) hx hb hts hin12 hown hK hI (zo77 hG) rfl 15 (by decide) wF57 (fun _ h9 => h9) rfl dX12_takesE_151 ?_
          refine lv_iconst (v := (nI 1)) hx hb dX12_takesE_154 rfl ?_
          refine z_iadd (v := (nI (p2 + 1))) hx hb (nI_add _ _) dX12_takesE_155 ?_
          refine z_putI (C := RX12) (T := TX12) (N := 51) (ci := 12) (ty := .int) hx hb hts hin12 tyX12 tyX12_ok nmX12 hown hK hI (zo77 hG) rfl 15 (by decide) wF57 (fun _ h9 => h9) rfl (fun _ _ => rfl) (by decide +kernel) rfl rfl (fun _ _ => Nat.le_of_ble_eq_true rfl) dX12_takesE_156 (fun H locs hI => ?_)
          rw [zrr_15] at hI
          refine lv_goto (tgt := 22) hx hb dX12_takesE_159 (by decide) ?_
          exact ih22 g9 true (p2 + 1) ((zsl v5 ((zrt x F) p2) n2 s2 v4).1) (((zsl v5 ((zrt x F) p2) n2 s2 v4).2.1) + 1) o2 d2 ((zsl v5 ((zrt x F) p2) n2 s2 v4).2.2) (upd v5 ((zsl v5 ((zrt x F) p2) n2 s2 v4).2.1) ((zrt x F) p2)) tv (by rw [← hF9, zrE, if_pos hb9]) (by omega) hp3 (by omega) (by omega) (by omega) _ _ hI ls (lv_sub hl [2, 3, 0] rfl)
        · skip
          refine lv_iload_n hx hb dX12_takesE_116 rfl (lv_at hl 0 rfl) ?_
          refine lv_bipush (v := (nI 124)) hx hb dX12_takesE_117 rfl ?_
          refine lv_icmp_ne (tgt := 162) hx hb dX12_takesE_119 (by decide) (fun c_119 => ?_) (fun c_119 => ?_)
          · skip
            have hb9 : ¬ ((zrt x F) p2 = nI 38 ∨ (zrt x F) p2 = nI 124) := fun h9 => h9.elim c_113 c_119
            have hz1 := zsl_le (w5 := v5) (g := nI 124) n2 s2 v4
            refine lv_aload_n hx hb dX12_takesE_162 rfl (lv_at hl 1 rfl) ?_
            refine lv_bipush (v := (nI 124)) hx hb dX12_takesE_163 rfl ?_
            refine z_callv (va_runV (As := [.int (nI 124)]) (rest := []) ⟨hx, hb, hml, hown, hts⟩ ((c_X12_settle l hG (zsI (zsI x 92 c1 (nI s1)) 93 c1 tv) p2 s2 n2 o2 d2 v4 v5 (nI 124) (by omega) (by omega)) A) (cwV 1 hts gX12_takesE_X12_settle rfl rfl rfl (by decide +kernel) ⟨Nat.le_of_ble_eq_true rfl, Nat.le_of_ble_eq_true rfl⟩) (z_pV hI hK hN (z_recv hK hI (zo77 hG) rfl)) rfl rfl hl.1 rfl (lv_room (Nat.le_of_ble_eq_true rfl)) dX12_takesE_165 ⟨Nat.zero_le _, Nat.zero_le _⟩) hI (fun u H locs hw hI => ?_)
            obtain rfl := hw
            refine lv_aload_n hx hb dX12_takesE_168 rfl (lv_at hl 1 rfl) ?_
            refine z_get (C := RX12) (T := TX12) (N := 51) (ci := 12) (v := .ref (za G 93)) hx hb hts hin12 hown hK hI (zo77 hG) rfl 22 (by decide) wF78 (fun _ h9 => h9) rfl dX12_takesE_169 ?_
            refine lv_iload_n hx hb dX12_takesE_172 rfl (lv_at hl 2 rfl) ?_
            refine lv_aload_n hx hb dX12_takesE_173 rfl (lv_at hl 1 rfl) ?_
            refine z_get (C := RX12) (T := TX12) (N := 51) (ci := 12) (v := .int (nI ((zsl v5 (nI 124) n2 s2 v4).1))) hx hb hts hin12 hown hK hI (zo77 hG) rfl 25 (by decide) wF87 (fun _ h9 => h9) rfl dX12_takesE_174 ?_
            refine z_iast (y := (nI ((zsl v5 (nI 124) n2 s2 v4).1))) hx hb hK hI (zo93 hG) c1 rfl (by omega) (by decide) dX12_takesE_177 (fun H locs hI => ?_)
            rw [zrr_o (i := 93) (by decide) (by decide) (by decide)] at hI
            rw [zsI_t] at hI
            refine lv_aload_n hx hb dX12_takesE_178 rfl (lv_at hl 1 rfl) ?_
            refine z_get (C := RX12) (T := TX12) (N := 51) (ci := 12) (v := .int (nI ((zsl v5 (nI 124) n2 s2 v4).2.1))) hx hb hts hin12 hown hK hI (zo77 hG) rfl 26 (by decide) wF90 (fun _ h9 => h9) rfl dX12_takesE_179 ?_
            refine lv_if_ne (tgt := 187) hx hb dX12_takesE_182 (by decide) (fun c_182 => ?_) (fun c_182 => ?_)
            · skip
              rw [show (0 : Int32) = nI 0 from rfl] at c_182; rw [zqE (by omega) (by omega)] at c_182
              refine lv_iload_n hx hb dX12_takesE_187 rfl (lv_at hl 0 rfl) ?_
              refine lv_bipush (v := (nI 41)) hx hb dX12_takesE_188 rfl ?_
              refine lv_icmp_eq (tgt := 195) hx hb dX12_takesE_190 (by decide) (fun c_190 => ?_) (fun c_190 => ?_)
              · skip
                have hp3 : p2 + 1 ≤ F := zT_lt zrt_e (fun e9 => by rw [e9] at c_190; exact absurd c_190 (by decide))
                refine lv_aload_n hx hb dX12_takesE_195 rfl (lv_at hl 1 rfl) ?_
                refine lv_dup hx hb dX12_takesE_196 rfl ?_
                refine z_get (C := RX12) (T := TX12) (N := 51) (ci := 12) (v := .int (nI ((zsl v5 (nI 124) n2 s2 v4).2.1))) hx hb hts hin12 hown hK hI (zo77 hG) rfl 26 (by decide) wF90 (fun _ h9 => h9) rfl dX12_takesE_197 ?_
                refine lv_iconst (v := (nI 1)) hx hb dX12_takesE_200 rfl ?_
                refine z_isub (v := (nI (((zsl v5 (nI 124) n2 s2 v4).2.1) - 1))) hx hb (z_sub1 (by omega)) dX12_takesE_201 ?_
                refine z_putI (C := RX12) (T := TX12) (N := 51) (ci := 12) (ty := .int) hx hb hts hin12 tyX12 tyX12_ok nmX12 hown hK hI (zo77 hG) rfl 26 (by decide) wF90 (fun _ h9 => h9) rfl (fun _ _ => rfl) (by decide +kernel) rfl rfl (fun _ _ => Nat.le_of_ble_eq_true rfl) dX12_takesE_202 (fun H locs hI => ?_)
                rw [zrr_26] at hI
                refine lv_aload_n hx hb dX12_takesE_205 rfl (lv_at hl 1 rfl) ?_
                refine lv_dup hx hb dX12_takesE_206 rfl ?_
                refine z_get (C := RX12) (T := TX12) (N := 51) (ci := 12) (v := .int o2) hx hb hts hin12 hown hK hI (zo77 hG) rfl 27 (by decide) wF93 (fun _ h9 => h9) rfl dX12_takesE_207 ?_
                refine lv_iconst (v := (nI 1)) hx hb dX12_takesE_210 rfl ?_
                refine lv_isub hx hb dX12_takesE_211 ?_
                refine z_putI (C := RX12) (T := TX12) (N := 51) (ci := 12) (ty := .int) hx hb hts hin12 tyX12 tyX12_ok nmX12 hown hK hI (zo77 hG) rfl 27 (by decide) wF93 (fun _ h9 => h9) rfl (fun _ _ => rfl) (by decide +kernel) rfl rfl (fun _ _ => Nat.le_of_ble_eq_true rfl) dX12_takesE_212 (fun H locs hI => ?_)
                rw [zrr_27] at hI
                refine lv_aload_n hx hb dX12_takesE_215 rfl (lv_at hl 1 rfl) ?_
                refine lv_dup hx hb dX12_takesE_216 rfl ?_
                refine z_get (C := RX12) (T := TX12) (N := 51) (ci := 12) (v := .int (nI p2)) hx hb hts hin12 hown hK hI (zo77 hG) rfl 15 (by decide) wF57 (fun _ h9 => h9) rfl dX12_takesE_217 ?_
                refine lv_iconst (v := (nI 1)) hx hb dX12_takesE_220 rfl ?_
                refine z_iadd (v := (nI (p2 + 1))) hx hb (nI_add _ _) dX12_takesE_221 ?_
                refine z_putI (C := RX12) (T := TX12) (N := 51) (ci := 12) (ty := .int) hx hb hts hin12 tyX12 tyX12_ok nmX12 hown hK hI (zo77 hG) rfl 15 (by decide) wF57 (fun _ h9 => h9) rfl (fun _ _ => rfl) (by decide +kernel) rfl rfl (fun _ _ => Nat.le_of_ble_eq_true rfl) dX12_takesE_222 (fun H locs hI => ?_)
                rw [zrr_15] at hI
                refine lv_aload_n hx hb dX12_takesE_225 rfl (lv_at hl 1 rfl) ?_
                refine z_callv (va_runV (As := []) (rest := []) ⟨hx, hb, hml, hown, hts⟩ ((c_X12_whole l hG (zsI (zsI x 92 c1 (nI s1)) 93 c1 (nI ((zsl v5 (nI 124) n2 s2 v4).1))) (p2 + 1) ((zsl v5 (nI 124) n2 s2 v4).1) (((zsl v5 (nI 124) n2 s2 v4).2.1) - 1) (o2 - (nI 1)) d2 ((zsl v5 (nI 124) n2 s2 v4).2.2) v5 (by omega) (by omega)) A) (cwV 0 hts gX12_takesE_X12_whole rfl rfl rfl (by decide +kernel) ⟨Nat.le_of_ble_eq_true rfl, Nat.le_of_ble_eq_true rfl⟩) (z_pV hI hK hN (z_recv hK hI (zo77 hG) rfl)) rfl rfl hl.1 rfl (lv_room (Nat.le_of_ble_eq_true rfl)) dX12_takesE_226 ⟨Nat.zero_le _, Nat.zero_le _⟩) hI (fun u H locs hw hI => ?_)
                obtain rfl := hw
                have hz2 := zwl_le (w5 := v5) ((zsl v5 (nI 124) n2 s2 v4).2.1 - 1) (zsl v5 (nI 124) n2 s2 v4).1 (o2 - nI 1) (zsl v5 (nI 124) n2 s2 v4).2.2
                refine lv_goto (tgt := 22) hx hb dX12_takesE_229 (by decide) ?_
                exact ih22 g9 false (p2 + 1) ((zwl v5 (((zsl v5 (nI 124) n2 s2 v4).2.1) - 1) ((zsl v5 (nI 124) n2 s2 v4).1) (o2 - (nI 1)) ((zsl v5 (nI 124) n2 s2 v4).2.2)).1) ((zwl v5 (((zsl v5 (nI 124) n2 s2 v4).2.1) - 1) ((zsl v5 (nI 124) n2 s2 v4).1) (o2 - (nI 1)) ((zsl v5 (nI 124) n2 s2 v4).2.2)).2.1) ((zwl v5 (((zsl v5 (nI 124) n2 s2 v4).2.1) - 1) ((zsl v5 (nI 124) n2 s2 v4).1) (o2 - (nI 1)) ((zsl v5 (nI 124) n2 s2 v4).2.2)).2.2.1) d2 ((zwl v5 (((zsl v5 (nI 124) n2 s2 v4).2.1) - 1) ((zsl v5 (nI 124) n2 s2 v4).1) (o2 - (nI 1)) ((zsl v5 (nI 124) n2 s2 v4).2.2)).2.2.2) v5 (nI ((zsl v5 (nI 124) n2 s2 v4).1)) (by rw [← hF9, zrE, if_neg hb9, if_neg c_182, if_pos c_190]) (by omega) hp3 (by omega) (by omega) (by omega) _ _ hI ls (lv_sub hl [1, 2, 3] rfl)
              · skip
                refine lv_iconst (v := (nI 0)) hx hb dX12_takesE_193 rfl ?_
                exact z_zret hx hb hr hlocks hI (Or.inl rfl) ((by rw [← hF9, zrE, if_neg hb9, if_neg c_182, if_neg c_190]; exact ⟨rfl, rfl⟩)) dX12_takesE_194
            · skip
              rw [show (0 : Int32) = nI 0 from rfl] at c_182; rw [zqE (by omega) (by omega)] at c_182
              refine lv_iconst (v := (nI 1)) hx hb dX12_takesE_185 rfl ?_
              exact z_zret hx hb hr hlocks hI (Or.inr rfl) ((by rw [← hF9, zrE, if_neg hb9, if_pos c_182]; exact ⟨rfl, rfl⟩)) dX12_takesE_186
          · skip
            have hb9 : (zrt x F) p2 = nI 38 ∨ (zrt x F) p2 = nI 124 := Or.inr c_119
            have hp3 : p2 + 1 ≤ F := zT_lt zrt_e (fun e9 => by rw [e9] at hb9; exact absurd hb9 (by decide))
            have hz1 := zsl_le (w5 := v5) (g := (zrt x F) p2) n2 s2 v4
            refine lv_aload_n hx hb dX12_takesE_122 rfl (lv_at hl 1 rfl) ?_
            refine lv_iload_n hx hb dX12_takesE_123 rfl (lv_at hl 0 rfl) ?_
            refine z_callv (va_runV (As := [.int ((zrt x F) p2)]) (rest := []) ⟨hx, hb, hml, hown, hts⟩ ((c_X12_settle l hG (zsI (zsI x 92 c1 (nI s1)) 93 c1 tv) p2 s2 n2 o2 d2 v4 v5 ((zrt x F) p2) (by omega) (by omega)) A) (cwV 1 hts gX12_takesE_X12_settle rfl rfl rfl (by decide +kernel) ⟨Nat.le_of_ble_eq_true rfl, Nat.le_of_ble_eq_true rfl⟩) (z_pV hI hK hN (z_recv hK hI (zo77 hG) rfl)) rfl rfl hl.1 rfl (lv_room (Nat.le_of_ble_eq_true rfl)) dX12_takesE_124 ⟨Nat.zero_le _, Nat.zero_le _⟩) hI (fun u H locs hw hI => ?_)
            obtain rfl := hw
            refine lv_aload_n hx hb dX12_takesE_127 rfl (lv_at hl 1 rfl) ?_
            refine z_get (C := RX12) (T := TX12) (N := 51) (ci := 12) (v := .ref (za G 95)) hx hb hts hin12 hown hK hI (zo77 hG) rfl 24 (by decide) wF84 (fun _ h9 => h9) rfl dX12_takesE_128 ?_
            refine lv_aload_n hx hb dX12_takesE_131 rfl (lv_at hl 1 rfl) ?_
            refine z_get (C := RX12) (T := TX12) (N := 51) (ci := 12) (v := .int (nI ((zsl v5 ((zrt x F) p2) n2 s2 v4).2.1))) hx hb hts hin12 hown hK hI (zo77 hG) rfl 26 (by decide) wF90 (fun _ h9 => h9) rfl dX12_takesE_132 ?_
            refine lv_iload_n hx hb dX12_takesE_135 rfl (lv_at hl 0 rfl) ?_
            refine z_iast (y := ((zrt x F) p2)) hx hb hK hI (zo95 hG) ((zsl v5 ((zrt x F) p2) n2 s2 v4).2.1) rfl (by omega) (by decide) dX12_takesE_136 (fun H locs hI => ?_)
            rw [zrr_95] at hI
            refine lv_aload_n hx hb dX12_takesE_137 rfl (lv_at hl 1 rfl) ?_
            refine lv_dup hx hb dX12_takesE_138 rfl ?_
            refine z_get (C := RX12) (T := TX12) (N := 51) (ci := 12) (v := .int (nI ((zsl v5 ((zrt x F) p2) n2 s2 v4).2.1))) hx hb hts hin12 hown hK hI (zo77 hG) rfl 26 (by decide) wF90 (fun _ h9 => h9) rfl dX12_takesE_139 ?_
            refine lv_iconst (v := (nI 1)) hx hb dX12_takesE_142 rfl ?_
            refine z_iadd (v := (nI (((zsl v5 ((zrt x F) p2) n2 s2 v4).2.1) + 1))) hx hb (nI_add _ _) dX12_takesE_143 ?_
            refine z_putI (C := RX12) (T := TX12) (N := 51) (ci := 12) (ty := .int) hx hb hts hin12 tyX12 tyX12_ok nmX12 hown hK hI (zo77 hG) rfl 26 (by decide) wF90 (fun _ h9 => h9) rfl (fun _ _ => rfl) (by decide +kernel) rfl rfl (fun _ _ => Nat.le_of_ble_eq_true rfl) dX12_takesE_144 (fun H locs hI => ?_)
            rw [zrr_26] at hI
            refine lv_iconst (v := (nI 1)) hx hb dX12_takesE_147 rfl ?_
            refine lv_istore_n (lv' := [(2, .int (nI 1)), (3, .int ((zrt x F) p2)), (0, .ref (za G 77)), (1, .int (nI c1))]) hx hb dX12_takesE_148 rfl hl (by decide) rfl (fun ls hl => ?_)
            refine lv_aload_n hx hb dX12_takesE_149 rfl (lv_at hl 2 rfl) ?_
            refine lv_dup hx hb dX12_takesE_150 rfl ?_
            refine z_get (C := RX12) (T := TX12) (N := 51) (ci := 12) (v := .int (nI p2)) hx hb hts hin12 hown hK hI (zo77 hG) rfl 15 (by decide) wF57 (fun _ h9 => h9) rfl dX12_takesE_151 ?_
            refine lv_iconst (v := (nI 1)) hx hb dX12_takesE_154 rfl ?_
            refine z_iadd (v := (nI (p2 + 1))) hx hb (nI_add _ _) dX12_takesE_155 ?_
            refine z_putI (C := RX12) (T := TX12) (N := 51) (ci := 12) (ty := .int) hx hb hts hin12 tyX12 tyX12_ok nmX12 hown hK hI (zo77 hG) rfl 15 (by decide) wF57 (fun _ h9 => h9) rfl (fun _ _ => rfl) (by decide +kernel) rfl rfl (fun _ _ => Nat.le_of_ble_eq_true rfl) dX12_takesE_156 (fun H locs hI => ?_)
            rw [zrr_15] at hI
            refine lv_goto (tgt := 22) hx hb dX12_takesE_159 (by decide) ?_
            exact ih22 g9 true (p2 + 1) ((zsl v5 ((zrt x F) p2) n2 s2 v4).1) (((zsl v5 ((zrt x F) p2) n2 s2 v4).2.1) + 1) o2 d2 ((zsl v5 ((zrt x F) p2) n2 s2 v4).2.2) (upd v5 ((zsl v5 ((zrt x F) p2) n2 s2 v4).2.1) ((zrt x F) p2)) tv (by rw [← hF9, zrE, if_pos hb9]) (by omega) hp3 (by omega) (by omega) (by omega) _ _ hI ls (lv_sub hl [2, 3, 0] rfl)
      · skip
        rw [zb_0, Classical.not_not] at c_28
        subst c_28
        refine lv_iload_n hx hb dX12_takesE_31 rfl (lv_at hl 0 rfl) ?_
        refine lv_bipush (v := (nI 33)) hx hb dX12_takesE_32 rfl ?_
        refine lv_icmp_eq (tgt := 43) hx hb dX12_takesE_34 (by decide) (fun c_34 => ?_) (fun c_34 => ?_)
        · skip
          have hb9 : (zrt x F) p2 = nI 33 ∨ (zrt x F) p2 = nI 40 := Or.inl c_34
          have hp3 : p2 + 1 ≤ F := zT_lt zrt_e (fun e9 => by rw [e9] at hb9; exact absurd hb9 (by decide))
          refine lv_aload_n hx hb dX12_takesE_43 rfl (lv_at hl 1 rfl) ?_
          refine z_get (C := RX12) (T := TX12) (N := 51) (ci := 12) (v := .int o2) hx hb hts hin12 hown hK hI (zo77 hG) rfl 27 (by decide) wF93 (fun _ h9 => h9) rfl dX12_takesE_44 ?_
          refine lv_iconst (v := (nI 4)) hx hb dX12_takesE_47 rfl ?_
          refine lv_icmp_ne (tgt := 53) hx hb dX12_takesE_48 (by decide) (fun c_48 => ?_) (fun c_48 => ?_)
          · skip
            refine lv_aload_n hx hb dX12_takesE_53 rfl (lv_at hl 1 rfl) ?_
            refine lv_dup hx hb dX12_takesE_54 rfl ?_
            refine z_get (C := RX12) (T := TX12) (N := 51) (ci := 12) (v := .int o2) hx hb hts hin12 hown hK hI (zo77 hG) rfl 27 (by decide) wF93 (fun _ h9 => h9) rfl dX12_takesE_55 ?_
            refine lv_iconst (v := (nI 1)) hx hb dX12_takesE_58 rfl ?_
            refine lv_iadd hx hb dX12_takesE_59 ?_
            refine z_putI (C := RX12) (T := TX12) (N := 51) (ci := 12) (ty := .int) hx hb hts hin12 tyX12 tyX12_ok nmX12 hown hK hI (zo77 hG) rfl 27 (by decide) wF93 (fun _ h9 => h9) rfl (fun _ _ => rfl) (by decide +kernel) rfl rfl (fun _ _ => Nat.le_of_ble_eq_true rfl) dX12_takesE_60 (fun H locs hI => ?_)
            rw [zrr_27] at hI
            refine lv_aload_n hx hb dX12_takesE_63 rfl (lv_at hl 1 rfl) ?_
            refine z_get (C := RX12) (T := TX12) (N := 51) (ci := 12) (v := .ref (za G 95)) hx hb hts hin12 hown hK hI (zo77 hG) rfl 24 (by decide) wF84 (fun _ h9 => h9) rfl dX12_takesE_64 ?_
            refine lv_aload_n hx hb dX12_takesE_67 rfl (lv_at hl 1 rfl) ?_
            refine z_get (C := RX12) (T := TX12) (N := 51) (ci := 12) (v := .int (nI n2)) hx hb hts hin12 hown hK hI (zo77 hG) rfl 26 (by decide) wF90 (fun _ h9 => h9) rfl dX12_takesE_68 ?_
            refine lv_iload_n hx hb dX12_takesE_71 rfl (lv_at hl 0 rfl) ?_
            refine z_iast (y := ((zrt x F) p2)) hx hb hK hI (zo95 hG) n2 rfl (by omega) (by decide) dX12_takesE_72 (fun H locs hI => ?_)
            rw [zrr_95] at hI
            refine lv_aload_n hx hb dX12_takesE_73 rfl (lv_at hl 1 rfl) ?_
            refine lv_dup hx hb dX12_takesE_74 rfl ?_
            refine z_get (C := RX12) (T := TX12) (N := 51) (ci := 12) (v := .int (nI n2)) hx hb hts hin12 hown hK hI (zo77 hG) rfl 26 (by decide) wF90 (fun _ h9 => h9) rfl dX12_takesE_75 ?_
            refine lv_iconst (v := (nI 1)) hx hb dX12_takesE_78 rfl ?_
            refine z_iadd (v := (nI (n2 + 1))) hx hb (nI_add _ _) dX12_takesE_79 ?_
            refine z_putI (C := RX12) (T := TX12) (N := 51) (ci := 12) (ty := .int) hx hb hts hin12 tyX12 tyX12_ok nmX12 hown hK hI (zo77 hG) rfl 26 (by decide) wF90 (fun _ h9 => h9) rfl (fun _ _ => rfl) (by decide +kernel) rfl rfl (fun _ _ => Nat.le_of_ble_eq_true rfl) dX12_takesE_80 (fun H locs hI => ?_)
            rw [zrr_26] at hI
            refine lv_aload_n hx hb dX12_takesE_83 rfl (lv_at hl 1 rfl) ?_
            refine lv_dup hx hb dX12_takesE_84 rfl ?_
            refine z_get (C := RX12) (T := TX12) (N := 51) (ci := 12) (v := .int (nI p2)) hx hb hts hin12 hown hK hI (zo77 hG) rfl 15 (by decide) wF57 (fun _ h9 => h9) rfl dX12_takesE_85 ?_
            refine lv_iconst (v := (nI 1)) hx hb dX12_takesE_88 rfl ?_
            refine z_iadd (v := (nI (p2 + 1))) hx hb (nI_add _ _) dX12_takesE_89 ?_
            refine z_putI (C := RX12) (T := TX12) (N := 51) (ci := 12) (ty := .int) hx hb hts hin12 tyX12 tyX12_ok nmX12 hown hK hI (zo77 hG) rfl 15 (by decide) wF57 (fun _ h9 => h9) rfl (fun _ _ => rfl) (by decide +kernel) rfl rfl (fun _ _ => Nat.le_of_ble_eq_true rfl) dX12_takesE_90 (fun H locs hI => ?_)
            rw [zrr_15] at hI
            refine lv_goto (tgt := 22) hx hb dX12_takesE_93 (by decide) ?_
            exact ih22 g9 true (p2 + 1) s2 (n2 + 1) (o2 + (nI 1)) d2 v4 (upd v5 n2 ((zrt x F) p2)) tv (by rw [← hF9, zrE, if_pos hb9, if_neg c_48]) (by omega) hp3 (by omega) (by omega) (by omega) _ _ hI ls (lv_sub hl [1, 2, 3] rfl)
          · skip
            refine lv_iconst (v := (nI 0)) hx hb dX12_takesE_51 rfl ?_
            exact z_zret hx hb hr hlocks hI (Or.inl rfl) ((by rw [← hF9, zrE, if_pos hb9, if_pos c_48]; exact ⟨rfl, rfl⟩)) dX12_takesE_52
        · skip
          refine lv_iload_n hx hb dX12_takesE_37 rfl (lv_at hl 0 rfl) ?_
          refine lv_bipush (v := (nI 40)) hx hb dX12_takesE_38 rfl ?_
          refine lv_icmp_ne (tgt := 96) hx hb dX12_takesE_40 (by decide) (fun c_40 => ?_) (fun c_40 => ?_)
          · skip
            have hb9 : ¬ ((zrt x F) p2 = nI 33 ∨ (zrt x F) p2 = nI 40) := fun h9 => h9.elim c_34 c_40
            refine lv_aload_n hx hb dX12_takesE_96 rfl (lv_at hl 1 rfl) ?_
            refine z_calli (va_runV (As := []) (rest := []) ⟨hx, hb, hml, hown, hts⟩ ((c_X12_takesTest l hG (zsI (zsI x 92 c1 (nI s1)) 93 c1 tv) p2 s2 n2 F o2 d2 v4 v5 hfd hF hp2 hn2 hs2) A) (cwV 0 hts gX12_takesE_X12_takesTest rfl rfl rfl (by decide +kernel) ⟨Nat.le_of_ble_eq_true rfl, Nat.le_of_ble_eq_true rfl⟩) (z_pV hI hK hN (z_recv hK hI (zo77 hG) rfl)) rfl rfl hl.1 rfl (lv_room (Nat.le_of_ble_eq_true rfl)) dX12_takesE_97 ⟨Nat.zero_le _, Nat.zero_le _⟩) hI (fun r_97 u H locs hw hI => ?_)
            rw [show zrt (zsI (zsI x 92 c1 (nI s1)) 93 c1 tv) F = zrt x F from rfl] at hw
            obtain ⟨rfl, rfl⟩ := hw
            have hI : zI G (zrr (zsI (zsI x 92 c1 (nI s1)) 93 c1 tv) (zrT (zrt x F) p2 s2 n2 o2 d2 v4 v5).2.1 (zrT (zrt x F) p2 s2 n2 o2 d2 v4 v5).2.2.1 (zrT (zrt x F) p2 s2 n2 o2 d2 v4 v5).2.2.2.1 (zrT (zrt x F) p2 s2 n2 o2 d2 v4 v5).2.2.2.2.1 (zrT (zrt x F) p2 s2 n2 o2 d2 v4 v5).2.2.2.2.2.1 (zrT (zrt x F) p2 s2 n2 o2 d2 v4 v5).2.2.2.2.2.2.1 (zrT (zrt x F) p2 s2 n2 o2 d2 v4 v5).2.2.2.2.2.2.2) A s.heap H locs := hI
            have hti := zrT_in (o := o2) (d := d2) (w4 := v4) (w5 := v5) (zrt_e (x := x) (F := F)) hp2 hn2 hs2
            refine lv_if_eq (tgt := 108) hx hb dX12_takesE_100 (by decide) (fun c_100 => ?_) (fun c_100 => ?_)
            · skip
              rw [zb_0] at c_100
              refine lv_iconst (v := (nI 0)) hx hb dX12_takesE_108 rfl ?_
              exact z_zret hx hb hr hlocks hI (Or.inl rfl) ((by rw [← hF9, zrE, if_neg hb9, if_neg c_100]; exact ⟨rfl, rfl⟩)) dX12_takesE_109
            · skip
              rw [zb_0, Classical.not_not] at c_100
              refine lv_iconst (v := (nI 0)) hx hb dX12_takesE_103 rfl ?_
              refine lv_istore_n (lv' := [(2, .int (nI 0)), (3, .int ((zrt x F) p2)), (0, .ref (za G 77)), (1, .int (nI c1))]) hx hb dX12_takesE_104 rfl hl (by decide) rfl (fun ls hl => ?_)
              refine lv_goto (tgt := 22) hx hb dX12_takesE_105 (by decide) ?_
              exact ih22 g9 false ((zrT (zrt x F) p2 s2 n2 o2 d2 v4 v5).2.1) ((zrT (zrt x F) p2 s2 n2 o2 d2 v4 v5).2.2.1) ((zrT (zrt x F) p2 s2 n2 o2 d2 v4 v5).2.2.2.1) ((zrT (zrt x F) p2 s2 n2 o2 d2 v4 v5).2.2.2.2.1) ((zrT (zrt x F) p2 s2 n2 o2 d2 v4 v5).2.2.2.2.2.1) ((zrT (zrt x F) p2 s2 n2 o2 d2 v4 v5).2.2.2.2.2.2.1) ((zrT (zrt x F) p2 s2 n2 o2 d2 v4 v5).2.2.2.2.2.2.2) tv (by rw [← hF9, zrE, if_neg hb9, if_pos c_100]) (by have h9 := hti.2 c_100; omega) (hti.1.1) (hti.1.2.2.1) (hti.1.2.2.2) (by omega) _ _ hI ls (lv_sub hl [2, 3, 0] rfl)
          · skip
            have hb9 : (zrt x F) p2 = nI 33 ∨ (zrt x F) p2 = nI 40 := Or.inr c_40
            have hp3 : p2 + 1 ≤ F := zT_lt zrt_e (fun e9 => by rw [e9] at hb9; exact absurd hb9 (by decide))
            refine lv_aload_n hx hb dX12_takesE_43 rfl (lv_at hl 1 rfl) ?_
            refine z_get (C := RX12) (T := TX12) (N := 51) (ci := 12) (v := .int o2) hx hb hts hin12 hown hK hI (zo77 hG) rfl 27 (by decide) wF93 (fun _ h9 => h9) rfl dX12_takesE_44 ?_
            refine lv_iconst (v := (nI 4)) hx hb dX12_takesE_47 rfl ?_
            refine lv_icmp_ne (tgt := 53) hx hb dX12_takesE_48 (by decide) (fun c_48 => ?_) (fun c_48 => ?_)
            · skip
              refine lv_aload_n hx hb dX12_takesE_53 rfl (lv_at hl 1 rfl) ?_
              refine lv_dup hx hb dX12_takesE_54 rfl ?_
              refine z_get (C := RX12) (T := TX12) (N := 51) (ci := 12) (v := .int o2) hx hb hts hin12 hown hK hI (zo77 hG) rfl 27 (by decide) wF93 (fun _ h9 => h9) rfl dX12_takesE_55 ?_
              refine lv_iconst (v := (nI 1)) hx hb dX12_takesE_58 rfl ?_
              refine lv_iadd hx hb dX12_takesE_59 ?_
              refine z_putI (C := RX12) (T := TX12) (N := 51) (ci := 12) (ty := .int) hx hb hts hin12 tyX12 tyX12_ok nmX12 hown hK hI (zo77 hG) rfl 27 (by decide) wF93 (fun _ h9 => h9) rfl (fun _ _ => rfl) (by decide +kernel) rfl rfl (fun _ _ => Nat.le_of_ble_eq_true rfl) dX12_takesE_60 (fun H locs hI => ?_)
              rw [zrr_27] at hI
              refine lv_aload_n hx hb dX12_takesE_63 rfl (lv_at hl 1 rfl) ?_
              refine z_get (C := RX12) (T := TX12) (N := 51) (ci := 12) (v := .ref (za G 95)) hx hb hts hin12 hown hK hI (zo77 hG) rfl 24 (by decide) wF84 (fun _ h9 => h9) rfl dX12_takesE_64 ?_
              refine lv_aload_n hx hb dX12_takesE_67 rfl (lv_at hl 1 rfl) ?_
              refine z_get (C := RX12) (T := TX12) (N := 51) (ci := 12) (v := .int (nI n2)) hx hb hts hin12 hown hK hI (zo77 hG) rfl 26 (by decide) wF90 (fun _ h9 => h9) rfl dX12_takesE_68 ?_
              refine lv_iload_n hx hb dX12_takesE_71 rfl (lv_at hl 0 rfl) ?_
              refine z_iast (y := ((zrt x F) p2)) hx hb hK hI (zo95 hG) n2 rfl (by omega) (by decide) dX12_takesE_72 (fun H locs hI => ?_)
              rw [zrr_95] at hI
              refine lv_aload_n hx hb dX12_takesE_73 rfl (lv_at hl 1 rfl) ?_
              refine lv_dup hx hb dX12_takesE_74 rfl ?_
              refine z_get (C := RX12) (T := TX12) (N := 51) (ci := 12) (v := .int (nI n2)) hx hb hts hin12 hown hK hI (zo77 hG) rfl 26 (by decide) wF90 (fun _ h9 => h9) rfl dX12_takesE_75 ?_
              refine lv_iconst (v := (nI 1)) hx hb dX12_takesE_78 rfl ?_
              refine z_iadd (v := (nI (n2 + 1))) hx hb (nI_add _ _) dX12_takesE_79 ?_
              refine z_putI (C := RX12) (T := TX12) (N := 51) (ci := 12) (ty := .int) hx hb hts hin12 tyX12 tyX12_ok nmX12 hown hK hI (zo77 hG) rfl 26 (by decide) wF90 (fun _ h9 => h9) rfl (fun _ _ => rfl) (by decide +kernel) rfl rfl (fun _ _ => Nat.le_of_ble_eq_true rfl) dX12_takesE_80 (fun H locs hI => ?_)
              rw [zrr_26] at hI
              refine lv_aload_n hx hb dX12_takesE_83 rfl (lv_at hl 1 rfl) ?_
              refine lv_dup hx hb dX12_takesE_84 rfl ?_
              refine z_get (C := RX12) (T := TX12) (N := 51) (ci := 12) (v := .int (nI p2)) hx hb hts hin12 hown hK hI (zo77 hG) rfl 15 (by decide) wF57 (fun _ h9 => h9) rfl dX12_takesE_85 ?_
              refine lv_iconst (v := (nI 1)) hx hb dX12_takesE_88 rfl ?_
              refine z_iadd (v := (nI (p2 + 1))) hx hb (nI_add _ _) dX12_takesE_89 ?_
              refine z_putI (C := RX12) (T := TX12) (N := 51) (ci := 12) (ty := .int) hx hb hts hin12 tyX12 tyX12_ok nmX12 hown hK hI (zo77 hG) rfl 15 (by decide) wF57 (fun _ h9 => h9) rfl (fun _ _ => rfl) (by decide +kernel) rfl rfl (fun _ _ => Nat.le_of_ble_eq_true rfl) dX12_takesE_90 (fun H locs hI => ?_)
              rw [zrr_15] at hI
              refine lv_goto (tgt := 22) hx hb dX12_takesE_93 (by decide) ?_
              exact ih22 g9 true (p2 + 1) s2 (n2 + 1) (o2 + (nI 1)) d2 v4 (upd v5 n2 ((zrt x F) p2)) tv (by rw [← hF9, zrE, if_pos hb9, if_neg c_48]) (by omega) hp3 (by omega) (by omega) (by omega) _ _ hI ls (lv_sub hl [1, 2, 3] rfl)
            · skip
              refine lv_iconst (v := (nI 0)) hx hb dX12_takesE_51 rfl ?_
              exact z_zret hx hb hr hlocks hI (Or.inl rfl) ((by rw [← hF9, zrE, if_pos hb9, if_pos c_48]; exact ⟨rfl, rfl⟩)) dX12_takesE_52
  exact L22 (F + 1 - p1) (F + 1 - p1) true p1 s1 0 (nI 0) d1 w4 w5 (x.1 93 c1) rfl (by omega) hp1 (by omega) (by omega) (by omega) _ _ hI ls (lv_sub hl [1, 2, 0] rfl)
