set_option maxHeartbeats 1000000 in
set_option maxRecDepth 100000 in
theorem c_X12_shift (l : Launch) {G : zG} (hG : zOK G) (x : zX) (t0 i t1 j n : Int32) (htp : zTpR x) : zMi l yX12_shift wsX12_shift { frames := 2, cells := 0, slots := 0, locals := 44 } G [.ref (za G 77), .int t0, .int i, .int t1, .int j, .int n] x (fun (r : Int32) (u : zX) => (¬ (zin 6 t0 ∧ zin 6 t1) ∧ x = u ∧ -1 = r) ∨ ((zin 6 t0 ∧ zin 6 t1) ∧ (x.1 108 t0.toNatClampNeg < 0 ∨ x.1 108 t1.toNatClampNeg < 0) ∧ x = u ∧ -11 = r) ∨ ((zin 6 t0 ∧ zin 6 t1) ∧ ¬ (x.1 108 t0.toNatClampNeg < 0 ∨ x.1 108 t1.toNatClampNeg < 0) ∧ ¬ x.1 108 t0.toNatClampNeg = x.1 108 t1.toNatClampNeg ∧ x = u ∧ -12 = r) ∨ ((zin 6 t0 ∧ zin 6 t1) ∧ ¬ (x.1 108 t0.toNatClampNeg < 0 ∨ x.1 108 t1.toNatClampNeg < 0) ∧ x.1 108 t0.toNatClampNeg = x.1 108 t1.toNatClampNeg ∧ ¬ (zstT x t0.toNatClampNeg i n ∧ zstT x t1.toNatClampNeg j n) ∧ x = u ∧ -13 = r) ∨ ((zin 6 t0 ∧ zin 6 t1) ∧ ¬ (x.1 108 t0.toNatClampNeg < 0 ∨ x.1 108 t1.toNatClampNeg < 0) ∧ x.1 108 t0.toNatClampNeg = x.1 108 t1.toNatClampNeg ∧ (zstT x t0.toNatClampNeg i n ∧ zstT x t1.toNatClampNeg j n) ∧ zshB x t0.toNatClampNeg i.toNatClampNeg t1.toNatClampNeg j.toNatClampNeg n.toNatClampNeg n.toNatClampNeg = u ∧ n = r)) := by
  intro A
  refine zBody (cc := cX12_shift) (maxL := 7) (ret := (some .int)) (by decide) rfl (Nat.le_of_ble_eq_true rfl) ?_
  intro p e s m below meth c hx hb hml hown hts hr hlocks hK hN hI ls hl
  have hown : s.vm.findClass RX12 = some m.cls := hown
  have hl : lv_has ls 7 [(0, .ref (za G 77)), (1, .int t0), (2, .int i), (3, .int t1), (4, .int j), (5, .int n)] := hl
  have hin12 : ∀ w ∈ wsX120, w ∈ wsX12_shift := (fun _ h => List.mem_cons_of_mem _ (List.mem_append_right _ (h)))
  have wF154 := hts (.fieldLink RX12 154 "WhoSitsByModel" "sort" "[I") (z_mem 1 rfl)
  have wF157 := hts (.fieldLink RX12 157 "WhoSitsByModel" "length" "[I") (z_mem 2 rfl)
  have wF160 := hts (.fieldLink RX12 160 "WhoSitsByModel" "item" "[J") (z_mem 4 rfl)
  have wF164 := hts (.fieldLink RX12 164 "WhoSitsByModel" "aside" "[J") (z_mem 3 rfl)
  refine lv_aload_n hx hb dX12_shift_0 rfl (lv_at hl 0 rfl) ?_
  refine lv_iload_n hx hb dX12_shift_1 rfl (lv_at hl 1 rfl) ?_
  refine z_calli (va_runV (As := [.int t0]) (rest := []) ⟨hx, hb, hml, hown, hts⟩ ((c_X12_isTape l hG x t0) A) (cwV 1 hts gX12_shift_X12_isTape rfl rfl rfl (by decide +kernel) ⟨Nat.le_of_ble_eq_true rfl, Nat.le_of_ble_eq_true rfl⟩) (z_pV hI hK hN (z_recv hK hI (zo77 hG) rfl)) rfl rfl hl.1 rfl (lv_room (Nat.le_of_ble_eq_true rfl)) dX12_shift_2 ⟨Nat.zero_le _, Nat.zero_le _⟩) hI (fun r_2 u H locs hw hI => ?_)
  obtain ⟨rfl, rfl⟩ := hw
  refine lv_if_eq (tgt := 16) hx hb dX12_shift_5 (by decide) (fun c_5 => ?_) (fun c_5 => ?_)
  · skip
    rw [zb_0] at c_5
    refine lv_iconst (v := (-1)) hx hb dX12_shift_16 rfl ?_
    exact z_iret hx hb hr hlocks hI (Or.inl ⟨fun h => c_5 h.1, rfl, rfl⟩) dX12_shift_17
  · skip
    rw [zb_0, Classical.not_not] at c_5
    refine lv_aload_n hx hb dX12_shift_8 rfl (lv_at hl 0 rfl) ?_
    refine lv_iload_n hx hb dX12_shift_9 rfl (lv_at hl 3 rfl) ?_
    refine z_calli (va_runV (As := [.int t1]) (rest := []) ⟨hx, hb, hml, hown, hts⟩ ((c_X12_isTape l hG x t1) A) (cwV 1 hts gX12_shift_X12_isTape rfl rfl rfl (by decide +kernel) ⟨Nat.le_of_ble_eq_true rfl, Nat.le_of_ble_eq_true rfl⟩) (z_pV hI hK hN (z_recv hK hI (zo77 hG) rfl)) rfl rfl hl.1 rfl (lv_room (Nat.le_of_ble_eq_true rfl)) dX12_shift_10 ⟨Nat.zero_le _, Nat.zero_le _⟩) hI (fun r_10 u H locs hw hI => ?_)
    obtain ⟨rfl, rfl⟩ := hw
    refine lv_if_ne (tgt := 18) hx hb dX12_shift_13 (by decide) (fun c_13 => ?_) (fun c_13 => ?_)
    · skip
      rw [zb_0, Classical.not_not] at c_13
      obtain ⟨t, ht, rfl⟩ := z_ix c_5.1 c_5.2 (by decide)
      obtain ⟨t2, ht2, rfl⟩ := z_ix c_13.1 c_13.2 (by decide)
      have ect : (nI t).toNatClampNeg = t := nI_clamp (by omega)
      have ect2 : (nI t2).toNatClampNeg = t2 := nI_clamp (by omega)
      have hz : zin 6 (nI t) ∧ zin 6 (nI t2) := ⟨c_5, c_13⟩
      have h60 := (htp t ht).2
      have h602 := (htp t2 ht2).2
      refine lv_aload_n hx hb dX12_shift_18 rfl (lv_at hl 0 rfl) ?_
      refine z_get (C := RX12) (T := TX12) (N := 51) (ci := 12) (v := .ref (za G 108)) hx hb hts hin12 hown hK hI (zo77 hG) rfl 47 (by decide) wF154 (fun _ h9 => h9) rfl dX12_shift_19 ?_
      refine lv_iload_n hx hb dX12_shift_22 rfl (lv_at hl 1 rfl) ?_
      refine z_iald (v := (x.1 108 t)) hx hb hK hI (zo108 hG) t rfl (by omega) (by decide) rfl dX12_shift_23 ?_
      refine lv_if_lt (tgt := 36) hx hb dX12_shift_24 (by decide) (fun c_24 => ?_) (fun c_24 => ?_)
      · skip
        refine lv_bipush (v := (-11)) hx hb dX12_shift_36 rfl ?_
        exact z_iret hx hb hr hlocks hI (Or.inr (Or.inl ⟨hz, (by rw [ect, ect2]; exact Or.inl c_24), rfl, rfl⟩)) dX12_shift_38
      · skip
        refine lv_aload_n hx hb dX12_shift_27 rfl (lv_at hl 0 rfl) ?_
        refine z_get (C := RX12) (T := TX12) (N := 51) (ci := 12) (v := .ref (za G 108)) hx hb hts hin12 hown hK hI (zo77 hG) rfl 47 (by decide) wF154 (fun _ h9 => h9) rfl dX12_shift_28 ?_
        refine lv_iload_n hx hb dX12_shift_31 rfl (lv_at hl 3 rfl) ?_
        refine z_iald (v := (x.1 108 t2)) hx hb hK hI (zo108 hG) t2 rfl (by omega) (by decide) rfl dX12_shift_32 ?_
        refine lv_if_ge (tgt := 39) hx hb dX12_shift_33 (by decide) (fun c_33 => ?_) (fun c_33 => ?_)
        · skip
          refine lv_aload_n hx hb dX12_shift_39 rfl (lv_at hl 0 rfl) ?_
          refine z_get (C := RX12) (T := TX12) (N := 51) (ci := 12) (v := .ref (za G 108)) hx hb hts hin12 hown hK hI (zo77 hG) rfl 47 (by decide) wF154 (fun _ h9 => h9) rfl dX12_shift_40 ?_
          refine lv_iload_n hx hb dX12_shift_43 rfl (lv_at hl 1 rfl) ?_
          refine z_iald (v := (x.1 108 t)) hx hb hK hI (zo108 hG) t rfl (by omega) (by decide) rfl dX12_shift_44 ?_
          refine lv_aload_n hx hb dX12_shift_45 rfl (lv_at hl 0 rfl) ?_
          refine z_get (C := RX12) (T := TX12) (N := 51) (ci := 12) (v := .ref (za G 108)) hx hb hts hin12 hown hK hI (zo77 hG) rfl 47 (by decide) wF154 (fun _ h9 => h9) rfl dX12_shift_46 ?_
          refine lv_iload_n hx hb dX12_shift_49 rfl (lv_at hl 3 rfl) ?_
          refine z_iald (v := (x.1 108 t2)) hx hb hK hI (zo108 hG) t2 rfl (by omega) (by decide) rfl dX12_shift_50 ?_
          refine lv_icmp_eq (tgt := 57) hx hb dX12_shift_51 (by decide) (fun c_51 => ?_) (fun c_51 => ?_)
          · skip
            refine lv_iload hx hb dX12_shift_57 (lv_at hl 5 rfl) ?_
            refine lv_if_lt (tgt := 98) hx hb dX12_shift_59 (by decide) (fun c_59 => ?_) (fun c_59 => ?_)
            · skip
              refine lv_bipush (v := (-13)) hx hb dX12_shift_98 rfl ?_
              exact z_iret hx hb hr hlocks hI (Or.inr (Or.inr (Or.inr (Or.inl ⟨hz, (by rw [ect, ect2]; exact fun h => h.elim c_24 (z_nle c_33)), (by rw [ect, ect2]; exact c_51), (by rw [ect, ect2]; exact fun h => h.1.2.1 c_59), rfl, rfl⟩)))) dX12_shift_100
            · skip
              refine lv_iload_n hx hb dX12_shift_62 rfl (lv_at hl 2 rfl) ?_
              refine lv_if_lt (tgt := 98) hx hb dX12_shift_63 (by decide) (fun c_63 => ?_) (fun c_63 => ?_)
              · skip
                refine lv_bipush (v := (-13)) hx hb dX12_shift_98 rfl ?_
                exact z_iret hx hb hr hlocks hI (Or.inr (Or.inr (Or.inr (Or.inl ⟨hz, (by rw [ect, ect2]; exact fun h => h.elim c_24 (z_nle c_33)), (by rw [ect, ect2]; exact c_51), (by rw [ect, ect2]; exact fun h => h.1.1 c_63), rfl, rfl⟩)))) dX12_shift_100
              · skip
                refine lv_iload hx hb dX12_shift_66 (lv_at hl 4 rfl) ?_
                refine lv_if_lt (tgt := 98) hx hb dX12_shift_68 (by decide) (fun c_68 => ?_) (fun c_68 => ?_)
                · skip
                  refine lv_bipush (v := (-13)) hx hb dX12_shift_98 rfl ?_
                  exact z_iret hx hb hr hlocks hI (Or.inr (Or.inr (Or.inr (Or.inl ⟨hz, (by rw [ect, ect2]; exact fun h => h.elim c_24 (z_nle c_33)), (by rw [ect, ect2]; exact c_51), (by rw [ect, ect2]; exact fun h => h.2.1 c_68), rfl, rfl⟩)))) dX12_shift_100
                · skip
                  refine lv_iload_n hx hb dX12_shift_71 rfl (lv_at hl 2 rfl) ?_
                  refine lv_aload_n hx hb dX12_shift_72 rfl (lv_at hl 0 rfl) ?_
                  refine z_get (C := RX12) (T := TX12) (N := 51) (ci := 12) (v := .ref (za G 109)) hx hb hts hin12 hown hK hI (zo77 hG) rfl 48 (by decide) wF157 (fun _ h9 => h9) rfl dX12_shift_73 ?_
                  refine lv_iload_n hx hb dX12_shift_76 rfl (lv_at hl 1 rfl) ?_
                  refine z_iald (v := (nI (zszR x t))) hx hb hK hI (zo109 hG) t rfl (by omega) (by decide) (htp t ht).1 dX12_shift_77 ?_
                  refine lv_iload hx hb dX12_shift_78 (lv_at hl 5 rfl) ?_
                  refine lv_isub hx hb dX12_shift_80 ?_
                  refine lv_icmp_gt (tgt := 98) hx hb dX12_shift_81 (by decide) (fun c_81 => ?_) (fun c_81 => ?_)
                  · skip
                    refine lv_bipush (v := (-13)) hx hb dX12_shift_98 rfl ?_
                    exact z_iret hx hb hr hlocks hI (Or.inr (Or.inr (Or.inr (Or.inl ⟨hz, (by rw [ect, ect2]; exact fun h => h.elim c_24 (z_nle c_33)), (by rw [ect, ect2]; exact c_51), (by rw [ect, ect2]; exact fun h => (z_stR h60 c_63 c_59).mp c_81 h.1.2.2), rfl, rfl⟩)))) dX12_shift_100
                  · skip
                    refine lv_iload hx hb dX12_shift_84 (lv_at hl 4 rfl) ?_
                    refine lv_aload_n hx hb dX12_shift_86 rfl (lv_at hl 0 rfl) ?_
                    refine z_get (C := RX12) (T := TX12) (N := 51) (ci := 12) (v := .ref (za G 109)) hx hb hts hin12 hown hK hI (zo77 hG) rfl 48 (by decide) wF157 (fun _ h9 => h9) rfl dX12_shift_87 ?_
                    refine lv_iload_n hx hb dX12_shift_90 rfl (lv_at hl 3 rfl) ?_
                    refine z_iald (v := (nI (zszR x t2))) hx hb hK hI (zo109 hG) t2 rfl (by omega) (by decide) (htp t2 ht2).1 dX12_shift_91 ?_
                    refine lv_iload hx hb dX12_shift_92 (lv_at hl 5 rfl) ?_
                    refine lv_isub hx hb dX12_shift_94 ?_
                    refine lv_icmp_le (tgt := 101) hx hb dX12_shift_95 (by decide) (fun c_95 => ?_) (fun c_95 => ?_)
                    · skip
                      have hst1 : zstT x t i n := ⟨c_63, c_59, Classical.not_not.mp (fun q => c_81 ((z_stR h60 c_63 c_59).mpr q))⟩
                      have hst2 : zstT x t2 j n := ⟨c_68, c_59, Classical.not_not.mp (fun q => z_nle c_95 ((z_stR h602 c_68 c_59).mpr q))⟩
                      have hsd : zstT x t i n ∧ zstT x t2 j n := ⟨hst1, hst2⟩
                      obtain ⟨ib, hib, rfl⟩ := z_nat c_63
                      obtain ⟨jb, hjb, rfl⟩ := z_nat c_68
                      obtain ⟨nb, hnb, rfl⟩ := z_nat c_59
                      have eci : (nI ib).toNatClampNeg = ib := nI_clamp hib
                      have ecj : (nI jb).toNatClampNeg = jb := nI_clamp hjb
                      have ecn : (nI nb).toNatClampNeg = nb := nI_clamp hnb
                      have q3 := hst1.2.2
                      have q4 := hst2.2.2
                      rw [eci, ecn] at q3
                      rw [ecj, ecn] at q4
                      refine lv_iconst (v := (nI 0)) hx hb dX12_shift_101 rfl ?_
                      refine lv_istore (lv' := [(6, .int (nI 0)), (0, .ref (za G 77)), (1, .int (nI t)), (2, .int (nI ib)), (3, .int (nI t2)), (4, .int (nI jb)), (5, .int (nI nb))]) hx hb dX12_shift_102 hl (by decide) rfl (fun ls hl => ?_)
                      have L104 : ∀ (f : Nat) (j1 : Nat) (u : zX), (j1 ≤ nb) → (zshA x t ib j1 = u) → nb + 1 ≤ j1 + f → ∀ (H : Heap) (locs : List Loc), zI G u A s.heap H locs → ∀ ls : Array Slot, lv_has ls 7 [(0, .ref (za G 77)), (1, .int (nI t)), (2, .int (nI ib)), (3, .int (nI t2)), (4, .int (nI jb)), (5, .int (nI nb)), (6, .int (nI j1))] → W p l e { frames := 2, cells := 0, slots := 0, locals := 44 } s m ([.ref (za G 77), .int (nI t), .int (nI ib), .int (nI t2), .int (nI jb), .int (nI nb)] : List Value).toArray below meth c H locs 0 0 (MQ below (va_Qi (fun (r : Int32) (u : zX) => (¬ (zin 6 (nI t) ∧ zin 6 (nI t2)) ∧ x = u ∧ -1 = r) ∨ ((zin 6 (nI t) ∧ zin 6 (nI t2)) ∧ (x.1 108 (nI t).toNatClampNeg < 0 ∨ x.1 108 (nI t2).toNatClampNeg < 0) ∧ x = u ∧ -11 = r) ∨ ((zin 6 (nI t) ∧ zin 6 (nI t2)) ∧ ¬ (x.1 108 (nI t).toNatClampNeg < 0 ∨ x.1 108 (nI t2).toNatClampNeg < 0) ∧ ¬ x.1 108 (nI t).toNatClampNeg = x.1 108 (nI t2).toNatClampNeg ∧ x = u ∧ -12 = r) ∨ ((zin 6 (nI t) ∧ zin 6 (nI t2)) ∧ ¬ (x.1 108 (nI t).toNatClampNeg < 0 ∨ x.1 108 (nI t2).toNatClampNeg < 0) ∧ x.1 108 (nI t).toNatClampNeg = x.1 108 (nI t2).toNatClampNeg ∧ ¬ (zstT x (nI t).toNatClampNeg (nI ib) (nI nb) ∧ zstT x (nI t2).toNatClampNeg (nI jb) (nI nb)) ∧ x = u ∧ -13 = r) ∨ ((zin 6 (nI t) ∧ zin 6 (nI t2)) ∧ ¬ (x.1 108 (nI t).toNatClampNeg < 0 ∨ x.1 108 (nI t2).toNatClampNeg < 0) ∧ x.1 108 (nI t).toNatClampNeg = x.1 108 (nI t2).toNatClampNeg ∧ (zstT x (nI t).toNatClampNeg (nI ib) (nI nb) ∧ zstT x (nI t2).toNatClampNeg (nI jb) (nI nb)) ∧ zshB x (nI t).toNatClampNeg (nI ib).toNatClampNeg (nI t2).toNatClampNeg (nI jb).toNatClampNeg (nI nb).toNatClampNeg (nI nb).toNatClampNeg = u ∧ (nI nb) = r)) (fun u t => zJ G u A t.heap) A) ([.ref (za G 77), .int (nI t), .int (nI ib), .int (nI t2), .int (nI jb), .int (nI nb)] : List Value).toArray s 0 0 A) (F0 m 104 ls []) := by
                        intro f
                        induction f with
                        | zero =>
                          intro j1 u h1 hstA hf
                          exact absurd hf (by omega)
                        | succ f ih =>
                          intro j1 u h1 hstA hf H locs hI ls hl
                          have ih104 := ih
                          refine lv_iload hx hb dX12_shift_104 (lv_at hl 6 rfl) ?_
                          refine lv_iload hx hb dX12_shift_106 (lv_at hl 5 rfl) ?_
                          refine lv_icmp_ge (tgt := 138) hx hb dX12_shift_108 (by decide) (fun c_108 => ?_) (fun c_108 => ?_)
                          · skip
                            rw [zqG (by omega) (by omega)] at c_108
                            refine lv_iconst (v := (nI 0)) hx hb dX12_shift_138 rfl ?_
                            refine lv_istore (lv' := [(6, .int (nI 0)), (0, .ref (za G 77)), (1, .int (nI t)), (2, .int (nI ib)), (3, .int (nI t2)), (4, .int (nI jb)), (5, .int (nI nb))]) hx hb dX12_shift_139 hl (by decide) rfl (fun ls hl => ?_)
                            have L141 : ∀ (f : Nat) (j3 : Nat) (u2 : zX), (j3 ≤ nb) → (zshB x t ib t2 jb nb j3 = u2) → nb + 1 ≤ j3 + f → ∀ (H : Heap) (locs : List Loc), zI G u2 A s.heap H locs → ∀ ls : Array Slot, lv_has ls 7 [(0, .ref (za G 77)), (1, .int (nI t)), (2, .int (nI ib)), (3, .int (nI t2)), (4, .int (nI jb)), (5, .int (nI nb)), (6, .int (nI j3))] → W p l e { frames := 2, cells := 0, slots := 0, locals := 44 } s m ([.ref (za G 77), .int (nI t), .int (nI ib), .int (nI t2), .int (nI jb), .int (nI nb)] : List Value).toArray below meth c H locs 0 0 (MQ below (va_Qi (fun (r : Int32) (u : zX) => (¬ (zin 6 (nI t) ∧ zin 6 (nI t2)) ∧ x = u ∧ -1 = r) ∨ ((zin 6 (nI t) ∧ zin 6 (nI t2)) ∧ (x.1 108 (nI t).toNatClampNeg < 0 ∨ x.1 108 (nI t2).toNatClampNeg < 0) ∧ x = u ∧ -11 = r) ∨ ((zin 6 (nI t) ∧ zin 6 (nI t2)) ∧ ¬ (x.1 108 (nI t).toNatClampNeg < 0 ∨ x.1 108 (nI t2).toNatClampNeg < 0) ∧ ¬ x.1 108 (nI t).toNatClampNeg = x.1 108 (nI t2).toNatClampNeg ∧ x = u ∧ -12 = r) ∨ ((zin 6 (nI t) ∧ zin 6 (nI t2)) ∧ ¬ (x.1 108 (nI t).toNatClampNeg < 0 ∨ x.1 108 (nI t2).toNatClampNeg < 0) ∧ x.1 108 (nI t).toNatClampNeg = x.1 108 (nI t2).toNatClampNeg ∧ ¬ (zstT x (nI t).toNatClampNeg (nI ib) (nI nb) ∧ zstT x (nI t2).toNatClampNeg (nI jb) (nI nb)) ∧ x = u ∧ -13 = r) ∨ ((zin 6 (nI t) ∧ zin 6 (nI t2)) ∧ ¬ (x.1 108 (nI t).toNatClampNeg < 0 ∨ x.1 108 (nI t2).toNatClampNeg < 0) ∧ x.1 108 (nI t).toNatClampNeg = x.1 108 (nI t2).toNatClampNeg ∧ (zstT x (nI t).toNatClampNeg (nI ib) (nI nb) ∧ zstT x (nI t2).toNatClampNeg (nI jb) (nI nb)) ∧ zshB x (nI t).toNatClampNeg (nI ib).toNatClampNeg (nI t2).toNatClampNeg (nI jb).toNatClampNeg (nI nb).toNatClampNeg (nI nb).toNatClampNeg = u ∧ (nI nb) = r)) (fun u t => zJ G u A t.heap) A) ([.ref (za G 77), .int (nI t), .int (nI ib), .int (nI t2), .int (nI jb), .int (nI nb)] : List Value).toArray s 0 0 A) (F0 m 141 ls []) := by
                              intro f
                              induction f with
                              | zero =>
                                intro j3 u2 h3 hstB hf
                                exact absurd hf (by omega)
                              | succ f ih =>
                                intro j3 u2 h3 hstB hf H locs hI ls hl
                                have ih141 := ih
                                refine lv_iload hx hb dX12_shift_141 (lv_at hl 6 rfl) ?_
                                refine lv_iload hx hb dX12_shift_143 (lv_at hl 5 rfl) ?_
                                refine lv_icmp_ge (tgt := 176) hx hb dX12_shift_145 (by decide) (fun c_145 => ?_) (fun c_145 => ?_)
                                · skip
                                  rw [zqG (by omega) (by omega)] at c_145
                                  refine lv_iload hx hb dX12_shift_176 (lv_at hl 5 rfl) ?_
                                  exact z_iret hx hb hr hlocks hI (Or.inr (Or.inr (Or.inr (Or.inr ⟨hz, (by rw [ect, ect2]; exact fun h => h.elim c_24 (z_nle c_33)), (by rw [ect, ect2]; exact c_51), (by rw [ect, ect2]; exact hsd), (by rw [ect, ect2, eci, ecj, ecn, ← hstB, show j3 = nb by omega]), rfl⟩)))) dX12_shift_178
                                · skip
                                  rw [zqG (by omega) (by omega)] at c_145
                                  refine lv_aload_n hx hb dX12_shift_148 rfl (lv_at hl 0 rfl) ?_
                                  refine z_get (C := RX12) (T := TX12) (N := 51) (ci := 12) (v := .ref (za G 110)) hx hb hts hin12 hown hK hI (zo77 hG) rfl 49 (by decide) wF160 (fun _ h9 => h9) rfl dX12_shift_149 ?_
                                  refine lv_bipush (v := (nI 60)) hx hb dX12_shift_152 rfl ?_
                                  refine lv_iload_n hx hb dX12_shift_154 rfl (lv_at hl 3 rfl) ?_
                                  refine z_imul (v := (nI (60 * t2))) hx hb (pk_mul _ _) dX12_shift_155 ?_
                                  refine lv_iload hx hb dX12_shift_156 (lv_at hl 4 rfl) ?_
                                  refine z_iadd (v := (nI ((60 * t2) + jb))) hx hb (nI_add _ _) dX12_shift_158 ?_
                                  refine lv_iload hx hb dX12_shift_159 (lv_at hl 6 rfl) ?_
                                  refine z_iadd (v := (nI (((60 * t2) + jb) + j3))) hx hb (nI_add _ _) dX12_shift_161 ?_
                                  refine lv_aload_n hx hb dX12_shift_162 rfl (lv_at hl 0 rfl) ?_
                                  refine z_get (C := RX12) (T := TX12) (N := 51) (ci := 12) (v := .ref (za G 111)) hx hb hts hin12 hown hK hI (zo77 hG) rfl 50 (by decide) wF164 (fun _ h9 => h9) rfl dX12_shift_163 ?_
                                  refine lv_iload hx hb dX12_shift_166 (lv_at hl 6 rfl) ?_
                                  refine z_lald (v := ((zshA x t ib nb).2.1 111 (0 + j3))) hx hb hK hI (zo111 hG) j3 rfl (by omega) (by decide) (by rw [← hstB, Nat.zero_add]; rfl) dX12_shift_168 ?_
                                  refine z_last (y := ((zshA x t ib nb).2.1 111 (0 + j3))) hx hb hK hI (zo110 hG) (((60 * t2) + jb) + j3) rfl (by omega) (by decide) dX12_shift_169 (fun H locs hI => ?_)
                                  refine lv_iinc (v := (nI (j3 + 1))) (lv' := [(6, .int (nI (j3 + 1))), (0, .ref (za G 77)), (1, .int (nI t)), (2, .int (nI ib)), (3, .int (nI t2)), (4, .int (nI jb)), (5, .int (nI nb))]) hx hb dX12_shift_170 hl (k := 6) rfl (zinc j3) (by decide) rfl (fun ls hl => ?_)
                                  refine lv_goto (tgt := 141) hx hb dX12_shift_173 (by decide) ?_
                                  exact ih141 (j3 + 1) (zsL u2 110 (((60 * t2) + jb) + j3) ((zshA x t ib nb).2.1 111 (0 + j3))) (by omega) (by subst hstB; unfold zshB; rw [zsL_r, zsrL_u, zsrL_t, cpy_s rfl]) (by omega) _ _ hI ls (lv_sub hl [1, 2, 3, 4, 5, 6, 0] rfl)
                            exact L141 (nb + 1) 0 u (by omega) (by unfold zshB; rw [cpy_0, ← hstA, show j1 = nb by omega]; exact zsrL_e) (by omega) _ _ hI ls (lv_sub hl [1, 2, 3, 4, 5, 6, 0] rfl)
                          · skip
                            rw [zqG (by omega) (by omega)] at c_108
                            refine lv_aload_n hx hb dX12_shift_111 rfl (lv_at hl 0 rfl) ?_
                            refine z_get (C := RX12) (T := TX12) (N := 51) (ci := 12) (v := .ref (za G 111)) hx hb hts hin12 hown hK hI (zo77 hG) rfl 50 (by decide) wF164 (fun _ h9 => h9) rfl dX12_shift_112 ?_
                            refine lv_iload hx hb dX12_shift_115 (lv_at hl 6 rfl) ?_
                            refine lv_aload_n hx hb dX12_shift_117 rfl (lv_at hl 0 rfl) ?_
                            refine z_get (C := RX12) (T := TX12) (N := 51) (ci := 12) (v := .ref (za G 110)) hx hb hts hin12 hown hK hI (zo77 hG) rfl 49 (by decide) wF160 (fun _ h9 => h9) rfl dX12_shift_118 ?_
                            refine lv_bipush (v := (nI 60)) hx hb dX12_shift_121 rfl ?_
                            refine lv_iload_n hx hb dX12_shift_123 rfl (lv_at hl 1 rfl) ?_
                            refine z_imul (v := (nI (60 * t))) hx hb (pk_mul _ _) dX12_shift_124 ?_
                            refine lv_iload_n hx hb dX12_shift_125 rfl (lv_at hl 2 rfl) ?_
                            refine z_iadd (v := (nI ((60 * t) + ib))) hx hb (nI_add _ _) dX12_shift_126 ?_
                            refine lv_iload hx hb dX12_shift_127 (lv_at hl 6 rfl) ?_
                            refine z_iadd (v := (nI (((60 * t) + ib) + j1))) hx hb (nI_add _ _) dX12_shift_129 ?_
                            refine z_lald (v := (x.2.1 110 ((60 * t + ib) + j1))) hx hb hK hI (zo110 hG) (((60 * t) + ib) + j1) rfl (by omega) (by decide) (by rw [← hstA]; rfl) dX12_shift_130 ?_
                            refine z_last (y := (x.2.1 110 ((60 * t + ib) + j1))) hx hb hK hI (zo111 hG) j1 rfl (by omega) (by decide) dX12_shift_131 (fun H locs hI => ?_)
                            refine lv_iinc (v := (nI (j1 + 1))) (lv' := [(6, .int (nI (j1 + 1))), (0, .ref (za G 77)), (1, .int (nI t)), (2, .int (nI ib)), (3, .int (nI t2)), (4, .int (nI jb)), (5, .int (nI nb))]) hx hb dX12_shift_132 hl (k := 6) rfl (zinc j1) (by decide) rfl (fun ls hl => ?_)
                            refine lv_goto (tgt := 104) hx hb dX12_shift_135 (by decide) ?_
                            exact ih104 (j1 + 1) (zsL u 111 j1 (x.2.1 110 ((60 * t + ib) + j1))) (by omega) (by subst hstA; unfold zshA; rw [zsL_r, zsrL_u, zsrL_t, cpy_s (by omega)]) (by omega) _ _ hI ls (lv_sub hl [1, 2, 3, 4, 5, 6, 0] rfl)
                      exact L104 (nb + 1) 0 x (by omega) (by unfold zshA; rw [cpy_0]; exact zsrL_e) (by omega) _ _ hI ls (lv_sub hl [1, 2, 3, 4, 5, 6, 0] rfl)
                    · skip
                      refine lv_bipush (v := (-13)) hx hb dX12_shift_98 rfl ?_
                      exact z_iret hx hb hr hlocks hI (Or.inr (Or.inr (Or.inr (Or.inl ⟨hz, (by rw [ect, ect2]; exact fun h => h.elim c_24 (z_nle c_33)), (by rw [ect, ect2]; exact c_51), (by rw [ect, ect2]; exact fun h => (z_stR h602 c_68 c_59).mp (z_le c_95) h.2.2.2), rfl, rfl⟩)))) dX12_shift_100
          · skip
            refine lv_bipush (v := (-12)) hx hb dX12_shift_54 rfl ?_
            exact z_iret hx hb hr hlocks hI (Or.inr (Or.inr (Or.inl ⟨hz, (by rw [ect, ect2]; exact fun h => h.elim c_24 (z_nle c_33)), (by rw [ect, ect2]; exact c_51), rfl, rfl⟩))) dX12_shift_56
        · skip
          refine lv_bipush (v := (-11)) hx hb dX12_shift_36 rfl ?_
          exact z_iret hx hb hr hlocks hI (Or.inr (Or.inl ⟨hz, (by rw [ect, ect2]; exact Or.inr (z_le c_33)), rfl, rfl⟩)) dX12_shift_38
    · skip
      rw [zb_0] at c_13
      refine lv_iconst (v := (-1)) hx hb dX12_shift_16 rfl ?_
      exact z_iret hx hb hr hlocks hI (Or.inl ⟨fun h => c_13 h.2, rfl, rfl⟩) dX12_shift_17
