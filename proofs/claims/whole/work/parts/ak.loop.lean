/-! THE START: class and reference as they are made -/
theorem zx0_r {v : Int32} {f : Nat → Int32} (h : f 0 = v ∧ f 1 = v ∧ f 2 = v ∧ f 3 = v ∧ f 4 = v ∧ f 5 = v ∧ f 6 = v ∧ f 7 = v) : ∀ t, t < 8 → f t = v := fun t ht => by
  obtain ⟨h0, h1, h2, h3, h4, h5, h6, h7⟩ := h
  rcases (show t = 0 ∨ t = 1 ∨ t = 2 ∨ t = 3 ∨ t = 4 ∨ t = 5 ∨ t = 6 ∨ t = 7 by omega) with rfl | rfl | rfl | rfl | rfl | rfl | rfl | rfl
  · exact h0
  · exact h1
  · exact h2
  · exact h3
  · exact h4
  · exact h5
  · exact h6
  · exact h7
theorem zRl_0 {D : va_G} {T : Nat → ClassId} {o1 o2 : Nat} {f g : Nat → Nat} : zRl (zG0 D T o1 o2 f g) zx0 0 0 0 := by
  have z0 : (0 : Int32) = nI 0 := rfl
  have e4 : ∀ t, t < 8 → zx0.1 4 t = -1 := zx0_r ⟨rfl, rfl, rfl, rfl, rfl, rfl, rfl, rfl⟩
  have e85 : ∀ t, t < 8 → zx0.1 85 t = -1 := zx0_r ⟨rfl, rfl, rfl, rfl, rfl, rfl, rfl, rfl⟩
  refine zRl.mk (ok := zG0_ok) (pp := ?_) (sc := ?_) (mo := ?_) (he := ?_) (kp := ?_) (rq := ?_) (rz := ?_) (tc := ?_) (ta := ?_) (pt := ?_) (rf := ?_) (rt := ?_) (b5 := ?_) (b6 := ?_)
  · exact ⟨rfl, rfl, fun q hq => absurd hq (by omega)⟩
  · refine ⟨by omega, fun t ht => ⟨(e4 t ht).trans (e85 t ht).symm, Or.inl (e4 t ht)⟩, fun q hq => absurd hq (by omega), fun q hq => absurd hq (by omega), ⟨0, by decide, rfl, fun q hq => ?_⟩, fun q hq => Or.inl rfl⟩
    rw [Nat.zero_testBit]
    exact ⟨fun z => absurd z (by decide), fun z => absurd z.1 (by omega)⟩
  · refine ⟨fun k hk => ⟨?_, fun z => absurd rfl z⟩, fun k hk => Or.inl rfl, ?_⟩
    · rw [show zx0.2.1 1 5 = 0 from rfl, zlb_0]
      exact ⟨fun z => absurd z (by decide), fun z => absurd rfl z⟩
    · rw [show zx0.2.1 1 5 = 0 from rfl, zpc_z (fun k _ => zlb_0 k)]
      rfl
  · exact ⟨rfl, Or.inl rfl⟩
  · exact Or.inl ⟨rfl, rfl⟩
  · exact ⟨by omega, rfl, rfl, fun r hr => absurd hr (by omega), rfl, rfl⟩
  · refine ⟨fun r hr k hk => ⟨0, by omega, ?_⟩, fun k hk => rfl, ⟨0, rfl⟩, ⟨0, rfl⟩, 0, rfl⟩
    rcases (show r = 0 ∨ r = 1 ∨ r = 2 ∨ r = 3 ∨ r = 4 ∨ r = 5 ∨ r = 6 by omega) with rfl | rfl | rfl | rfl | rfl | rfl | rfl <;> rfl
  · exact ⟨0, by omega, rfl, rfl, fun k _ hk => absurd hk (by omega)⟩
  · exact fun z => absurd rfl z
  · exact ⟨zx0_pw, fun k _ o h => (by cases h), fun k _ o h => (by cases h)⟩
  · exact ⟨by omega, rfl, rfl, fun k _ => ⟨0, by omega, rfl⟩, fun k hk => absurd hk (by omega)⟩
  · have h6 : ∀ t, t < 6 → t = 0 ∨ t = 1 ∨ t = 2 ∨ t = 3 ∨ t = 4 ∨ t = 5 := fun t ht => by omega
    refine ⟨fun t ht => ?_, fun t ht => ?_, fun t ht => ⟨?_, Or.inl ?_, rfl, fun _ => rfl, fun j _ => rfl⟩⟩
    · exact ⟨rfl, Nat.zero_le _⟩
    · exact ⟨rfl, Nat.zero_le _⟩
    · rcases h6 t ht with rfl | rfl | rfl | rfl | rfl | rfl <;> rfl
    · rcases h6 t ht with rfl | rfl | rfl | rfl | rfl | rfl <;> rfl
  · exact fun k _ => Or.inl rfl
  · exact fun k _ => Or.inl rfl
theorem z_w63 {v : Int32} (h : ¬ (v.toInt < 0 ∨ 32 < v.toInt)) : ∃ k, k < 33 ∧ v = nI k := by
  refine ⟨v.toInt.toNat, by omega, Int32.toInt_inj.mp ?_⟩
  rw [nI_toInt (by omega)]
  omega
set_option maxHeartbeats 4000000 in
set_option maxRecDepth 100000 in
theorem kL_loop {p : Program} {l : Launch} {e : Env} {s : State} {m : MethodId} {below : List Frame} {meth : Method} {c : Code} {Q : State → Prop} {A : Nat → Prop} {b Ln : Nat} {xs : Nat → Int32} (hx : p.tables.exec = Jvm.exec) (hb : c.code = cL_law) (hml : c.maxLocals = 4) (hown : s.vm.findClass RL = some m.cls) (hts : ∀ w ∈ wsL_law, w.before #[.ref b] s = true) (hX : va_X b Ln xs s s.heap) (hbl : b < s.heap.size) (hbA : ¬ A b) (hN : zN A s) (hAll : ∀ q : Nat, s.heap.size ≤ q → A q) (hLn : Ln ≤ 3072)
    (hend : ∀ (H : Heap) (locs : List Loc) (ls : Array Slot), va_S A s.heap H locs → W p l e room_1 s m #[.ref b] below meth c H locs 600000 7302250 Q (F0 m 1245 ls [.int 1])) :
    ∀ (f j : Nat) (G : zG) (x : zX) (N R L cells slots : Nat) (H : Heap) (locs : List Loc) (ls : Array Slot), Ln < j + f → j ≤ Ln → cells ≤ 112 + j → slots ≤ 4776 + 5 * j → va_K G.1 vwCl (zT G) s → zRl G x N R L → zI G x A s.heap H locs → lv_has ls 4 [(3, .int (nI j)), (2, .ref (za G 77)), (1, .ref (za G 0)), (0, .ref b)] → W p l e room_1 s m #[.ref b] below meth c H locs cells slots Q (F0 m 18 ls [])
  | 0, j, G, x, N, R, L, cells, slots, H, locs, ls, hf, hj9, hc9, hs9, hK, HR, hI, hl => absurd hf (by omega)
  | f + 1, j, G, x, N, R, L, cells, slots, H, locs, ls, hf, hj9, hc9, hs9, hK, HR, hI, hl => by
    have hrc : room_1.cells = 600000 := rfl
    have hrs : room_1.slots = 7302250 := rfl
    refine lv_iload_n hx hb dL_law_18 rfl (lv_at hl 0 rfl) ?_
    refine lv_aload_n hx hb dL_law_19 rfl (lv_at hl 3 rfl) ?_
    refine va_slen hx hb hX hbl hbA hI.2 dL_law_20 ?_
    refine lv_bipush (v := nI 6) hx hb dL_law_21 (by decide) ?_
    refine lv_isub hx hb dL_law_23 ?_
    have e1 : (Int32.ofNat Ln - nI 6).toInt = (Ln : Int) - 6 := pk_sub_toInt (by omega) (by omega)
    have e2 : (nI j).toInt = (j : Int) := nI_toInt (by omega)
    refine lv_icmp_gt (tgt := 1244) hx hb dL_law_24 (by decide) (fun h9 => ?_) (fun h9 => ?_)
    · refine lv_iconst (v := nI 1) hx hb dL_law_1244 (by decide) ?_
      exact zmore (by omega) (by omega) (hend H locs ls hI.2)
    · rw [Int32.lt_iff_toInt_lt, e1, e2] at h9
      have hj : j + 6 ≤ Ln := by omega
      have hcl : cells + 1 ≤ room_1.cells := by omega
      have hsl : slots + 5 ≤ room_1.slots := by omega
      have hnext : ∀ (G2 : zG) (x2 : zX) (N2 R2 L2 : Nat) (H2 : Heap) (locs2 : List Loc), G2.1 = G.1 → zT G2 = zT G → za G2 0 = za G 0 → za G2 77 = za G 77 → zRl G2 x2 N2 R2 L2 → zI G2 x2 A s.heap H2 locs2 → W p l e room_1 s m #[.ref b] below meth c H2 locs2 (cells + 1) (slots + 5) Q (F0 m 1238 ls []) := fun G2 x2 N2 R2 L2 H2 locs2 g1 g2 g3 g4 HR2 hI2 => by
        have ev : nI j + Int32.ofInt 6 = nI (j + 6) := by
          rw [← nI_add]
          rfl
        refine lv_iinc (lv' := [(3, .int (nI (j + 6))), (2, .ref (za G 77)), (1, .ref (za G 0)), (0, .ref b)]) hx hb dL_law_1238 hl (k := 0) rfl ev (by decide) rfl (fun ls hl => ?_)
        refine lv_goto (tgt := 18) hx hb dL_law_1241 (by decide) ?_
        refine kL_loop hx hb hml hown hts hX hbl hbA hN hAll hLn hend f (j + 6) G2 x2 N2 R2 L2 (cells + 1) (slots + 5) H2 locs2 ls (by omega) (by omega) (by omega) (by omega) (by rw [g1, g2]; exact hK) HR2 hI2 (by rw [g3, g4]; exact hl)
      refine lv_aload_n hx hb dL_law_27 rfl (lv_at hl 3 rfl) ?_
      refine lv_iload_n hx hb dL_law_28 rfl (lv_at hl 0 rfl) ?_
      refine va_sld hx hb hX hbl hbA hI.2 (i := nI j) (fun h => h.elim (nI_pos (by omega)) (fun h => by rw [nI_clamp (by omega)] at h; omega)) dL_law_29 ?_
      rw [nI_clamp (by omega)]
      refine lv_bipush (v := nI 63) hx hb dL_law_30 (by decide) ?_
      refine lv_iand hx hb dL_law_32 ?_
      generalize xs j &&& nI 63 = v
      have hdef : W p l e room_1 s m #[.ref b] below meth c H locs cells slots Q (F0 m 1238 ls []) := zmore (by omega) (by omega) (hnext G x N R L H locs rfl rfl rfl rfl HR hI)
      by_cases hv : v.toInt < 0 ∨ 32 < v.toInt
      · exact lv_tableOut (tgt := 1238) hx hb dL_law_33 hv (by decide) hdef
      · obtain ⟨k, hk, rfl⟩ := z_w63 hv
        by_cases k0 : k = 0
        · subst k0
          exact lv_tableIn (off := 147) (tgt := 180) hx hb dL_law_33 (by decide) (by decide) rfl (by decide) (kL_pupil hx hb hml hown hts hX hbl hbA hN hAll hK HR hI hcl hsl hj hLn hl hnext)
        by_cases k1 : k = 1
        · subst k1
          exact lv_tableIn (off := 210) (tgt := 243) hx hb dL_law_33 (by decide) (by decide) rfl (by decide) (kL_of hx hb hml hown hts hX hbl hbA hN hAll hK HR hI hcl hsl hj hLn hl hnext)
        by_cases k2 : k = 2
        · subst k2
          exact lv_tableIn (off := 243) (tgt := 276) hx hb dL_law_33 (by decide) (by decide) rfl (by decide) (kL_front hx hb hml hown hts hX hbl hbA hN hAll hK HR hI hcl hsl hj hLn hl hnext)
        by_cases k3 : k = 3
        · subst k3
          exact lv_tableIn (off := 292) (tgt := 325) hx hb dL_law_33 (by decide) (by decide) rfl (by decide) (kL_name hx hb hml hown hts hX hbl hbA hN hAll hK HR hI hcl hsl hj hLn hl hnext)
        by_cases k4 : k = 4
        · subst k4
          exact lv_tableIn (off := 325) (tgt := 358) hx hb dL_law_33 (by decide) (by decide) rfl (by decide) (kL_sit hx hb hml hown hts hX hbl hbA hN hAll hK HR hI hcl hsl hj hLn hl hnext)
        by_cases k5 : k = 5
        · subst k5
          exact lv_tableIn (off := 358) (tgt := 391) hx hb dL_law_33 (by decide) (by decide) rfl (by decide) (kL_feed hx hb hml hown hts hX hbl hbA hN hAll hK HR hI hcl hsl hj hLn hl hnext)
        by_cases k6 : k = 6
        · subst k6
          exact lv_tableIn (off := 381) (tgt := 414) hx hb dL_law_33 (by decide) (by decide) rfl (by decide) (kL_room hx hb hml hown hts hX hbl hbA hN hAll hK HR hI hcl hsl hj hLn hl hnext)
        by_cases k7 : k = 7
        · subst k7
          exact lv_tableIn (off := 394) (tgt := 427) hx hb dL_law_33 (by decide) (by decide) rfl (by decide) (kL_pair hx hb hml hown hts hX hbl hbA hN hAll hK HR hI hcl hsl hj hLn hl hnext)
        by_cases k8 : k = 8
        · subst k8
          exact lv_tableIn (off := 447) (tgt := 480) hx hb dL_law_33 (by decide) (by decide) rfl (by decide) (kL_sitting hx hb hml hown hts hX hbl hbA hN hAll hK HR hI hcl hsl hj hLn hl hnext)
        by_cases k9 : k = 9
        · subst k9
          exact lv_tableIn (off := 470) (tgt := 503) hx hb dL_law_33 (by decide) (by decide) rfl (by decide) (kL_swap hx hb hml hown hts hX hbl hbA hN hAll hK HR hI hcl hsl hj hLn hl hnext)
        by_cases k10 : k = 10
        · subst k10
          exact lv_tableIn (off := 483) (tgt := 516) hx hb dL_law_33 (by decide) (by decide) rfl (by decide) (kL_best hx hb hml hown hts hX hbl hbA hN hAll hK HR hI hcl hsl hj hLn hl hnext)
        by_cases k11 : k = 11
        · subst k11
          exact lv_tableIn (off := 506) (tgt := 539) hx hb dL_law_33 (by decide) (by decide) rfl (by decide) (kL_cost hx hb hml hown hts hX hbl hbA hN hAll hK HR hI hcl hsl hj hLn hl hnext)
        by_cases k12 : k = 12
        · subst k12
          exact lv_tableIn (off := 529) (tgt := 562) hx hb dL_law_33 (by decide) (by decide) rfl (by decide) (kL_talk hx hb hml hown hts hX hbl hbA hN hAll hK HR hI hcl hsl hj hLn hl hnext)
        by_cases k13 : k = 13
        · subst k13
          exact lv_tableIn (off := 562) (tgt := 595) hx hb dL_law_33 (by decide) (by decide) rfl (by decide) (kL_noise hx hb hml hown hts hX hbl hbA hN hAll hK HR hI hcl hsl hj hLn hl hnext)
        by_cases k14 : k = 14
        · subst k14
          exact lv_tableIn (off := 605) (tgt := 638) hx hb dL_law_33 (by decide) (by decide) rfl (by decide) (kL_carries hx hb hml hown hts hX hbl hbA hN hAll hK HR hI hcl hsl hj hLn hl hnext)
        by_cases k15 : k = 15
        · subst k15
          exact lv_tableIn (off := 638) (tgt := 671) hx hb dL_law_33 (by decide) (by decide) rfl (by decide) (kL_named hx hb hml hown hts hX hbl hbA hN hAll hK HR hI hcl hsl hj hLn hl hnext)
        by_cases k16 : k = 16
        · subst k16
          exact lv_tableIn (off := 661) (tgt := 694) hx hb dL_law_33 (by decide) (by decide) rfl (by decide) (kL_slips hx hb hml hown hts hX hbl hbA hN hAll hK HR hI hcl hsl hj hLn hl hnext)
        by_cases k17 : k = 17
        · subst k17
          exact lv_tableIn (off := 684) (tgt := 717) hx hb dL_law_33 (by decide) (by decide) rfl (by decide) (kL_month hx hb hml hown hts hX hbl hbA hN hAll hK HR hI hcl hsl hj hLn hl hnext)
        by_cases k18 : k = 18
        · subst k18
          exact lv_tableIn (off := 697) (tgt := 730) hx hb dL_law_33 (by decide) (by decide) rfl (by decide) (kL_lacks hx hb hml hown hts hX hbl hbA hN hAll hK HR hI hcl hsl hj hLn hl hnext)
        by_cases k19 : k = 19
        · subst k19
          exact lv_tableIn (off := 720) (tgt := 753) hx hb dL_law_33 (by decide) (by decide) rfl (by decide) (kL_next hx hb hml hown hts hX hbl hbA hN hAll hK HR hI hcl hsl hj hLn hl hnext)
        by_cases k20 : k = 20
        · subst k20
          exact lv_tableIn (off := 743) (tgt := 776) hx hb dL_law_33 (by decide) (by decide) rfl (by decide) (kL_mean hx hb hml hown hts hX hbl hbA hN hAll hK HR hI hcl hsl hj hLn hl hnext)
        by_cases k21 : k = 21
        · subst k21
          exact lv_tableIn (off := 767) (tgt := 800) hx hb dL_law_33 (by decide) (by decide) rfl (by decide) (kL_both hx hb hml hown hts hX hbl hbA hN hAll hK HR hI hcl hsl hj hLn hl hnext)
        by_cases k22 : k = 22
        · subst k22
          exact lv_tableIn (off := 811) (tgt := 844) hx hb dL_law_33 (by decide) (by decide) rfl (by decide) (kL_judge hx hb hml hown hts hX hbl hbA hN hAll hK HR hI hcl hsl hj hLn hl hnext)
        by_cases k23 : k = 23
        · subst k23
          exact lv_tableIn (off := 844) (tgt := 877) hx hb dL_law_33 (by decide) (by decide) rfl (by decide) (kL_image hx hb hml hown hts hX hbl hbA hN hAll hK HR hI hcl hsl hj hLn hl hnext)
        by_cases k24 : k = 24
        · subst k24
          exact lv_tableIn (off := 857) (tgt := 890) hx hb dL_law_33 (by decide) (by decide) rfl (by decide) (kL_undo hx hb hml hown hts hX hbl hbA hN hAll hK HR hI hcl hsl hj hLn hl hnext)
        by_cases k25 : k = 25
        · subst k25
          exact lv_tableIn (off := 870) (tgt := 903) hx hb dL_law_33 (by decide) (by decide) rfl (by decide) (kL_act hx hb hml hown hts hX hbl hbA hN hAll hK HR hI hcl hsl hj hLn hl hnext)
        by_cases k26 : k = 26
        · subst k26
          exact lv_tableIn (off := 913) (tgt := 946) hx hb dL_law_33 (by decide) (by decide) rfl (by decide) (kL_trace hx hb hml hown hts hX hbl hbA hN hAll hK HR hI hcl hsl hj hLn hl hnext)
        by_cases k27 : k = 27
        · subst k27
          exact lv_tableIn (off := 936) (tgt := 969) hx hb dL_law_33 (by decide) (by decide) rfl (by decide) (kL_taken hx hb hml hown hts hX hbl hbA hN hAll hK HR hI hcl hsl hj hLn hl hnext)
        by_cases k28 : k = 28
        · subst k28
          exact lv_tableIn (off := 969) (tgt := 1002) hx hb dL_law_33 (by decide) (by decide) rfl (by decide) (kL_count hx hb hml hown hts hX hbl hbA hN hAll hK HR hI hcl hsl hj hLn hl hnext)
        by_cases k29 : k = 29
        · subst k29
          exact lv_tableIn (off := 992) (tgt := 1025) hx hb dL_law_33 (by decide) (by decide) rfl (by decide) (kL_tape hx hb hml hown hts hX hbl hbA hN hAll hK HR hI hcl hsl hj hLn hl hnext)
        by_cases k30 : k = 30
        · subst k30
          exact lv_tableIn (off := 1035) (tgt := 1068) hx hb dL_law_33 (by decide) (by decide) rfl (by decide) (kL_item hx hb hml hown hts hX hbl hbA hN hAll hK HR hI hcl hsl hj hLn hl hnext)
        by_cases k31 : k = 31
        · subst k31
          exact lv_tableIn (off := 1108) (tgt := 1141) hx hb dL_law_33 (by decide) (by decide) rfl (by decide) (kL_read hx hb hml hown hts hX hbl hbA hN hAll hK HR hI hcl hsl hj hLn hl hnext)
        by_cases k32 : k = 32
        · subst k32
          exact lv_tableIn (off := 1142) (tgt := 1175) hx hb dL_law_33 (by decide) (by decide) rfl (by decide) (kL_shift hx hb hml hown hts hX hbl hbA hN hAll hK HR hI hcl hsl hj hLn hl hnext)
        omega
