set_option maxHeartbeats 4000000 in
set_option maxRecDepth 100000 in
theorem c_X12_ones (l : Launch) {G : zG} (hG : zOK G) (x : zX) (s0 : Nat) (h0 : s0 < 256) : zMi l yX12_ones wsX12_ones { frames := 0, cells := 0, slots := 0, locals := 0 } G [.ref (za G 77), .int (nI s0)] x (fun (r : Int32) (u : zX) => x = u ∧ nI (zpop 8 s0) = r) := by
  intro A
  refine zBody (cc := cX12_ones) (maxL := 4) (ret := (some .int)) (by decide) rfl (Nat.le_of_ble_eq_true rfl) ?_
  intro p e s m below meth c hx hb hml hown hts hr hlocks hK hN hI ls hl
  have hown : s.vm.findClass RX12 = some m.cls := hown
  have hl : lv_has ls 4 [(0, .ref (za G 77)), (1, .int (nI s0))] := hl
  refine lv_iconst (v := (nI 0)) hx hb dX12_ones_0 rfl ?_
  refine lv_istore_n (lv' := [(2, .int (nI 0)), (0, .ref (za G 77)), (1, .int (nI s0))]) hx hb dX12_ones_1 rfl hl (by decide) rfl (fun ls hl => ?_)
  refine lv_iload_n hx hb dX12_ones_2 rfl (lv_at hl 2 rfl) ?_
  refine lv_istore_n (lv' := [(3, .int (nI s0)), (2, .int (nI 0)), (0, .ref (za G 77)), (1, .int (nI s0))]) hx hb dX12_ones_3 rfl hl (by decide) rfl (fun ls hl => ?_)
  have L4 : ∀ (f : Nat) (n : Nat) (v : Nat), (v < 256) → (n + zpop 8 v = zpop 8 s0) → zpop 8 v < f → ∀ (H : Heap) (locs : List Loc), zI G x A s.heap H locs → ∀ ls : Array Slot, lv_has ls 4 [(0, .ref (za G 77)), (2, .int (nI n)), (3, .int (nI v))] → W p l e { frames := 0, cells := 0, slots := 0, locals := 0 } s m ([.ref (za G 77), .int (nI s0)] : List Value).toArray below meth c H locs 0 0 (MQ below (va_Qi (fun (r : Int32) (u : zX) => x = u ∧ nI (zpop 8 s0) = r) (fun u t => zJ G u A t.heap) A) ([.ref (za G 77), .int (nI s0)] : List Value).toArray s 0 0 A) (F0 m 4 ls []) := by
    intro f
    induction f with
    | zero =>
      intro n v h1 h2 hf
      exact absurd hf (by omega)
    | succ f ih =>
      intro n v h1 h2 hf H locs hI ls hl
      have ih4 := ih
      refine lv_iload_n hx hb dX12_ones_4 rfl (lv_at hl 2 rfl) ?_
      refine lv_if_eq (tgt := 20) hx hb dX12_ones_5 (by decide) (fun c_5 => ?_) (fun c_5 => ?_)
      · skip
        rw [show (0 : Int32) = nI 0 from rfl] at c_5; rw [zqE (by omega) (by omega)] at c_5
        refine lv_iload_n hx hb dX12_ones_20 rfl (lv_at hl 1 rfl) ?_
        exact z_iret hx hb hr hlocks hI (⟨rfl, by rw [← h2, show v = 0 by omega, zpop_0]; rfl⟩) dX12_ones_21
      · skip
        rw [show (0 : Int32) = nI 0 from rfl] at c_5; rw [zqE (by omega) (by omega)] at c_5
        have hv0 : 0 < v := by omega
        refine lv_iinc (v := (nI (n + 1))) (lv' := [(2, .int (nI (n + 1))), (0, .ref (za G 77)), (3, .int (nI v))]) hx hb dX12_ones_8 hl (k := 1) rfl (zinc n) (by decide) rfl (fun ls hl => ?_)
        refine lv_iload_n hx hb dX12_ones_11 rfl (lv_at hl 2 rfl) ?_
        refine lv_iload_n hx hb dX12_ones_12 rfl (lv_at hl 2 rfl) ?_
        refine lv_iconst (v := (nI 1)) hx hb dX12_ones_13 rfl ?_
        refine lv_isub hx hb dX12_ones_14 ?_
        refine z_iand (v := (nI (v &&& (v - 1)))) hx hb (zones h1 hv0).1 dX12_ones_15 ?_
        refine lv_istore_n (lv' := [(3, .int (nI (v &&& (v - 1)))), (2, .int (nI (n + 1))), (0, .ref (za G 77))]) hx hb dX12_ones_16 rfl hl (by decide) rfl (fun ls hl => ?_)
        refine lv_goto (tgt := 4) hx hb dX12_ones_17 (by decide) ?_
        exact ih4 (n + 1) (v &&& (v - 1)) (zones h1 hv0).2.1 (by have := (zones h1 hv0).2.2; omega) (by have := (zones h1 hv0).2.2; omega) _ _ hI ls (lv_sub hl [2, 1, 0] rfl)
  exact L4 (9) 0 s0 (by omega) (by omega) (by have := zpop_b 8 s0; omega) _ _ hI ls (lv_sub hl [2, 1, 0] rfl)
set_option maxHeartbeats 4000000 in
set_option maxRecDepth 100000 in
theorem c_X12_of (l : Launch) {G : zG} (hG : zOK G) (x : zX) (N : Nat) (q w : Int32) (hr0 : zRef x N) : zMi l yX12_of wsX12_of { frames := 2, cells := 0, slots := 0, locals := 44 } G [.ref (za G 77), .int q, .int w] x (fun (r : Int32) (u : zX) => x = u ∧ (if zin N q then zofR x q.toNatClampNeg w else -1) = r) := by
  intro A
  refine zBody (cc := cX12_of) (maxL := 4) (ret := (some .int)) (by decide) rfl (Nat.le_of_ble_eq_true rfl) ?_
  intro p e s m below meth c hx hb hml hown hts hr hlocks hK hN hI ls hl
  have hown : s.vm.findClass RX12 = some m.cls := hown
  have hl : lv_has ls 4 [(0, .ref (za G 77)), (1, .int q), (2, .int w)] := hl
  have hin12 : ∀ w ∈ wsX120, w ∈ wsX12_of := (fun _ h => List.mem_cons_of_mem _ (List.mem_append_right _ (h)))
  have wF38 := hts (.fieldLink RX12 38 "WhoSitsByModel" "sitter" "[I") (z_mem 1 rfl)
  have wF35 := hts (.fieldLink RX12 35 "WhoSitsByModel" "seat" "[I") (z_mem 2 rfl)
  have wF16 := hts (.fieldLink RX12 16 "WhoSitsByModel" "kind" "[I") (z_mem 3 rfl)
  have wF20 := hts (.fieldLink RX12 20 "WhoSitsByModel" "v" "[I") (z_mem 4 rfl)
  have wF23 := hts (.fieldLink RX12 23 "WhoSitsByModel" "talks" "[I") (z_mem 5 rfl)
  have wF26 := hts (.fieldLink RX12 26 "WhoSitsByModel" "knows" "[I") (z_mem 6 rfl)
  have wF29 := hts (.fieldLink RX12 29 "WhoSitsByModel" "tongue" "[I") (z_mem 7 rfl)
  have wF41 := hts (.fieldLink RX12 41 "WhoSitsByModel" "needsFront" "[Z") (z_mem 8 rfl)
  have wF32 := hts (.fieldLink RX12 32 "WhoSitsByModel" "names" "[I") (z_mem 9 rfl)
  have h8 := hr0.1
  refine lv_aload_n hx hb dX12_of_0 rfl (lv_at hl 0 rfl) ?_
  refine lv_iload_n hx hb dX12_of_1 rfl (lv_at hl 1 rfl) ?_
  refine z_calli (va_runV (As := [.int q]) (rest := []) ⟨hx, hb, hml, hown, hts⟩ ((c_X12_isPupil l hG x N q hr0) A) (cwV 1 hts gX12_of_X12_isPupil rfl rfl rfl (by decide +kernel) ⟨Nat.le_of_ble_eq_true rfl, Nat.le_of_ble_eq_true rfl⟩) (z_pV hI hK hN (z_recv hK hI (zo77 hG) rfl)) rfl rfl hl.1 rfl (lv_room (Nat.le_of_ble_eq_true rfl)) dX12_of_2 ⟨Nat.zero_le _, Nat.zero_le _⟩) hI (fun r_2 u H locs hw hI => ?_)
  obtain ⟨rfl, rfl⟩ := hw
  refine lv_if_ne (tgt := 10) hx hb dX12_of_5 (by decide) (fun c_5 => ?_) (fun c_5 => ?_)
  · skip
    rw [zb_0, Classical.not_not] at c_5
    obtain ⟨k, hk, rfl⟩ := zin_k h8 c_5
    have hz8 := zxor8 (zse_of hr0 hk).2
    refine lv_aload_n hx hb dX12_of_10 rfl (lv_at hl 0 rfl) ?_
    refine z_get (C := RX12) (T := TX12) (N := 51) (ci := 12) (v := .ref (za G 85)) hx hb hts hin12 hown hK hI (zo77 hG) rfl 9 (by decide) wF38 (fun _ h9 => h9) rfl dX12_of_11 ?_
    refine lv_aload_n hx hb dX12_of_14 rfl (lv_at hl 0 rfl) ?_
    refine z_get (C := RX12) (T := TX12) (N := 51) (ci := 12) (v := .ref (za G 84)) hx hb hts hin12 hown hK hI (zo77 hG) rfl 8 (by decide) wF35 (fun _ h9 => h9) rfl dX12_of_15 ?_
    refine lv_iload_n hx hb dX12_of_18 rfl (lv_at hl 1 rfl) ?_
    refine z_iald (v := (nI (zse x k))) hx hb hK hI (zo84 hG) k rfl (by omega) (by decide) (zse_of hr0 (by omega)).1 dX12_of_19 ?_
    refine lv_iconst (v := (nI 1)) hx hb dX12_of_20 rfl ?_
    refine z_ixor (v := (nI (zse x k ^^^ 1))) hx hb (zxor1 (zse_of hr0 hk).2) dX12_of_21 ?_
    refine z_iald (v := (x.1 85 (zse x k ^^^ 1))) hx hb hK hI (zo85 hG) (zse x k ^^^ 1) rfl (by omega) (by decide) rfl dX12_of_22 ?_
    refine lv_istore_n (lv' := [(3, .int (x.1 85 (zse x k ^^^ 1))), (0, .ref (za G 77)), (1, .int (nI k)), (2, .int w)]) hx hb dX12_of_23 rfl hl (by decide) rfl (fun ls hl => ?_)
    refine lv_iload_n hx hb dX12_of_24 rfl (lv_at hl 3 rfl) ?_
    by_cases q25_0 : w = (nI 0)
    · skip
      refine lv_tableIn (off := 51) (tgt := 76) hx hb dX12_of_25 (by rw [q25_0]; decide) (by rw [q25_0]; decide) (by rw [q25_0]; rfl) (by decide) ?_
      refine lv_aload_n hx hb dX12_of_76 rfl (lv_at hl 1 rfl) ?_
      refine z_get (C := RX12) (T := TX12) (N := 51) (ci := 12) (v := .ref (za G 78)) hx hb hts hin12 hown hK hI (zo77 hG) rfl 2 (by decide) wF16 (fun _ h9 => h9) rfl dX12_of_77 ?_
      refine lv_iload_n hx hb dX12_of_80 rfl (lv_at hl 2 rfl) ?_
      refine z_iald (v := (x.1 78 k)) hx hb hK hI (zo78 hG) k rfl (by omega) (by decide) rfl dX12_of_81 ?_
      exact z_iret hx hb hr hlocks hI (⟨rfl, by rw [if_pos ⟨nI_pos (by omega), nI_ge hk (by omega)⟩, nI_clamp (by omega)]; unfold zofR; rw [if_pos q25_0]⟩) dX12_of_82
    by_cases q25_1 : w = (nI 1)
    · skip
      refine lv_tableIn (off := 58) (tgt := 83) hx hb dX12_of_25 (by rw [q25_1]; decide) (by rw [q25_1]; decide) (by rw [q25_1]; rfl) (by decide) ?_
      refine lv_aload_n hx hb dX12_of_83 rfl (lv_at hl 1 rfl) ?_
      refine z_get (C := RX12) (T := TX12) (N := 51) (ci := 12) (v := .ref (za G 79)) hx hb hts hin12 hown hK hI (zo77 hG) rfl 3 (by decide) wF20 (fun _ h9 => h9) rfl dX12_of_84 ?_
      refine lv_iload_n hx hb dX12_of_87 rfl (lv_at hl 2 rfl) ?_
      refine z_iald (v := (x.1 79 k)) hx hb hK hI (zo79 hG) k rfl (by omega) (by decide) rfl dX12_of_88 ?_
      exact z_iret hx hb hr hlocks hI (⟨rfl, by rw [if_pos ⟨nI_pos (by omega), nI_ge hk (by omega)⟩, nI_clamp (by omega)]; unfold zofR; rw [if_neg q25_0, if_pos q25_1]⟩) dX12_of_89
    by_cases q25_2 : w = (nI 2)
    · skip
      refine lv_tableIn (off := 65) (tgt := 90) hx hb dX12_of_25 (by rw [q25_2]; decide) (by rw [q25_2]; decide) (by rw [q25_2]; rfl) (by decide) ?_
      refine lv_aload_n hx hb dX12_of_90 rfl (lv_at hl 1 rfl) ?_
      refine z_get (C := RX12) (T := TX12) (N := 51) (ci := 12) (v := .ref (za G 80)) hx hb hts hin12 hown hK hI (zo77 hG) rfl 4 (by decide) wF23 (fun _ h9 => h9) rfl dX12_of_91 ?_
      refine lv_iload_n hx hb dX12_of_94 rfl (lv_at hl 2 rfl) ?_
      refine z_iald (v := (x.1 80 k)) hx hb hK hI (zo80 hG) k rfl (by omega) (by decide) rfl dX12_of_95 ?_
      exact z_iret hx hb hr hlocks hI (⟨rfl, by rw [if_pos ⟨nI_pos (by omega), nI_ge hk (by omega)⟩, nI_clamp (by omega)]; unfold zofR; rw [if_neg q25_0, if_neg q25_1, if_pos q25_2]⟩) dX12_of_96
    by_cases q25_3 : w = (nI 3)
    · skip
      refine lv_tableIn (off := 72) (tgt := 97) hx hb dX12_of_25 (by rw [q25_3]; decide) (by rw [q25_3]; decide) (by rw [q25_3]; rfl) (by decide) ?_
      refine lv_aload_n hx hb dX12_of_97 rfl (lv_at hl 1 rfl) ?_
      refine z_get (C := RX12) (T := TX12) (N := 51) (ci := 12) (v := .ref (za G 81)) hx hb hts hin12 hown hK hI (zo77 hG) rfl 5 (by decide) wF26 (fun _ h9 => h9) rfl dX12_of_98 ?_
      refine lv_iload_n hx hb dX12_of_101 rfl (lv_at hl 2 rfl) ?_
      refine z_iald (v := (x.1 81 k)) hx hb hK hI (zo81 hG) k rfl (by omega) (by decide) rfl dX12_of_102 ?_
      exact z_iret hx hb hr hlocks hI (⟨rfl, by rw [if_pos ⟨nI_pos (by omega), nI_ge hk (by omega)⟩, nI_clamp (by omega)]; unfold zofR; rw [if_neg q25_0, if_neg q25_1, if_neg q25_2, if_pos q25_3]⟩) dX12_of_103
    by_cases q25_4 : w = (nI 4)
    · skip
      refine lv_tableIn (off := 79) (tgt := 104) hx hb dX12_of_25 (by rw [q25_4]; decide) (by rw [q25_4]; decide) (by rw [q25_4]; rfl) (by decide) ?_
      refine lv_aload_n hx hb dX12_of_104 rfl (lv_at hl 1 rfl) ?_
      refine z_get (C := RX12) (T := TX12) (N := 51) (ci := 12) (v := .ref (za G 82)) hx hb hts hin12 hown hK hI (zo77 hG) rfl 6 (by decide) wF29 (fun _ h9 => h9) rfl dX12_of_105 ?_
      refine lv_iload_n hx hb dX12_of_108 rfl (lv_at hl 2 rfl) ?_
      refine z_iald (v := (x.1 82 k)) hx hb hK hI (zo82 hG) k rfl (by omega) (by decide) rfl dX12_of_109 ?_
      exact z_iret hx hb hr hlocks hI (⟨rfl, by rw [if_pos ⟨nI_pos (by omega), nI_ge hk (by omega)⟩, nI_clamp (by omega)]; unfold zofR; rw [if_neg q25_0, if_neg q25_1, if_neg q25_2, if_neg q25_3, if_pos q25_4]⟩) dX12_of_110
    by_cases q25_5 : w = (nI 5)
    · skip
      refine lv_tableIn (off := 86) (tgt := 111) hx hb dX12_of_25 (by rw [q25_5]; decide) (by rw [q25_5]; decide) (by rw [q25_5]; rfl) (by decide) ?_
      refine lv_aload_n hx hb dX12_of_111 rfl (lv_at hl 1 rfl) ?_
      refine z_get (C := RX12) (T := TX12) (N := 51) (ci := 12) (v := .ref (za G 86)) hx hb hts hin12 hown hK hI (zo77 hG) rfl 10 (by decide) wF41 (fun _ h9 => h9) rfl dX12_of_112 ?_
      refine lv_iload_n hx hb dX12_of_115 rfl (lv_at hl 2 rfl) ?_
      refine z_zald (v := (x.1 86 k)) hx hb hK hI (zo86 hG) k rfl (by omega) (by decide) rfl dX12_of_116 ?_
      refine lv_if_eq (tgt := 124) hx hb dX12_of_117 (by decide) (fun c_117 => ?_) (fun c_117 => ?_)
      · skip
        refine lv_iconst (v := (nI 0)) hx hb dX12_of_124 rfl ?_
        exact z_iret hx hb hr hlocks hI (⟨rfl, by rw [if_pos ⟨nI_pos (by omega), nI_ge hk (by omega)⟩, nI_clamp (by omega)]; unfold zofR; rw [if_neg q25_0, if_neg q25_1, if_neg q25_2, if_neg q25_3, if_neg q25_4, if_pos q25_5, if_pos c_117]⟩) dX12_of_125
      · skip
        refine lv_iconst (v := (nI 1)) hx hb dX12_of_120 rfl ?_
        refine lv_goto (tgt := 125) hx hb dX12_of_121 (by decide) ?_
        exact z_iret hx hb hr hlocks hI (⟨rfl, by rw [if_pos ⟨nI_pos (by omega), nI_ge hk (by omega)⟩, nI_clamp (by omega)]; unfold zofR; rw [if_neg q25_0, if_neg q25_1, if_neg q25_2, if_neg q25_3, if_neg q25_4, if_pos q25_5, if_neg c_117]⟩) dX12_of_125
    by_cases q25_6 : w = (nI 6)
    · skip
      refine lv_tableIn (off := 101) (tgt := 126) hx hb dX12_of_25 (by rw [q25_6]; decide) (by rw [q25_6]; decide) (by rw [q25_6]; rfl) (by decide) ?_
      refine lv_aload_n hx hb dX12_of_126 rfl (lv_at hl 1 rfl) ?_
      refine z_get (C := RX12) (T := TX12) (N := 51) (ci := 12) (v := .ref (za G 83)) hx hb hts hin12 hown hK hI (zo77 hG) rfl 7 (by decide) wF32 (fun _ h9 => h9) rfl dX12_of_127 ?_
      refine lv_iload_n hx hb dX12_of_130 rfl (lv_at hl 2 rfl) ?_
      refine z_iald (v := (x.1 83 k)) hx hb hK hI (zo83 hG) k rfl (by omega) (by decide) rfl dX12_of_131 ?_
      refine lv_if_ge (tgt := 140) hx hb dX12_of_132 (by decide) (fun c_132 => ?_) (fun c_132 => ?_)
      · skip
        refine lv_aload_n hx hb dX12_of_140 rfl (lv_at hl 1 rfl) ?_
        refine z_get (C := RX12) (T := TX12) (N := 51) (ci := 12) (v := .ref (za G 83)) hx hb hts hin12 hown hK hI (zo77 hG) rfl 7 (by decide) wF32 (fun _ h9 => h9) rfl dX12_of_141 ?_
        refine lv_iload_n hx hb dX12_of_144 rfl (lv_at hl 2 rfl) ?_
        refine z_iald (v := (x.1 83 k)) hx hb hK hI (zo83 hG) k rfl (by omega) (by decide) rfl dX12_of_145 ?_
        exact z_iret hx hb hr hlocks hI (⟨rfl, by rw [if_pos ⟨nI_pos (by omega), nI_ge hk (by omega)⟩, nI_clamp (by omega)]; unfold zofR; rw [if_neg q25_0, if_neg q25_1, if_neg q25_2, if_neg q25_3, if_neg q25_4, if_neg q25_5, if_pos q25_6, if_pos c_132]⟩) dX12_of_146
      · skip
        refine lv_bipush (v := (-5)) hx hb dX12_of_135 rfl ?_
        refine lv_goto (tgt := 146) hx hb dX12_of_137 (by decide) ?_
        exact z_iret hx hb hr hlocks hI (⟨rfl, by rw [if_pos ⟨nI_pos (by omega), nI_ge hk (by omega)⟩, nI_clamp (by omega)]; unfold zofR; rw [if_neg q25_0, if_neg q25_1, if_neg q25_2, if_neg q25_3, if_neg q25_4, if_neg q25_5, if_pos q25_6, if_neg c_132]⟩) dX12_of_146
    by_cases q25_7 : w = (nI 7)
    · skip
      refine lv_tableIn (off := 122) (tgt := 147) hx hb dX12_of_25 (by rw [q25_7]; decide) (by rw [q25_7]; decide) (by rw [q25_7]; rfl) (by decide) ?_
      refine lv_aload_n hx hb dX12_of_147 rfl (lv_at hl 1 rfl) ?_
      refine z_get (C := RX12) (T := TX12) (N := 51) (ci := 12) (v := .ref (za G 84)) hx hb hts hin12 hown hK hI (zo77 hG) rfl 8 (by decide) wF35 (fun _ h9 => h9) rfl dX12_of_148 ?_
      refine lv_iload_n hx hb dX12_of_151 rfl (lv_at hl 2 rfl) ?_
      refine z_iald (v := (x.1 84 k)) hx hb hK hI (zo84 hG) k rfl (by omega) (by decide) rfl dX12_of_152 ?_
      exact z_iret hx hb hr hlocks hI (⟨rfl, by rw [if_pos ⟨nI_pos (by omega), nI_ge hk (by omega)⟩, nI_clamp (by omega)]; unfold zofR; rw [if_neg q25_0, if_neg q25_1, if_neg q25_2, if_neg q25_3, if_neg q25_4, if_neg q25_5, if_neg q25_6, if_pos q25_7]⟩) dX12_of_153
    by_cases q25_8 : w = (nI 8)
    · skip
      refine lv_tableIn (off := 129) (tgt := 154) hx hb dX12_of_25 (by rw [q25_8]; decide) (by rw [q25_8]; decide) (by rw [q25_8]; rfl) (by decide) ?_
      refine lv_iload_n hx hb dX12_of_154 rfl (lv_at hl 0 rfl) ?_
      refine lv_if_ge (tgt := 163) hx hb dX12_of_155 (by decide) (fun c_155 => ?_) (fun c_155 => ?_)
      · skip
        refine lv_iload_n hx hb dX12_of_163 rfl (lv_at hl 0 rfl) ?_
        exact z_iret hx hb hr hlocks hI (⟨rfl, by rw [if_pos ⟨nI_pos (by omega), nI_ge hk (by omega)⟩, nI_clamp (by omega)]; unfold zofR; rw [if_neg q25_0, if_neg q25_1, if_neg q25_2, if_neg q25_3, if_neg q25_4, if_neg q25_5, if_neg q25_6, if_neg q25_7, if_pos q25_8, if_pos c_155]⟩) dX12_of_164
      · skip
        refine lv_bipush (v := (-5)) hx hb dX12_of_158 rfl ?_
        refine lv_goto (tgt := 164) hx hb dX12_of_160 (by decide) ?_
        exact z_iret hx hb hr hlocks hI (⟨rfl, by rw [if_pos ⟨nI_pos (by omega), nI_ge hk (by omega)⟩, nI_clamp (by omega)]; unfold zofR; rw [if_neg q25_0, if_neg q25_1, if_neg q25_2, if_neg q25_3, if_neg q25_4, if_neg q25_5, if_neg q25_6, if_neg q25_7, if_pos q25_8, if_neg c_155]⟩) dX12_of_164
    refine lv_tableOut (tgt := 165) hx hb dX12_of_25 (by have := lv_neT (a := 0) q25_0 rfl; have := lv_neT (a := 1) q25_1 rfl; have := lv_neT (a := 2) q25_2 rfl; have := lv_neT (a := 3) q25_3 rfl; have := lv_neT (a := 4) q25_4 rfl; have := lv_neT (a := 5) q25_5 rfl; have := lv_neT (a := 6) q25_6 rfl; have := lv_neT (a := 7) q25_7 rfl; have := lv_neT (a := 8) q25_8 rfl; omega) (by decide) ?_
    refine lv_iconst (v := (-1)) hx hb dX12_of_165 rfl ?_
    exact z_iret hx hb hr hlocks hI (⟨rfl, by rw [if_pos ⟨nI_pos (by omega), nI_ge hk (by omega)⟩, nI_clamp (by omega)]; unfold zofR; rw [if_neg q25_0, if_neg q25_1, if_neg q25_2, if_neg q25_3, if_neg q25_4, if_neg q25_5, if_neg q25_6, if_neg q25_7, if_neg q25_8]⟩) dX12_of_166
  · skip
    rw [zb_0] at c_5
    refine lv_iconst (v := (-1)) hx hb dX12_of_8 rfl ?_
    exact z_iret hx hb hr hlocks hI (⟨rfl, if_neg c_5⟩) dX12_of_9
set_option maxHeartbeats 4000000 in
set_option maxRecDepth 100000 in
theorem c_X12_front (l : Launch) {G : zG} (hG : zOK G) (x : zX) (N : Nat) (q b : Int32) (hr0 : zRef x N) (hb01 : b = 0 ∨ b = 1) : zMi l yX12_front wsX12_front { frames := 2, cells := 0, slots := 0, locals := 44 } G [.ref (za G 77), .int q, .int b] x (fun (r : Int32) (u : zX) => (¬ zin N q ∧ x = u ∧ -1 = r) ∨ (∃ k, k < N ∧ q = nI k ∧ zsI x 86 k b = u ∧ (if x.1 86 k = 0 then nI 0 else nI 1) = r)) := by
  intro A
  refine zBody (cc := cX12_front) (maxL := 4) (ret := (some .int)) (by decide) rfl (Nat.le_of_ble_eq_true rfl) ?_
  intro p e s m below meth c hx hb hml hown hts hr hlocks hK hN hI ls hl
  have hown : s.vm.findClass RX12 = some m.cls := hown
  have hl : lv_has ls 4 [(0, .ref (za G 77)), (1, .int q), (2, .int b)] := hl
  have hin12 : ∀ w ∈ wsX120, w ∈ wsX12_front := (fun _ h => List.mem_cons_of_mem _ (List.mem_append_right _ (h)))
  have wF41 := hts (.fieldLink RX12 41 "WhoSitsByModel" "needsFront" "[Z") (z_mem 1 rfl)
  have h8 := hr0.1
  refine lv_aload_n hx hb dX12_front_0 rfl (lv_at hl 0 rfl) ?_
  refine lv_iload_n hx hb dX12_front_1 rfl (lv_at hl 1 rfl) ?_
  refine z_calli (va_runV (As := [.int q]) (rest := []) ⟨hx, hb, hml, hown, hts⟩ ((c_X12_isPupil l hG x N q hr0) A) (cwV 1 hts gX12_front_X12_isPupil rfl rfl rfl (by decide +kernel) ⟨Nat.le_of_ble_eq_true rfl, Nat.le_of_ble_eq_true rfl⟩) (z_pV hI hK hN (z_recv hK hI (zo77 hG) rfl)) rfl rfl hl.1 rfl (lv_room (Nat.le_of_ble_eq_true rfl)) dX12_front_2 ⟨Nat.zero_le _, Nat.zero_le _⟩) hI (fun r_2 u H locs hw hI => ?_)
  obtain ⟨rfl, rfl⟩ := hw
  refine lv_if_ne (tgt := 10) hx hb dX12_front_5 (by decide) (fun c_5 => ?_) (fun c_5 => ?_)
  · skip
    rw [zb_0, Classical.not_not] at c_5
    obtain ⟨k, hk, rfl⟩ := zin_k h8 c_5
    refine lv_aload_n hx hb dX12_front_10 rfl (lv_at hl 0 rfl) ?_
    refine z_get (C := RX12) (T := TX12) (N := 51) (ci := 12) (v := .ref (za G 86)) hx hb hts hin12 hown hK hI (zo77 hG) rfl 10 (by decide) wF41 (fun _ h9 => h9) rfl dX12_front_11 ?_
    refine lv_iload_n hx hb dX12_front_14 rfl (lv_at hl 1 rfl) ?_
    refine z_zald (v := (x.1 86 k)) hx hb hK hI (zo86 hG) k rfl (by omega) (by decide) rfl dX12_front_15 ?_
    refine lv_if_eq (tgt := 23) hx hb dX12_front_16 (by decide) (fun c_16 => ?_) (fun c_16 => ?_)
    · skip
      refine lv_iconst (v := (nI 0)) hx hb dX12_front_23 rfl ?_
      refine lv_istore_n (lv' := [(3, .int (nI 0)), (0, .ref (za G 77)), (1, .int (nI k)), (2, .int b)]) hx hb dX12_front_24 rfl hl (by decide) rfl (fun ls hl => ?_)
      refine lv_aload_n hx hb dX12_front_25 rfl (lv_at hl 1 rfl) ?_
      refine z_get (C := RX12) (T := TX12) (N := 51) (ci := 12) (v := .ref (za G 86)) hx hb hts hin12 hown hK hI (zo77 hG) rfl 10 (by decide) wF41 (fun _ h9 => h9) rfl dX12_front_26 ?_
      refine lv_iload_n hx hb dX12_front_29 rfl (lv_at hl 2 rfl) ?_
      refine lv_iload_n hx hb dX12_front_30 rfl (lv_at hl 3 rfl) ?_
      refine z_zast (y := b) hx hb hK hI (zo86 hG) k rfl (by omega) (by decide) hb01 dX12_front_31 (fun H locs hI => ?_)
      refine lv_iload_n hx hb dX12_front_32 rfl (lv_at hl 0 rfl) ?_
      exact z_iret hx hb hr hlocks hI (Or.inr ⟨k, hk, rfl, rfl, if_pos c_16⟩) dX12_front_33
    · skip
      refine lv_iconst (v := (nI 1)) hx hb dX12_front_19 rfl ?_
      refine lv_goto (tgt := 24) hx hb dX12_front_20 (by decide) ?_
      refine lv_istore_n (lv' := [(3, .int (nI 1)), (0, .ref (za G 77)), (1, .int (nI k)), (2, .int b)]) hx hb dX12_front_24 rfl hl (by decide) rfl (fun ls hl => ?_)
      refine lv_aload_n hx hb dX12_front_25 rfl (lv_at hl 1 rfl) ?_
      refine z_get (C := RX12) (T := TX12) (N := 51) (ci := 12) (v := .ref (za G 86)) hx hb hts hin12 hown hK hI (zo77 hG) rfl 10 (by decide) wF41 (fun _ h9 => h9) rfl dX12_front_26 ?_
      refine lv_iload_n hx hb dX12_front_29 rfl (lv_at hl 2 rfl) ?_
      refine lv_iload_n hx hb dX12_front_30 rfl (lv_at hl 3 rfl) ?_
      refine z_zast (y := b) hx hb hK hI (zo86 hG) k rfl (by omega) (by decide) hb01 dX12_front_31 (fun H locs hI => ?_)
      refine lv_iload_n hx hb dX12_front_32 rfl (lv_at hl 0 rfl) ?_
      exact z_iret hx hb hr hlocks hI (Or.inr ⟨k, hk, rfl, rfl, if_neg c_16⟩) dX12_front_33
  · skip
    rw [zb_0] at c_5
    refine lv_iconst (v := (-1)) hx hb dX12_front_8 rfl ?_
    exact z_iret hx hb hr hlocks hI (Or.inl ⟨c_5, rfl, rfl⟩) dX12_front_9
set_option maxHeartbeats 4000000 in
set_option maxRecDepth 100000 in
theorem c_X12_name (l : Launch) {G : zG} (hG : zOK G) (x : zX) (N : Nat) (q y : Int32) (hr0 : zRef x N) : zMi l yX12_name wsX12_name { frames := 2, cells := 0, slots := 0, locals := 44 } G [.ref (za G 77), .int q, .int y] x (fun (r : Int32) (u : zX) => (¬ (zin N q ∧ (y = -1 ∨ zin N y)) ∧ x = u ∧ -1 = r) ∨ (zin N q ∧ (y = -1 ∨ zin N y) ∧ q = y ∧ x = u ∧ -2 = r) ∨ (∃ k, k < N ∧ q = nI k ∧ (y = -1 ∨ zin N y) ∧ ¬ q = y ∧ zsI x 83 k y = u ∧ (if 0 ≤ x.1 83 k then x.1 83 k else (-5)) = r)) := by
  intro A
  refine zBody (cc := cX12_name) (maxL := 4) (ret := (some .int)) (by decide) rfl (Nat.le_of_ble_eq_true rfl) ?_
  intro p e s m below meth c hx hb hml hown hts hr hlocks hK hN hI ls hl
  have hown : s.vm.findClass RX12 = some m.cls := hown
  have hl : lv_has ls 4 [(0, .ref (za G 77)), (1, .int q), (2, .int y)] := hl
  have hin12 : ∀ w ∈ wsX120, w ∈ wsX12_name := (fun _ h => List.mem_cons_of_mem _ (List.mem_append_right _ (h)))
  have wF32 := hts (.fieldLink RX12 32 "WhoSitsByModel" "names" "[I") (z_mem 1 rfl)
  have h8 := hr0.1
  refine lv_aload_n hx hb dX12_name_0 rfl (lv_at hl 0 rfl) ?_
  refine lv_iload_n hx hb dX12_name_1 rfl (lv_at hl 1 rfl) ?_
  refine z_calli (va_runV (As := [.int q]) (rest := []) ⟨hx, hb, hml, hown, hts⟩ ((c_X12_isPupil l hG x N q hr0) A) (cwV 1 hts gX12_name_X12_isPupil rfl rfl rfl (by decide +kernel) ⟨Nat.le_of_ble_eq_true rfl, Nat.le_of_ble_eq_true rfl⟩) (z_pV hI hK hN (z_recv hK hI (zo77 hG) rfl)) rfl rfl hl.1 rfl (lv_room (Nat.le_of_ble_eq_true rfl)) dX12_name_2 ⟨Nat.zero_le _, Nat.zero_le _⟩) hI (fun r_2 u H locs hw hI => ?_)
  obtain ⟨rfl, rfl⟩ := hw
  refine lv_if_eq (tgt := 21) hx hb dX12_name_5 (by decide) (fun c_5 => ?_) (fun c_5 => ?_)
  · skip
    rw [zb_0] at c_5
    refine lv_iconst (v := (-1)) hx hb dX12_name_21 rfl ?_
    exact z_iret hx hb hr hlocks hI (Or.inl ⟨fun h => c_5 h.1, rfl, rfl⟩) dX12_name_22
  · skip
    rw [zb_0, Classical.not_not] at c_5
    refine lv_iload_n hx hb dX12_name_8 rfl (lv_at hl 2 rfl) ?_
    refine lv_iconst (v := (-1)) hx hb dX12_name_9 rfl ?_
    refine lv_icmp_eq (tgt := 23) hx hb dX12_name_10 (by decide) (fun c_10 => ?_) (fun c_10 => ?_)
    · skip
      refine lv_iload_n hx hb dX12_name_23 rfl (lv_at hl 1 rfl) ?_
      refine lv_iload_n hx hb dX12_name_24 rfl (lv_at hl 2 rfl) ?_
      refine lv_icmp_ne (tgt := 31) hx hb dX12_name_25 (by decide) (fun c_25 => ?_) (fun c_25 => ?_)
      · skip
        obtain ⟨k, hk, rfl⟩ := zin_k h8 c_5
        refine lv_aload_n hx hb dX12_name_31 rfl (lv_at hl 0 rfl) ?_
        refine z_get (C := RX12) (T := TX12) (N := 51) (ci := 12) (v := .ref (za G 83)) hx hb hts hin12 hown hK hI (zo77 hG) rfl 7 (by decide) wF32 (fun _ h9 => h9) rfl dX12_name_32 ?_
        refine lv_iload_n hx hb dX12_name_35 rfl (lv_at hl 1 rfl) ?_
        refine z_iald (v := (x.1 83 k)) hx hb hK hI (zo83 hG) k rfl (by omega) (by decide) rfl dX12_name_36 ?_
        refine lv_istore_n (lv' := [(3, .int (x.1 83 k)), (0, .ref (za G 77)), (1, .int (nI k)), (2, .int y)]) hx hb dX12_name_37 rfl hl (by decide) rfl (fun ls hl => ?_)
        refine lv_aload_n hx hb dX12_name_38 rfl (lv_at hl 1 rfl) ?_
        refine z_get (C := RX12) (T := TX12) (N := 51) (ci := 12) (v := .ref (za G 83)) hx hb hts hin12 hown hK hI (zo77 hG) rfl 7 (by decide) wF32 (fun _ h9 => h9) rfl dX12_name_39 ?_
        refine lv_iload_n hx hb dX12_name_42 rfl (lv_at hl 2 rfl) ?_
        refine lv_iload_n hx hb dX12_name_43 rfl (lv_at hl 3 rfl) ?_
        refine z_iast (y := y) hx hb hK hI (zo83 hG) k rfl (by omega) (by decide) dX12_name_44 (fun H locs hI => ?_)
        refine lv_iload_n hx hb dX12_name_45 rfl (lv_at hl 0 rfl) ?_
        refine lv_if_ge (tgt := 54) hx hb dX12_name_46 (by decide) (fun c_46 => ?_) (fun c_46 => ?_)
        · skip
          refine lv_iload_n hx hb dX12_name_54 rfl (lv_at hl 0 rfl) ?_
          exact z_iret hx hb hr hlocks hI (Or.inr (Or.inr ⟨k, hk, rfl, Or.inl c_10, c_25, rfl, if_pos c_46⟩)) dX12_name_55
        · skip
          refine lv_bipush (v := (-5)) hx hb dX12_name_49 rfl ?_
          refine lv_goto (tgt := 55) hx hb dX12_name_51 (by decide) ?_
          exact z_iret hx hb hr hlocks hI (Or.inr (Or.inr ⟨k, hk, rfl, Or.inl c_10, c_25, rfl, if_neg c_46⟩)) dX12_name_55
      · skip
        refine lv_bipush (v := (-2)) hx hb dX12_name_28 rfl ?_
        exact z_iret hx hb hr hlocks hI (Or.inr (Or.inl ⟨c_5, Or.inl c_10, c_25, rfl, rfl⟩)) dX12_name_30
    · skip
      refine lv_aload_n hx hb dX12_name_13 rfl (lv_at hl 0 rfl) ?_
      refine lv_iload_n hx hb dX12_name_14 rfl (lv_at hl 2 rfl) ?_
      refine z_calli (va_runV (As := [.int y]) (rest := []) ⟨hx, hb, hml, hown, hts⟩ ((c_X12_isPupil l hG x N y hr0) A) (cwV 1 hts gX12_name_X12_isPupil rfl rfl rfl (by decide +kernel) ⟨Nat.le_of_ble_eq_true rfl, Nat.le_of_ble_eq_true rfl⟩) (z_pV hI hK hN (z_recv hK hI (zo77 hG) rfl)) rfl rfl hl.1 rfl (lv_room (Nat.le_of_ble_eq_true rfl)) dX12_name_15 ⟨Nat.zero_le _, Nat.zero_le _⟩) hI (fun r_15 u H locs hw hI => ?_)
      obtain ⟨rfl, rfl⟩ := hw
      refine lv_if_ne (tgt := 23) hx hb dX12_name_18 (by decide) (fun c_18 => ?_) (fun c_18 => ?_)
      · skip
        rw [zb_0, Classical.not_not] at c_18
        refine lv_iload_n hx hb dX12_name_23 rfl (lv_at hl 1 rfl) ?_
        refine lv_iload_n hx hb dX12_name_24 rfl (lv_at hl 2 rfl) ?_
        refine lv_icmp_ne (tgt := 31) hx hb dX12_name_25 (by decide) (fun c_25 => ?_) (fun c_25 => ?_)
        · skip
          obtain ⟨k, hk, rfl⟩ := zin_k h8 c_5
          refine lv_aload_n hx hb dX12_name_31 rfl (lv_at hl 0 rfl) ?_
          refine z_get (C := RX12) (T := TX12) (N := 51) (ci := 12) (v := .ref (za G 83)) hx hb hts hin12 hown hK hI (zo77 hG) rfl 7 (by decide) wF32 (fun _ h9 => h9) rfl dX12_name_32 ?_
          refine lv_iload_n hx hb dX12_name_35 rfl (lv_at hl 1 rfl) ?_
          refine z_iald (v := (x.1 83 k)) hx hb hK hI (zo83 hG) k rfl (by omega) (by decide) rfl dX12_name_36 ?_
          refine lv_istore_n (lv' := [(3, .int (x.1 83 k)), (0, .ref (za G 77)), (1, .int (nI k)), (2, .int y)]) hx hb dX12_name_37 rfl hl (by decide) rfl (fun ls hl => ?_)
          refine lv_aload_n hx hb dX12_name_38 rfl (lv_at hl 1 rfl) ?_
          refine z_get (C := RX12) (T := TX12) (N := 51) (ci := 12) (v := .ref (za G 83)) hx hb hts hin12 hown hK hI (zo77 hG) rfl 7 (by decide) wF32 (fun _ h9 => h9) rfl dX12_name_39 ?_
          refine lv_iload_n hx hb dX12_name_42 rfl (lv_at hl 2 rfl) ?_
          refine lv_iload_n hx hb dX12_name_43 rfl (lv_at hl 3 rfl) ?_
          refine z_iast (y := y) hx hb hK hI (zo83 hG) k rfl (by omega) (by decide) dX12_name_44 (fun H locs hI => ?_)
          refine lv_iload_n hx hb dX12_name_45 rfl (lv_at hl 0 rfl) ?_
          refine lv_if_ge (tgt := 54) hx hb dX12_name_46 (by decide) (fun c_46 => ?_) (fun c_46 => ?_)
          · skip
            refine lv_iload_n hx hb dX12_name_54 rfl (lv_at hl 0 rfl) ?_
            exact z_iret hx hb hr hlocks hI (Or.inr (Or.inr ⟨k, hk, rfl, Or.inr c_18, c_25, rfl, if_pos c_46⟩)) dX12_name_55
          · skip
            refine lv_bipush (v := (-5)) hx hb dX12_name_49 rfl ?_
            refine lv_goto (tgt := 55) hx hb dX12_name_51 (by decide) ?_
            exact z_iret hx hb hr hlocks hI (Or.inr (Or.inr ⟨k, hk, rfl, Or.inr c_18, c_25, rfl, if_neg c_46⟩)) dX12_name_55
        · skip
          refine lv_bipush (v := (-2)) hx hb dX12_name_28 rfl ?_
          exact z_iret hx hb hr hlocks hI (Or.inr (Or.inl ⟨c_5, Or.inr c_18, c_25, rfl, rfl⟩)) dX12_name_30
      · skip
        rw [zb_0] at c_18
        refine lv_iconst (v := (-1)) hx hb dX12_name_21 rfl ?_
        exact z_iret hx hb hr hlocks hI (Or.inl ⟨fun h => h.2.elim c_10 c_18, rfl, rfl⟩) dX12_name_22
set_option maxHeartbeats 4000000 in
set_option maxRecDepth 100000 in
theorem c_X12_sit (l : Launch) {G : zG} (hG : zOK G) (x : zX) (N : Nat) (q s0 : Int32) (hr0 : zRef x N) : zMi l yX12_sit wsX12_sit { frames := 2, cells := 0, slots := 0, locals := 44 } G [.ref (za G 77), .int q, .int s0] x (fun (r : Int32) (u : zX) => (¬ (zin N q ∧ zin 8 s0) ∧ x = u ∧ -1 = r) ∨ (∃ k t, k < N ∧ q = nI k ∧ t < 8 ∧ s0 = nI t ∧ nI (zse x k) = r ∧ ((x.1 85 t = -1 ∧ zsI (zsI (zsI x 85 (zse x k) (-1)) 85 t (nI k)) 84 k (nI t) = u) ∨ (∃ o, o < N ∧ x.1 85 t = nI o ∧ zsI (zsI (zsI (zsI x 85 (zse x k) (nI o)) 84 o (nI (zse x k))) 85 t (nI k)) 84 k (nI t) = u)))) := by
  intro A
  refine zBody (cc := cX12_sit) (maxL := 5) (ret := (some .int)) (by decide) rfl (Nat.le_of_ble_eq_true rfl) ?_
  intro p e s m below meth c hx hb hml hown hts hr hlocks hK hN hI ls hl
  have hown : s.vm.findClass RX12 = some m.cls := hown
  have hl : lv_has ls 5 [(0, .ref (za G 77)), (1, .int q), (2, .int s0)] := hl
  have hin12 : ∀ w ∈ wsX120, w ∈ wsX12_sit := (fun _ h => List.mem_cons_of_mem _ (List.mem_append_right _ (h)))
  have wF35 := hts (.fieldLink RX12 35 "WhoSitsByModel" "seat" "[I") (z_mem 1 rfl)
  have wF38 := hts (.fieldLink RX12 38 "WhoSitsByModel" "sitter" "[I") (z_mem 2 rfl)
  have h8 := hr0.1
  refine lv_aload_n hx hb dX12_sit_0 rfl (lv_at hl 0 rfl) ?_
  refine lv_iload_n hx hb dX12_sit_1 rfl (lv_at hl 1 rfl) ?_
  refine z_calli (va_runV (As := [.int q]) (rest := []) ⟨hx, hb, hml, hown, hts⟩ ((c_X12_isPupil l hG x N q hr0) A) (cwV 1 hts gX12_sit_X12_isPupil rfl rfl rfl (by decide +kernel) ⟨Nat.le_of_ble_eq_true rfl, Nat.le_of_ble_eq_true rfl⟩) (z_pV hI hK hN (z_recv hK hI (zo77 hG) rfl)) rfl rfl hl.1 rfl (lv_room (Nat.le_of_ble_eq_true rfl)) dX12_sit_2 ⟨Nat.zero_le _, Nat.zero_le _⟩) hI (fun r_2 u H locs hw hI => ?_)
  obtain ⟨rfl, rfl⟩ := hw
  refine lv_if_eq (tgt := 16) hx hb dX12_sit_5 (by decide) (fun c_5 => ?_) (fun c_5 => ?_)
  · skip
    rw [zb_0] at c_5
    refine lv_iconst (v := (-1)) hx hb dX12_sit_16 rfl ?_
    exact z_iret hx hb hr hlocks hI (Or.inl ⟨fun h => c_5 h.1, rfl, rfl⟩) dX12_sit_17
  · skip
    rw [zb_0, Classical.not_not] at c_5
    refine lv_aload_n hx hb dX12_sit_8 rfl (lv_at hl 0 rfl) ?_
    refine lv_iload_n hx hb dX12_sit_9 rfl (lv_at hl 2 rfl) ?_
    refine z_calli (va_runV (As := [.int s0]) (rest := []) ⟨hx, hb, hml, hown, hts⟩ ((c_X12_isSeat l hG x s0) A) (cwV 1 hts gX12_sit_X12_isSeat rfl rfl rfl (by decide +kernel) ⟨Nat.le_of_ble_eq_true rfl, Nat.le_of_ble_eq_true rfl⟩) (z_pV hI hK hN (z_recv hK hI (zo77 hG) rfl)) rfl rfl hl.1 rfl (lv_room (Nat.le_of_ble_eq_true rfl)) dX12_sit_10 ⟨Nat.zero_le _, Nat.zero_le _⟩) hI (fun r_10 u H locs hw hI => ?_)
    obtain ⟨rfl, rfl⟩ := hw
    refine lv_if_ne (tgt := 18) hx hb dX12_sit_13 (by decide) (fun c_13 => ?_) (fun c_13 => ?_)
    · skip
      rw [zb_0, Classical.not_not] at c_13
      obtain ⟨k, hk, rfl⟩ := zin_k h8 c_5
      obtain ⟨t, ht, rfl⟩ := z_ix c_13.1 c_13.2 (by decide)
      have hz8 := (zse_of hr0 hk).2
      refine lv_aload_n hx hb dX12_sit_18 rfl (lv_at hl 0 rfl) ?_
      refine z_get (C := RX12) (T := TX12) (N := 51) (ci := 12) (v := .ref (za G 84)) hx hb hts hin12 hown hK hI (zo77 hG) rfl 8 (by decide) wF35 (fun _ h9 => h9) rfl dX12_sit_19 ?_
      refine lv_iload_n hx hb dX12_sit_22 rfl (lv_at hl 1 rfl) ?_
      refine z_iald (v := (nI (zse x k))) hx hb hK hI (zo84 hG) k rfl (by omega) (by decide) (zse_of hr0 (by omega)).1 dX12_sit_23 ?_
      refine lv_istore_n (lv' := [(3, .int (nI (zse x k))), (0, .ref (za G 77)), (1, .int (nI k)), (2, .int (nI t))]) hx hb dX12_sit_24 rfl hl (by decide) rfl (fun ls hl => ?_)
      rcases hr0.2.2.2.1 t ht with hso | ⟨o, ho, hso⟩
      · skip
        refine lv_aload_n hx hb dX12_sit_25 rfl (lv_at hl 1 rfl) ?_
        refine z_get (C := RX12) (T := TX12) (N := 51) (ci := 12) (v := .ref (za G 85)) hx hb hts hin12 hown hK hI (zo77 hG) rfl 9 (by decide) wF38 (fun _ h9 => h9) rfl dX12_sit_26 ?_
        refine lv_iload_n hx hb dX12_sit_29 rfl (lv_at hl 3 rfl) ?_
        refine z_iald (v := (-1)) hx hb hK hI (zo85 hG) t rfl (by omega) (by decide) hso dX12_sit_30 ?_
        refine lv_istore (lv' := [(4, .int (-1)), (3, .int (nI (zse x k))), (0, .ref (za G 77)), (1, .int (nI k)), (2, .int (nI t))]) hx hb dX12_sit_31 hl (by decide) rfl (fun ls hl => ?_)
        refine lv_aload_n hx hb dX12_sit_33 rfl (lv_at hl 2 rfl) ?_
        refine z_get (C := RX12) (T := TX12) (N := 51) (ci := 12) (v := .ref (za G 85)) hx hb hts hin12 hown hK hI (zo77 hG) rfl 9 (by decide) wF38 (fun _ h9 => h9) rfl dX12_sit_34 ?_
        refine lv_iload_n hx hb dX12_sit_37 rfl (lv_at hl 1 rfl) ?_
        refine lv_iload hx hb dX12_sit_38 (lv_at hl 0 rfl) ?_
        refine z_iast (y := (-1)) hx hb hK hI (zo85 hG) (zse x k) rfl (by omega) (by decide) dX12_sit_40 (fun H locs hI => ?_)
        refine lv_iload hx hb dX12_sit_41 (lv_at hl 0 rfl) ?_
        refine lv_if_lt (tgt := 54) hx hb dX12_sit_43 (by decide) (fun c_43 => ?_) (fun c_43 => ?_)
        · skip
          refine lv_aload_n hx hb dX12_sit_54 rfl (lv_at hl 2 rfl) ?_
          refine z_get (C := RX12) (T := TX12) (N := 51) (ci := 12) (v := .ref (za G 85)) hx hb hts hin12 hown hK hI (zo77 hG) rfl 9 (by decide) wF38 (fun _ h9 => h9) rfl dX12_sit_55 ?_
          refine lv_iload_n hx hb dX12_sit_58 rfl (lv_at hl 4 rfl) ?_
          refine lv_iload_n hx hb dX12_sit_59 rfl (lv_at hl 3 rfl) ?_
          refine z_iast (y := (nI k)) hx hb hK hI (zo85 hG) t rfl (by omega) (by decide) dX12_sit_60 (fun H locs hI => ?_)
          refine lv_aload_n hx hb dX12_sit_61 rfl (lv_at hl 2 rfl) ?_
          refine z_get (C := RX12) (T := TX12) (N := 51) (ci := 12) (v := .ref (za G 84)) hx hb hts hin12 hown hK hI (zo77 hG) rfl 8 (by decide) wF35 (fun _ h9 => h9) rfl dX12_sit_62 ?_
          refine lv_iload_n hx hb dX12_sit_65 rfl (lv_at hl 3 rfl) ?_
          refine lv_iload_n hx hb dX12_sit_66 rfl (lv_at hl 4 rfl) ?_
          refine z_iast (y := (nI t)) hx hb hK hI (zo84 hG) k rfl (by omega) (by decide) dX12_sit_67 (fun H locs hI => ?_)
          refine lv_iload_n hx hb dX12_sit_68 rfl (lv_at hl 1 rfl) ?_
          exact z_iret hx hb hr hlocks hI (Or.inr ⟨k, t, hk, rfl, ht, rfl, rfl, Or.inl ⟨hso, rfl⟩⟩) dX12_sit_69
        · skip
          exact absurd (by decide) c_43
      · skip
        refine lv_aload_n hx hb dX12_sit_25 rfl (lv_at hl 1 rfl) ?_
        refine z_get (C := RX12) (T := TX12) (N := 51) (ci := 12) (v := .ref (za G 85)) hx hb hts hin12 hown hK hI (zo77 hG) rfl 9 (by decide) wF38 (fun _ h9 => h9) rfl dX12_sit_26 ?_
        refine lv_iload_n hx hb dX12_sit_29 rfl (lv_at hl 3 rfl) ?_
        refine z_iald (v := (nI o)) hx hb hK hI (zo85 hG) t rfl (by omega) (by decide) hso dX12_sit_30 ?_
        refine lv_istore (lv' := [(4, .int (nI o)), (3, .int (nI (zse x k))), (0, .ref (za G 77)), (1, .int (nI k)), (2, .int (nI t))]) hx hb dX12_sit_31 hl (by decide) rfl (fun ls hl => ?_)
        refine lv_aload_n hx hb dX12_sit_33 rfl (lv_at hl 2 rfl) ?_
        refine z_get (C := RX12) (T := TX12) (N := 51) (ci := 12) (v := .ref (za G 85)) hx hb hts hin12 hown hK hI (zo77 hG) rfl 9 (by decide) wF38 (fun _ h9 => h9) rfl dX12_sit_34 ?_
        refine lv_iload_n hx hb dX12_sit_37 rfl (lv_at hl 1 rfl) ?_
        refine lv_iload hx hb dX12_sit_38 (lv_at hl 0 rfl) ?_
        refine z_iast (y := (nI o)) hx hb hK hI (zo85 hG) (zse x k) rfl (by omega) (by decide) dX12_sit_40 (fun H locs hI => ?_)
        refine lv_iload hx hb dX12_sit_41 (lv_at hl 0 rfl) ?_
        refine lv_if_lt (tgt := 54) hx hb dX12_sit_43 (by decide) (fun c_43 => ?_) (fun c_43 => ?_)
        · skip
          rw [show (0 : Int32) = nI 0 from rfl] at c_43; rw [zqL (by omega) (by omega)] at c_43
          exact absurd c_43 (by omega)
        · skip
          rw [show (0 : Int32) = nI 0 from rfl] at c_43; rw [zqL (by omega) (by omega)] at c_43
          refine lv_aload_n hx hb dX12_sit_46 rfl (lv_at hl 2 rfl) ?_
          refine z_get (C := RX12) (T := TX12) (N := 51) (ci := 12) (v := .ref (za G 84)) hx hb hts hin12 hown hK hI (zo77 hG) rfl 8 (by decide) wF35 (fun _ h9 => h9) rfl dX12_sit_47 ?_
          refine lv_iload hx hb dX12_sit_50 (lv_at hl 0 rfl) ?_
          refine lv_iload_n hx hb dX12_sit_52 rfl (lv_at hl 1 rfl) ?_
          refine z_iast (y := (nI (zse x k))) hx hb hK hI (zo84 hG) o rfl (by omega) (by decide) dX12_sit_53 (fun H locs hI => ?_)
          refine lv_aload_n hx hb dX12_sit_54 rfl (lv_at hl 2 rfl) ?_
          refine z_get (C := RX12) (T := TX12) (N := 51) (ci := 12) (v := .ref (za G 85)) hx hb hts hin12 hown hK hI (zo77 hG) rfl 9 (by decide) wF38 (fun _ h9 => h9) rfl dX12_sit_55 ?_
          refine lv_iload_n hx hb dX12_sit_58 rfl (lv_at hl 4 rfl) ?_
          refine lv_iload_n hx hb dX12_sit_59 rfl (lv_at hl 3 rfl) ?_
          refine z_iast (y := (nI k)) hx hb hK hI (zo85 hG) t rfl (by omega) (by decide) dX12_sit_60 (fun H locs hI => ?_)
          refine lv_aload_n hx hb dX12_sit_61 rfl (lv_at hl 2 rfl) ?_
          refine z_get (C := RX12) (T := TX12) (N := 51) (ci := 12) (v := .ref (za G 84)) hx hb hts hin12 hown hK hI (zo77 hG) rfl 8 (by decide) wF35 (fun _ h9 => h9) rfl dX12_sit_62 ?_
          refine lv_iload_n hx hb dX12_sit_65 rfl (lv_at hl 3 rfl) ?_
          refine lv_iload_n hx hb dX12_sit_66 rfl (lv_at hl 4 rfl) ?_
          refine z_iast (y := (nI t)) hx hb hK hI (zo84 hG) k rfl (by omega) (by decide) dX12_sit_67 (fun H locs hI => ?_)
          refine lv_iload_n hx hb dX12_sit_68 rfl (lv_at hl 1 rfl) ?_
          exact z_iret hx hb hr hlocks hI (Or.inr ⟨k, t, hk, rfl, ht, rfl, rfl, Or.inr ⟨o, ho, hso, rfl⟩⟩) dX12_sit_69
    · skip
      rw [zb_0] at c_13
      refine lv_iconst (v := (-1)) hx hb dX12_sit_16 rfl ?_
      exact z_iret hx hb hr hlocks hI (Or.inl ⟨fun h => c_13 h.2, rfl, rfl⟩) dX12_sit_17
set_option maxHeartbeats 4000000 in
set_option maxRecDepth 100000 in
theorem c_X12_feed (l : Launch) {G : zG} (hG : zOK G) (x : zX) (f : Nat) (q : Int32) (hf : f ≤ 100) (hft : x.1 77 14 = nI f) : zMi l yX12_feed wsX12_feed { frames := 1, cells := 0, slots := 0, locals := 23 } G [.ref (za G 77), .int q] x (fun (r : Int32) (u : zX) => (¬ (¬ q < 0 ∧ ¬ nI 127 < q) ∧ x = u ∧ -2 = r) ∨ ((¬ q < 0 ∧ ¬ nI 127 < q) ∧ f = 100 ∧ x = u ∧ -4 = r) ∨ ((¬ q < 0 ∧ ¬ nI 127 < q) ∧ f < 100 ∧ zsI (zsI x 88 f q) 77 14 (nI (f + 1)) = u ∧ nI (f + 1) = r)) := by
  intro A
  refine zBody (cc := cX12_feed) (maxL := 2) (ret := (some .int)) (by decide) rfl (Nat.le_of_ble_eq_true rfl) ?_
  intro p e s m below meth c hx hb hml hown hts hr hlocks hK hN hI ls hl
  have hown : s.vm.findClass RX12 = some m.cls := hown
  have hl : lv_has ls 2 [(0, .ref (za G 77)), (1, .int q)] := hl
  have hin12 : ∀ w ∈ wsX120, w ∈ wsX12_feed := (fun _ h => List.mem_cons_of_mem _ (List.mem_append_right _ (h)))
  have wF54 := hts (.fieldLink RX12 54 "WhoSitsByModel" "fed" "I") (z_mem 1 rfl)
  have wF63 := hts (.fieldLink RX12 63 "WhoSitsByModel" "text" "[I") (z_mem 2 rfl)
  refine lv_aload_n hx hb dX12_feed_0 rfl (lv_at hl 0 rfl) ?_
  refine lv_iload_n hx hb dX12_feed_1 rfl (lv_at hl 1 rfl) ?_
  refine lv_iconst (v := (nI 0)) hx hb dX12_feed_2 rfl ?_
  refine lv_bipush (v := (nI 127)) hx hb dX12_feed_3 rfl ?_
  refine z_calli (va_runV (As := [.int q, .int (nI 0), .int (nI 127)]) (rest := []) ⟨hx, hb, hml, hown, hts⟩ ((c_X12_in l hG x q (nI 0) (nI 127)) A) (cwV 3 hts gX12_feed_X12_in rfl rfl rfl (by decide +kernel) ⟨Nat.le_of_ble_eq_true rfl, Nat.le_of_ble_eq_true rfl⟩) (z_pV hI hK hN (z_recv hK hI (zo77 hG) rfl)) rfl rfl hl.1 rfl (lv_room (Nat.le_of_ble_eq_true rfl)) dX12_feed_5 ⟨Nat.zero_le _, Nat.zero_le _⟩) hI (fun r_5 u H locs hw hI => ?_)
  obtain ⟨rfl, rfl⟩ := hw
  refine lv_if_ne (tgt := 14) hx hb dX12_feed_8 (by decide) (fun c_8 => ?_) (fun c_8 => ?_)
  · skip
    rw [zb_0, Classical.not_not] at c_8
    refine lv_aload_n hx hb dX12_feed_14 rfl (lv_at hl 0 rfl) ?_
    refine z_get (C := RX12) (T := TX12) (N := 51) (ci := 12) (v := .int (nI f)) hx hb hts hin12 hown hK hI (zo77 hG) rfl 14 (by decide) wF54 (fun _ h9 => h9) (congrArg (fun q => some (Value.int q)) hft) dX12_feed_15 ?_
    refine lv_bipush (v := (nI 100)) hx hb dX12_feed_18 rfl ?_
    refine lv_icmp_ne (tgt := 26) hx hb dX12_feed_20 (by decide) (fun c_20 => ?_) (fun c_20 => ?_)
    · skip
      rw [zqE (by omega) (by omega)] at c_20
      refine lv_aload_n hx hb dX12_feed_26 rfl (lv_at hl 0 rfl) ?_
      refine z_get (C := RX12) (T := TX12) (N := 51) (ci := 12) (v := .ref (za G 88)) hx hb hts hin12 hown hK hI (zo77 hG) rfl 17 (by decide) wF63 (fun _ h9 => h9) rfl dX12_feed_27 ?_
      refine lv_aload_n hx hb dX12_feed_30 rfl (lv_at hl 0 rfl) ?_
      refine z_get (C := RX12) (T := TX12) (N := 51) (ci := 12) (v := .int (nI f)) hx hb hts hin12 hown hK hI (zo77 hG) rfl 14 (by decide) wF54 (fun _ h9 => h9) (congrArg (fun q => some (Value.int q)) hft) dX12_feed_31 ?_
      refine lv_iload_n hx hb dX12_feed_34 rfl (lv_at hl 1 rfl) ?_
      refine z_iast (y := q) hx hb hK hI (zo88 hG) f rfl (by omega) (by decide) dX12_feed_35 (fun H locs hI => ?_)
      refine lv_aload_n hx hb dX12_feed_36 rfl (lv_at hl 0 rfl) ?_
      refine lv_dup hx hb dX12_feed_37 rfl ?_
      refine z_get (C := RX12) (T := TX12) (N := 51) (ci := 12) (v := .int (nI f)) hx hb hts hin12 hown hK hI (zo77 hG) rfl 14 (by decide) wF54 (fun _ h9 => h9) (congrArg (fun q => some (Value.int q)) hft) dX12_feed_38 ?_
      refine lv_iconst (v := (nI 1)) hx hb dX12_feed_41 rfl ?_
      refine z_iadd (v := (nI (f + 1))) hx hb (nI_add _ _) dX12_feed_42 ?_
      refine z_putI (C := RX12) (T := TX12) (N := 51) (ci := 12) (ty := .int) hx hb hts hin12 tyX12 tyX12_ok nmX12 hown hK hI (zo77 hG) rfl 14 (by decide) wF54 (fun _ h9 => h9) rfl (fun _ _ => rfl) (by decide +kernel) rfl rfl (fun _ _ => Nat.le_of_ble_eq_true rfl) dX12_feed_43 (fun H locs hI => ?_)
      refine lv_aload_n hx hb dX12_feed_46 rfl (lv_at hl 0 rfl) ?_
      refine z_get (C := RX12) (T := TX12) (N := 51) (ci := 12) (v := .int (nI (f + 1))) hx hb hts hin12 hown hK hI (zo77 hG) rfl 14 (by decide) wF54 (fun _ h9 => h9) rfl dX12_feed_47 ?_
      exact z_iret hx hb hr hlocks hI (Or.inr (Or.inr ⟨c_8, by omega, rfl, rfl⟩)) dX12_feed_50
    · skip
      rw [zqE (by omega) (by omega)] at c_20
      refine lv_bipush (v := (-4)) hx hb dX12_feed_23 rfl ?_
      exact z_iret hx hb hr hlocks hI (Or.inr (Or.inl ⟨c_8, by omega, rfl, rfl⟩)) dX12_feed_25
  · skip
    rw [zb_0] at c_8
    refine lv_bipush (v := (-2)) hx hb dX12_feed_11 rfl ?_
    exact z_iret hx hb hr hlocks hI (Or.inl ⟨c_8, rfl, rfl⟩) dX12_feed_13
set_option maxHeartbeats 4000000 in
set_option maxRecDepth 100000 in
theorem c_X12_talk (l : Launch) {G : zG} (hG : zOK G) (x : zX) (N F C : Nat) (b m0 : Int32) (hr0 : zRef x N) (hcl : zClR x F C) : zMi l yX12_talk wsX12_talk { frames := 4, cells := 0, slots := 0, locals := 94 } G [.ref (za G 77), .int b, .int m0] x (fun (r : Int32) (u : zX) => (¬ ((¬ b < 0 ∧ ¬ nI (2 ^ N) ≤ b) ∧ ¬ m0 < 0 ∧ ¬ nI 60 < m0) ∧ x = u ∧ -2 = r) ∨ ((¬ b < 0 ∧ ¬ nI (2 ^ N) ≤ b) ∧ ∃ n, n ≤ 60 ∧ m0 = nI n ∧ x = u ∧ ziter (fun y => zbehind x y (zhush (x.1 90) (x.1 91) F C) (-1) N) n b = r)) := by
  intro A
  refine zBody (cc := cX12_talk) (maxL := 3) (ret := (some .int)) (by decide) rfl (Nat.le_of_ble_eq_true rfl) ?_
  intro p e s m below meth c hx hb hml hown hts hr hlocks hK hN hI ls hl
  have hown : s.vm.findClass RX12 = some m.cls := hown
  have hl : lv_has ls 3 [(0, .ref (za G 77)), (1, .int b), (2, .int m0)] := hl
  have h8 := hr0.1
  refine lv_aload_n hx hb dX12_talk_0 rfl (lv_at hl 0 rfl) ?_
  refine lv_iload_n hx hb dX12_talk_1 rfl (lv_at hl 1 rfl) ?_
  refine z_calli (va_runV (As := [.int b]) (rest := []) ⟨hx, hb, hml, hown, hts⟩ ((c_X12_arePupils l hG x N b hr0) A) (cwV 1 hts gX12_talk_X12_arePupils rfl rfl rfl (by decide +kernel) ⟨Nat.le_of_ble_eq_true rfl, Nat.le_of_ble_eq_true rfl⟩) (z_pV hI hK hN (z_recv hK hI (zo77 hG) rfl)) rfl rfl hl.1 rfl (lv_room (Nat.le_of_ble_eq_true rfl)) dX12_talk_2 ⟨Nat.zero_le _, Nat.zero_le _⟩) hI (fun r_2 u H locs hw hI => ?_)
  obtain ⟨rfl, rfl⟩ := hw
  refine lv_if_eq (tgt := 19) hx hb dX12_talk_5 (by decide) (fun c_5 => ?_) (fun c_5 => ?_)
  · skip
    rw [zb_0] at c_5
    refine lv_bipush (v := (-2)) hx hb dX12_talk_19 rfl ?_
    exact z_iret hx hb hr hlocks hI (Or.inl ⟨fun h => c_5 h.1, rfl, rfl⟩) dX12_talk_21
  · skip
    rw [zb_0, Classical.not_not] at c_5
    refine lv_aload_n hx hb dX12_talk_8 rfl (lv_at hl 0 rfl) ?_
    refine lv_iload_n hx hb dX12_talk_9 rfl (lv_at hl 2 rfl) ?_
    refine lv_iconst (v := (nI 0)) hx hb dX12_talk_10 rfl ?_
    refine lv_bipush (v := (nI 60)) hx hb dX12_talk_11 rfl ?_
    refine z_calli (va_runV (As := [.int m0, .int (nI 0), .int (nI 60)]) (rest := []) ⟨hx, hb, hml, hown, hts⟩ ((c_X12_in l hG x m0 (nI 0) (nI 60)) A) (cwV 3 hts gX12_talk_X12_in rfl rfl rfl (by decide +kernel) ⟨Nat.le_of_ble_eq_true rfl, Nat.le_of_ble_eq_true rfl⟩) (z_pV hI hK hN (z_recv hK hI (zo77 hG) rfl)) rfl rfl hl.1 rfl (lv_room (Nat.le_of_ble_eq_true rfl)) dX12_talk_13 ⟨Nat.zero_le _, Nat.zero_le _⟩) hI (fun r_13 u H locs hw hI => ?_)
    obtain ⟨rfl, rfl⟩ := hw
    refine lv_if_ne (tgt := 22) hx hb dX12_talk_16 (by decide) (fun c_16 => ?_) (fun c_16 => ?_)
    · skip
      rw [zb_0, Classical.not_not] at c_16
      obtain ⟨n, hn0, rfl⟩ := z_ix (n := 61) c_16.1 (fun h => z_nle h (z_lt1 (m := 60) (z_nlt c_16.2))) (by decide)
      refine lv_aload_n hx hb dX12_talk_22 rfl (lv_at hl 0 rfl) ?_
      refine lv_iload_n hx hb dX12_talk_23 rfl (lv_at hl 1 rfl) ?_
      refine lv_iload_n hx hb dX12_talk_24 rfl (lv_at hl 2 rfl) ?_
      refine z_calli (va_runV (As := [.int b, .int (nI n)]) (rest := []) ⟨hx, hb, hml, hown, hts⟩ ((c_X12_talkIn l hG x N F C n b hr0 hcl (by omega)) A) (cwV 2 hts gX12_talk_X12_talkIn rfl rfl rfl (by decide +kernel) ⟨Nat.le_of_ble_eq_true rfl, Nat.le_of_ble_eq_true rfl⟩) (z_pV hI hK hN (z_recv hK hI (zo77 hG) rfl)) rfl rfl hl.1 rfl (lv_room (Nat.le_of_ble_eq_true rfl)) dX12_talk_25 ⟨Nat.zero_le _, Nat.zero_le _⟩) hI (fun r_25 u H locs hw hI => ?_)
      obtain ⟨rfl, rfl⟩ := hw
      exact z_iret hx hb hr hlocks hI (Or.inr ⟨c_5, n, by omega, rfl, rfl, rfl⟩) dX12_talk_28
    · skip
      rw [zb_0] at c_16
      refine lv_bipush (v := (-2)) hx hb dX12_talk_19 rfl ?_
      exact z_iret hx hb hr hlocks hI (Or.inl ⟨fun h => c_16 ⟨h.2.1, h.2.2⟩, rfl, rfl⟩) dX12_talk_21
set_option maxHeartbeats 4000000 in
set_option maxRecDepth 100000 in
theorem c_X12_noise (l : Launch) {G : zG} (hG : zOK G) (x : zX) (N F C : Nat) (b m0 w : Int32) (hr0 : zRef x N) (hcl : zClR x F C) : zMi l yX12_noise wsX12_noise { frames := 4, cells := 0, slots := 0, locals := 94 } G [.ref (za G 77), .int b, .int m0, .int w] x (fun (r : Int32) (u : zX) => (¬ (¬ w < nI 0 ∧ ¬ nI 1 < w) ∧ x = u ∧ -1 = r) ∨ ((¬ w < nI 0 ∧ ¬ nI 1 < w) ∧ ¬ ((¬ b < 0 ∧ ¬ nI (2 ^ N) ≤ b) ∧ ¬ m0 < 0 ∧ ¬ nI 60 < m0) ∧ x = u ∧ -2 = r) ∨ ((¬ w < nI 0 ∧ ¬ nI 1 < w) ∧ (¬ b < 0 ∧ ¬ nI (2 ^ N) ≤ b) ∧ ∃ n, n ≤ 60 ∧ m0 = nI n ∧ x = u ∧ (if w = 0 then znoiseR x (ziter (fun y => zbehind x y (zhush (x.1 90) (x.1 91) F C) (-1) N) n b) N else zstill (fun y => zbehind x y (zhush (x.1 90) (x.1 91) F C) (-1) N) 0 61 b) = r)) := by
  intro A
  refine zBody (cc := cX12_noise) (maxL := 6) (ret := (some .int)) (by decide) rfl (Nat.le_of_ble_eq_true rfl) ?_
  intro p e s m below meth c hx hb hml hown hts hr hlocks hK hN hI ls hl
  have hown : s.vm.findClass RX12 = some m.cls := hown
  have hl : lv_has ls 6 [(0, .ref (za G 77)), (1, .int b), (2, .int m0), (3, .int w)] := hl
  have h8 := hr0.1
  refine lv_aload_n hx hb dX12_noise_0 rfl (lv_at hl 0 rfl) ?_
  refine lv_iload_n hx hb dX12_noise_1 rfl (lv_at hl 3 rfl) ?_
  refine lv_iconst (v := (nI 0)) hx hb dX12_noise_2 rfl ?_
  refine lv_iconst (v := (nI 1)) hx hb dX12_noise_3 rfl ?_
  refine z_calli (va_runV (As := [.int w, .int (nI 0), .int (nI 1)]) (rest := []) ⟨hx, hb, hml, hown, hts⟩ ((c_X12_in l hG x w (nI 0) (nI 1)) A) (cwV 3 hts gX12_noise_X12_in rfl rfl rfl (by decide +kernel) ⟨Nat.le_of_ble_eq_true rfl, Nat.le_of_ble_eq_true rfl⟩) (z_pV hI hK hN (z_recv hK hI (zo77 hG) rfl)) rfl rfl hl.1 rfl (lv_room (Nat.le_of_ble_eq_true rfl)) dX12_noise_4 ⟨Nat.zero_le _, Nat.zero_le _⟩) hI (fun r_4 u H locs hw hI => ?_)
  obtain ⟨rfl, rfl⟩ := hw
  refine lv_if_ne (tgt := 12) hx hb dX12_noise_7 (by decide) (fun c_7 => ?_) (fun c_7 => ?_)
  · skip
    rw [zb_0, Classical.not_not] at c_7
    refine lv_aload_n hx hb dX12_noise_12 rfl (lv_at hl 0 rfl) ?_
    refine lv_iload_n hx hb dX12_noise_13 rfl (lv_at hl 1 rfl) ?_
    refine z_calli (va_runV (As := [.int b]) (rest := []) ⟨hx, hb, hml, hown, hts⟩ ((c_X12_arePupils l hG x N b hr0) A) (cwV 1 hts gX12_noise_X12_arePupils rfl rfl rfl (by decide +kernel) ⟨Nat.le_of_ble_eq_true rfl, Nat.le_of_ble_eq_true rfl⟩) (z_pV hI hK hN (z_recv hK hI (zo77 hG) rfl)) rfl rfl hl.1 rfl (lv_room (Nat.le_of_ble_eq_true rfl)) dX12_noise_14 ⟨Nat.zero_le _, Nat.zero_le _⟩) hI (fun r_14 u H locs hw hI => ?_)
    obtain ⟨rfl, rfl⟩ := hw
    refine lv_if_eq (tgt := 31) hx hb dX12_noise_17 (by decide) (fun c_17 => ?_) (fun c_17 => ?_)
    · skip
      rw [zb_0] at c_17
      refine lv_bipush (v := (-2)) hx hb dX12_noise_31 rfl ?_
      exact z_iret hx hb hr hlocks hI (Or.inr (Or.inl ⟨c_7, fun h => c_17 h.1, rfl, rfl⟩)) dX12_noise_33
    · skip
      rw [zb_0, Classical.not_not] at c_17
      refine lv_aload_n hx hb dX12_noise_20 rfl (lv_at hl 0 rfl) ?_
      refine lv_iload_n hx hb dX12_noise_21 rfl (lv_at hl 2 rfl) ?_
      refine lv_iconst (v := (nI 0)) hx hb dX12_noise_22 rfl ?_
      refine lv_bipush (v := (nI 60)) hx hb dX12_noise_23 rfl ?_
      refine z_calli (va_runV (As := [.int m0, .int (nI 0), .int (nI 60)]) (rest := []) ⟨hx, hb, hml, hown, hts⟩ ((c_X12_in l hG x m0 (nI 0) (nI 60)) A) (cwV 3 hts gX12_noise_X12_in rfl rfl rfl (by decide +kernel) ⟨Nat.le_of_ble_eq_true rfl, Nat.le_of_ble_eq_true rfl⟩) (z_pV hI hK hN (z_recv hK hI (zo77 hG) rfl)) rfl rfl hl.1 rfl (lv_room (Nat.le_of_ble_eq_true rfl)) dX12_noise_25 ⟨Nat.zero_le _, Nat.zero_le _⟩) hI (fun r_25 u H locs hw hI => ?_)
      obtain ⟨rfl, rfl⟩ := hw
      refine lv_if_ne (tgt := 34) hx hb dX12_noise_28 (by decide) (fun c_28 => ?_) (fun c_28 => ?_)
      · skip
        rw [zb_0, Classical.not_not] at c_28
        obtain ⟨n1, hn0, rfl⟩ := z_ix (n := 61) c_28.1 (fun h => z_nle h (z_lt1 (m := 60) (z_nlt c_28.2))) (by decide)
        refine lv_iload_n hx hb dX12_noise_34 rfl (lv_at hl 3 rfl) ?_
        refine lv_if_ne (tgt := 49) hx hb dX12_noise_35 (by decide) (fun c_35 => ?_) (fun c_35 => ?_)
        · skip
          refine lv_iload_n hx hb dX12_noise_49 rfl (lv_at hl 1 rfl) ?_
          refine lv_istore (lv' := [(4, .int b), (0, .ref (za G 77)), (1, .int b), (2, .int (nI n1)), (3, .int w)]) hx hb dX12_noise_50 hl (by decide) rfl (fun ls hl => ?_)
          refine lv_iconst (v := (nI 0)) hx hb dX12_noise_52 rfl ?_
          refine lv_istore (lv' := [(5, .int (nI 0)), (4, .int b), (0, .ref (za G 77)), (1, .int b), (2, .int (nI n1)), (3, .int w)]) hx hb dX12_noise_53 hl (by decide) rfl (fun ls hl => ?_)
          have L55 : ∀ (f : Nat) (j : Nat) (a : Int32), (j ≤ 61) → (zstill (fun y => zbehind x y (zhush (x.1 90) (x.1 91) F C) (-1) N) 0 61 b = zstill (fun y => zbehind x y (zhush (x.1 90) (x.1 91) F C) (-1) N) j (61 - j) a) → 62 ≤ j + f → ∀ (H : Heap) (locs : List Loc), zI G x A s.heap H locs → ∀ ls : Array Slot, lv_has ls 6 [(0, .ref (za G 77)), (3, .int w), (4, .int a), (5, .int (nI j))] → W p l e { frames := 4, cells := 0, slots := 0, locals := 94 } s m ([.ref (za G 77), .int b, .int (nI n1), .int w] : List Value).toArray below meth c H locs 0 0 (MQ below (va_Qi (fun (r : Int32) (u : zX) => (¬ (¬ w < nI 0 ∧ ¬ nI 1 < w) ∧ x = u ∧ -1 = r) ∨ ((¬ w < nI 0 ∧ ¬ nI 1 < w) ∧ ¬ ((¬ b < 0 ∧ ¬ nI (2 ^ N) ≤ b) ∧ ¬ (nI n1) < 0 ∧ ¬ nI 60 < (nI n1)) ∧ x = u ∧ -2 = r) ∨ ((¬ w < nI 0 ∧ ¬ nI 1 < w) ∧ (¬ b < 0 ∧ ¬ nI (2 ^ N) ≤ b) ∧ ∃ n, n ≤ 60 ∧ (nI n1) = nI n ∧ x = u ∧ (if w = 0 then znoiseR x (ziter (fun y => zbehind x y (zhush (x.1 90) (x.1 91) F C) (-1) N) n b) N else zstill (fun y => zbehind x y (zhush (x.1 90) (x.1 91) F C) (-1) N) 0 61 b) = r)) (fun u t => zJ G u A t.heap) A) ([.ref (za G 77), .int b, .int (nI n1), .int w] : List Value).toArray s 0 0 A) (F0 m 55 ls []) := by
            intro f
            induction f with
            | zero =>
              intro j a h1 h2 hf
              exact absurd hf (by omega)
            | succ f ih =>
              intro j a h1 h2 hf H locs hI ls hl
              have ih55 := ih
              refine lv_iload hx hb dX12_noise_55 (lv_at hl 3 rfl) ?_
              refine lv_bipush (v := (nI 61)) hx hb dX12_noise_57 rfl ?_
              refine lv_icmp_ge (tgt := 85) hx hb dX12_noise_59 (by decide) (fun c_59 => ?_) (fun c_59 => ?_)
              · skip
                rw [zqG (by omega) (by omega)] at c_59
                refine lv_bipush (v := (-5)) hx hb dX12_noise_85 rfl ?_
                exact z_iret hx hb hr hlocks hI (Or.inr (Or.inr ⟨c_7, c_17, n1, by omega, rfl, rfl, (if_neg c_35).trans (by rw [h2, show 61 - j = 0 by omega]; rfl)⟩)) dX12_noise_87
              · skip
                rw [zqG (by omega) (by omega)] at c_59
                refine lv_iload hx hb dX12_noise_62 (lv_at hl 2 rfl) ?_
                refine lv_if_ne (tgt := 70) hx hb dX12_noise_64 (by decide) (fun c_64 => ?_) (fun c_64 => ?_)
                · skip
                  refine lv_aload_n hx hb dX12_noise_70 rfl (lv_at hl 0 rfl) ?_
                  refine lv_iload hx hb dX12_noise_71 (lv_at hl 2 rfl) ?_
                  refine lv_iconst (v := (-1)) hx hb dX12_noise_73 rfl ?_
                  refine z_calli (va_runV (As := [.int a, .int (-1)]) (rest := []) ⟨hx, hb, hml, hown, hts⟩ ((c_X12_talkBehind l hG x N F C a (-1) hr0 hcl) A) (cwV 2 hts gX12_noise_X12_talkBehind rfl rfl rfl (by decide +kernel) ⟨Nat.le_of_ble_eq_true rfl, Nat.le_of_ble_eq_true rfl⟩) (z_pV hI hK hN (z_recv hK hI (zo77 hG) rfl)) rfl rfl hl.1 rfl (lv_room (Nat.le_of_ble_eq_true rfl)) dX12_noise_74 ⟨Nat.zero_le _, Nat.zero_le _⟩) hI (fun r_74 u H locs hw hI => ?_)
                  obtain ⟨rfl, rfl⟩ := hw
                  refine lv_istore (lv' := [(4, .int (zbehind x a (zhush (x.1 90) (x.1 91) F C) (-1) N)), (0, .ref (za G 77)), (3, .int w), (5, .int (nI j))]) hx hb dX12_noise_77 hl (by decide) rfl (fun ls hl => ?_)
                  refine lv_iinc (v := (nI (j + 1))) (lv' := [(5, .int (nI (j + 1))), (4, .int (zbehind x a (zhush (x.1 90) (x.1 91) F C) (-1) N)), (0, .ref (za G 77)), (3, .int w)]) hx hb dX12_noise_79 hl (k := 3) rfl (zinc j) (by decide) rfl (fun ls hl => ?_)
                  refine lv_goto (tgt := 55) hx hb dX12_noise_82 (by decide) ?_
                  exact ih55 (j + 1) (zbehind x a (zhush (x.1 90) (x.1 91) F C) (-1) N) (by omega) (by rw [h2, zstill_n c_64 (by omega)]; rfl) (by omega) _ _ hI ls (lv_sub hl [2, 3, 1, 0] rfl)
                · skip
                  refine lv_iload hx hb dX12_noise_67 (lv_at hl 3 rfl) ?_
                  exact z_iret hx hb hr hlocks hI (Or.inr (Or.inr ⟨c_7, c_17, n1, by omega, rfl, rfl, (if_neg c_35).trans (by rw [h2, zstill_y c_64 (by omega)])⟩)) dX12_noise_69
          exact L55 (62) 0 b (by omega) rfl (by omega) _ _ hI ls (lv_sub hl [2, 5, 1, 0] rfl)
        · skip
          refine lv_aload_n hx hb dX12_noise_38 rfl (lv_at hl 0 rfl) ?_
          refine lv_aload_n hx hb dX12_noise_39 rfl (lv_at hl 0 rfl) ?_
          refine lv_iload_n hx hb dX12_noise_40 rfl (lv_at hl 1 rfl) ?_
          refine lv_iload_n hx hb dX12_noise_41 rfl (lv_at hl 2 rfl) ?_
          refine z_calli (va_runV (As := [.int b, .int (nI n1)]) (rest := [.ref (za G 77)]) ⟨hx, hb, hml, hown, hts⟩ ((c_X12_talkIn l hG x N F C n1 b hr0 hcl (by omega)) A) (cwV 2 hts gX12_noise_X12_talkIn rfl rfl rfl (by decide +kernel) ⟨Nat.le_of_ble_eq_true rfl, Nat.le_of_ble_eq_true rfl⟩) (z_pV hI hK hN (z_recv hK hI (zo77 hG) rfl)) rfl rfl hl.1 rfl (lv_room (Nat.le_of_ble_eq_true rfl)) dX12_noise_42 ⟨Nat.zero_le _, Nat.zero_le _⟩) hI (fun r_42 u H locs hw hI => ?_)
          obtain ⟨rfl, rfl⟩ := hw
          refine z_calli (va_runV (As := [.int (ziter (fun y => zbehind x y (zhush (x.1 90) (x.1 91) F C) (-1) N) n1 b)]) (rest := []) ⟨hx, hb, hml, hown, hts⟩ ((c_X12_noiseOf l hG x N (ziter (fun y => zbehind x y (zhush (x.1 90) (x.1 91) F C) (-1) N) n1 b) hr0) A) (cwV 1 hts gX12_noise_X12_noiseOf rfl rfl rfl (by decide +kernel) ⟨Nat.le_of_ble_eq_true rfl, Nat.le_of_ble_eq_true rfl⟩) (z_pV hI hK hN (z_recv hK hI (zo77 hG) rfl)) rfl rfl hl.1 rfl (lv_room (Nat.le_of_ble_eq_true rfl)) dX12_noise_45 ⟨Nat.zero_le _, Nat.zero_le _⟩) hI (fun r_45 u H locs hw hI => ?_)
          obtain ⟨rfl, rfl⟩ := hw
          exact z_iret hx hb hr hlocks hI (Or.inr (Or.inr ⟨c_7, c_17, n1, by omega, rfl, rfl, if_pos c_35⟩)) dX12_noise_48
      · skip
        rw [zb_0] at c_28
        refine lv_bipush (v := (-2)) hx hb dX12_noise_31 rfl ?_
        exact z_iret hx hb hr hlocks hI (Or.inr (Or.inl ⟨c_7, fun h => c_28 ⟨h.2.1, h.2.2⟩, rfl, rfl⟩)) dX12_noise_33
  · skip
    rw [zb_0] at c_7
    refine lv_iconst (v := (-1)) hx hb dX12_noise_10 rfl ?_
    exact z_iret hx hb hr hlocks hI (Or.inl ⟨c_7, rfl, rfl⟩) dX12_noise_11
