set_option maxHeartbeats 1000000 in
set_option maxRecDepth 100000 in
theorem c_X12_pupil (l : Launch) {G : zG} (hG : zOK G) (x : zX) (N t1 : Nat) (a v tk kn tg : Int32) (h8 : N ≤ 8) (hsz : x.1 77 0 = nI N) (hfr : N < 8 → t1 < 8 ∧ x.1 85 t1 < 0 ∧ ∀ s0, s0 < t1 → ¬ x.1 85 s0 < 0) : zMi l yX12_pupil wsX12_pupil { frames := 1, cells := 0, slots := 0, locals := 23 } G [.ref (za G 77), .int a, .int v, .int tk, .int kn, .int tg] x (fun (r : Int32) (u : zX) => (¬ zpg1 a ∧ x = u ∧ -1 = r) ∨ (zpg1 a ∧ ¬ zpg2 v tk kn tg ∧ x = u ∧ -2 = r) ∨ (zpg1 a ∧ zpg2 v tk kn tg ∧ N = 8 ∧ x = u ∧ -4 = r) ∨ (zpg1 a ∧ zpg2 v tk kn tg ∧ N < 8 ∧ zppR x N t1 a v tk kn tg = u ∧ nI N = r)) := by
  intro A
  refine zBody (cc := cX12_pupil) (maxL := 8) (ret := (some .int)) (by decide) rfl (Nat.le_of_ble_eq_true rfl) ?_
  intro p e s m below meth c hx hb hml hown hts hr hlocks hK hN hI ls hl
  have hown : s.vm.findClass RX12 = some m.cls := hown
  have hl : lv_has ls 8 [(0, .ref (za G 77)), (1, .int a), (2, .int v), (3, .int tk), (4, .int kn), (5, .int tg)] := hl
  have hin12 : ∀ w ∈ wsX120, w ∈ wsX12_pupil := (fun _ h => List.mem_cons_of_mem _ (List.mem_append_right _ (h)))
  have wF7 := hts (.fieldLink RX12 7 "WhoSitsByModel" "pupils" "I") (z_mem 1 rfl)
  have wF16 := hts (.fieldLink RX12 16 "WhoSitsByModel" "kind" "[I") (z_mem 2 rfl)
  have wF20 := hts (.fieldLink RX12 20 "WhoSitsByModel" "v" "[I") (z_mem 3 rfl)
  have wF23 := hts (.fieldLink RX12 23 "WhoSitsByModel" "talks" "[I") (z_mem 4 rfl)
  have wF26 := hts (.fieldLink RX12 26 "WhoSitsByModel" "knows" "[I") (z_mem 5 rfl)
  have wF29 := hts (.fieldLink RX12 29 "WhoSitsByModel" "tongue" "[I") (z_mem 6 rfl)
  have wF32 := hts (.fieldLink RX12 32 "WhoSitsByModel" "names" "[I") (z_mem 7 rfl)
  have wF41 := hts (.fieldLink RX12 41 "WhoSitsByModel" "needsFront" "[Z") (z_mem 8 rfl)
  have wF38 := hts (.fieldLink RX12 38 "WhoSitsByModel" "sitter" "[I") (z_mem 9 rfl)
  have wF35 := hts (.fieldLink RX12 35 "WhoSitsByModel" "seat" "[I") (z_mem 10 rfl)
  refine lv_aload_n hx hb dX12_pupil_0 rfl (lv_at hl 0 rfl) ?_
  refine lv_iload_n hx hb dX12_pupil_1 rfl (lv_at hl 1 rfl) ?_
  refine lv_iconst (v := (nI 0)) hx hb dX12_pupil_2 rfl ?_
  refine lv_bipush (v := (nI 6)) hx hb dX12_pupil_3 rfl ?_
  refine z_calli (va_runV (As := [.int a, .int (nI 0), .int (nI 6)]) (rest := []) ⟨hx, hb, hml, hown, hts⟩ ((c_X12_in l hG x a (nI 0) (nI 6)) A) (cwV 3 hts gX12_pupil_X12_in rfl rfl rfl (by decide +kernel) ⟨Nat.le_of_ble_eq_true rfl, Nat.le_of_ble_eq_true rfl⟩) (z_pV hI hK hN (z_recv hK hI (zo77 hG) rfl)) rfl rfl hl.1 rfl (lv_room (Nat.le_of_ble_eq_true rfl)) dX12_pupil_5 ⟨Nat.zero_le _, Nat.zero_le _⟩) hI (fun r_5 u H locs hw hI => ?_)
  obtain ⟨rfl, rfl⟩ := hw
  refine lv_if_ne (tgt := 13) hx hb dX12_pupil_8 (by decide) (fun c_8 => ?_) (fun c_8 => ?_)
  · skip
    rw [zb_0, Classical.not_not] at c_8
    refine lv_aload_n hx hb dX12_pupil_13 rfl (lv_at hl 0 rfl) ?_
    refine lv_iload_n hx hb dX12_pupil_14 rfl (lv_at hl 2 rfl) ?_
    refine lv_iconst (v := (nI 0)) hx hb dX12_pupil_15 rfl ?_
    refine lv_bipush (v := (nI 9)) hx hb dX12_pupil_16 rfl ?_
    refine z_calli (va_runV (As := [.int v, .int (nI 0), .int (nI 9)]) (rest := []) ⟨hx, hb, hml, hown, hts⟩ ((c_X12_in l hG x v (nI 0) (nI 9)) A) (cwV 3 hts gX12_pupil_X12_in rfl rfl rfl (by decide +kernel) ⟨Nat.le_of_ble_eq_true rfl, Nat.le_of_ble_eq_true rfl⟩) (z_pV hI hK hN (z_recv hK hI (zo77 hG) rfl)) rfl rfl hl.1 rfl (lv_room (Nat.le_of_ble_eq_true rfl)) dX12_pupil_18 ⟨Nat.zero_le _, Nat.zero_le _⟩) hI (fun r_18 u H locs hw hI => ?_)
    obtain ⟨rfl, rfl⟩ := hw
    refine lv_if_eq (tgt := 58) hx hb dX12_pupil_21 (by decide) (fun c_21 => ?_) (fun c_21 => ?_)
    · skip
      rw [zb_0] at c_21
      refine lv_bipush (v := (-2)) hx hb dX12_pupil_58 rfl ?_
      exact z_iret hx hb hr hlocks hI (Or.inr (Or.inl ⟨c_8, fun h => c_21 h.1, rfl, rfl⟩)) dX12_pupil_60
    · skip
      rw [zb_0, Classical.not_not] at c_21
      refine lv_aload_n hx hb dX12_pupil_24 rfl (lv_at hl 0 rfl) ?_
      refine lv_iload_n hx hb dX12_pupil_25 rfl (lv_at hl 3 rfl) ?_
      refine lv_iconst (v := (nI 0)) hx hb dX12_pupil_26 rfl ?_
      refine lv_bipush (v := (nI 9)) hx hb dX12_pupil_27 rfl ?_
      refine z_calli (va_runV (As := [.int tk, .int (nI 0), .int (nI 9)]) (rest := []) ⟨hx, hb, hml, hown, hts⟩ ((c_X12_in l hG x tk (nI 0) (nI 9)) A) (cwV 3 hts gX12_pupil_X12_in rfl rfl rfl (by decide +kernel) ⟨Nat.le_of_ble_eq_true rfl, Nat.le_of_ble_eq_true rfl⟩) (z_pV hI hK hN (z_recv hK hI (zo77 hG) rfl)) rfl rfl hl.1 rfl (lv_room (Nat.le_of_ble_eq_true rfl)) dX12_pupil_29 ⟨Nat.zero_le _, Nat.zero_le _⟩) hI (fun r_29 u H locs hw hI => ?_)
      obtain ⟨rfl, rfl⟩ := hw
      refine lv_if_eq (tgt := 58) hx hb dX12_pupil_32 (by decide) (fun c_32 => ?_) (fun c_32 => ?_)
      · skip
        rw [zb_0] at c_32
        refine lv_bipush (v := (-2)) hx hb dX12_pupil_58 rfl ?_
        exact z_iret hx hb hr hlocks hI (Or.inr (Or.inl ⟨c_8, fun h => c_32 h.2.1, rfl, rfl⟩)) dX12_pupil_60
      · skip
        rw [zb_0, Classical.not_not] at c_32
        refine lv_aload_n hx hb dX12_pupil_35 rfl (lv_at hl 0 rfl) ?_
        refine lv_iload hx hb dX12_pupil_36 (lv_at hl 4 rfl) ?_
        refine lv_iconst (v := (nI 0)) hx hb dX12_pupil_38 rfl ?_
        refine lv_bipush (v := (nI 9)) hx hb dX12_pupil_39 rfl ?_
        refine z_calli (va_runV (As := [.int kn, .int (nI 0), .int (nI 9)]) (rest := []) ⟨hx, hb, hml, hown, hts⟩ ((c_X12_in l hG x kn (nI 0) (nI 9)) A) (cwV 3 hts gX12_pupil_X12_in rfl rfl rfl (by decide +kernel) ⟨Nat.le_of_ble_eq_true rfl, Nat.le_of_ble_eq_true rfl⟩) (z_pV hI hK hN (z_recv hK hI (zo77 hG) rfl)) rfl rfl hl.1 rfl (lv_room (Nat.le_of_ble_eq_true rfl)) dX12_pupil_41 ⟨Nat.zero_le _, Nat.zero_le _⟩) hI (fun r_41 u H locs hw hI => ?_)
        obtain ⟨rfl, rfl⟩ := hw
        refine lv_if_eq (tgt := 58) hx hb dX12_pupil_44 (by decide) (fun c_44 => ?_) (fun c_44 => ?_)
        · skip
          rw [zb_0] at c_44
          refine lv_bipush (v := (-2)) hx hb dX12_pupil_58 rfl ?_
          exact z_iret hx hb hr hlocks hI (Or.inr (Or.inl ⟨c_8, fun h => c_44 h.2.2.1, rfl, rfl⟩)) dX12_pupil_60
        · skip
          rw [zb_0, Classical.not_not] at c_44
          refine lv_aload_n hx hb dX12_pupil_47 rfl (lv_at hl 0 rfl) ?_
          refine lv_iload hx hb dX12_pupil_48 (lv_at hl 5 rfl) ?_
          refine lv_iconst (v := (nI 0)) hx hb dX12_pupil_50 rfl ?_
          refine lv_iconst (v := (nI 2)) hx hb dX12_pupil_51 rfl ?_
          refine z_calli (va_runV (As := [.int tg, .int (nI 0), .int (nI 2)]) (rest := []) ⟨hx, hb, hml, hown, hts⟩ ((c_X12_in l hG x tg (nI 0) (nI 2)) A) (cwV 3 hts gX12_pupil_X12_in rfl rfl rfl (by decide +kernel) ⟨Nat.le_of_ble_eq_true rfl, Nat.le_of_ble_eq_true rfl⟩) (z_pV hI hK hN (z_recv hK hI (zo77 hG) rfl)) rfl rfl hl.1 rfl (lv_room (Nat.le_of_ble_eq_true rfl)) dX12_pupil_52 ⟨Nat.zero_le _, Nat.zero_le _⟩) hI (fun r_52 u H locs hw hI => ?_)
          obtain ⟨rfl, rfl⟩ := hw
          refine lv_if_ne (tgt := 61) hx hb dX12_pupil_55 (by decide) (fun c_55 => ?_) (fun c_55 => ?_)
          · skip
            rw [zb_0, Classical.not_not] at c_55
            refine lv_aload_n hx hb dX12_pupil_61 rfl (lv_at hl 0 rfl) ?_
            refine z_get (C := RX12) (T := TX12) (N := 51) (ci := 12) (v := .int (nI N)) hx hb hts hin12 hown hK hI (zo77 hG) rfl 0 (by decide) wF7 (fun _ h9 => h9) (congrArg (fun q => some (Value.int q)) hsz) dX12_pupil_62 ?_
            refine lv_bipush (v := (nI 8)) hx hb dX12_pupil_65 rfl ?_
            refine lv_icmp_ne (tgt := 73) hx hb dX12_pupil_67 (by decide) (fun c_67 => ?_) (fun c_67 => ?_)
            · skip
              rw [zqE (by omega) (by omega)] at c_67
              obtain ⟨ht1, hft, hfs⟩ := hfr (by omega)
              refine lv_aload_n hx hb dX12_pupil_73 rfl (lv_at hl 0 rfl) ?_
              refine z_get (C := RX12) (T := TX12) (N := 51) (ci := 12) (v := .int (nI N)) hx hb hts hin12 hown hK hI (zo77 hG) rfl 0 (by decide) wF7 (fun _ h9 => h9) (congrArg (fun q => some (Value.int q)) hsz) dX12_pupil_74 ?_
              refine lv_istore (lv' := [(6, .int (nI N)), (0, .ref (za G 77)), (1, .int a), (2, .int v), (3, .int tk), (4, .int kn), (5, .int tg)]) hx hb dX12_pupil_77 hl (by decide) rfl (fun ls hl => ?_)
              refine lv_aload_n hx hb dX12_pupil_79 rfl (lv_at hl 1 rfl) ?_
              refine z_get (C := RX12) (T := TX12) (N := 51) (ci := 12) (v := .ref (za G 78)) hx hb hts hin12 hown hK hI (zo77 hG) rfl 2 (by decide) wF16 (fun _ h9 => h9) rfl dX12_pupil_80 ?_
              refine lv_iload hx hb dX12_pupil_83 (lv_at hl 0 rfl) ?_
              refine lv_iload_n hx hb dX12_pupil_85 rfl (lv_at hl 2 rfl) ?_
              refine z_iast (y := a) hx hb hK hI (zo78 hG) N rfl (by omega) (by decide) dX12_pupil_86 (fun H locs hI => ?_)
              refine lv_aload_n hx hb dX12_pupil_87 rfl (lv_at hl 1 rfl) ?_
              refine z_get (C := RX12) (T := TX12) (N := 51) (ci := 12) (v := .ref (za G 79)) hx hb hts hin12 hown hK hI (zo77 hG) rfl 3 (by decide) wF20 (fun _ h9 => h9) rfl dX12_pupil_88 ?_
              refine lv_iload hx hb dX12_pupil_91 (lv_at hl 0 rfl) ?_
              refine lv_iload_n hx hb dX12_pupil_93 rfl (lv_at hl 3 rfl) ?_
              refine z_iast (y := v) hx hb hK hI (zo79 hG) N rfl (by omega) (by decide) dX12_pupil_94 (fun H locs hI => ?_)
              refine lv_aload_n hx hb dX12_pupil_95 rfl (lv_at hl 1 rfl) ?_
              refine z_get (C := RX12) (T := TX12) (N := 51) (ci := 12) (v := .ref (za G 80)) hx hb hts hin12 hown hK hI (zo77 hG) rfl 4 (by decide) wF23 (fun _ h9 => h9) rfl dX12_pupil_96 ?_
              refine lv_iload hx hb dX12_pupil_99 (lv_at hl 0 rfl) ?_
              refine lv_iload_n hx hb dX12_pupil_101 rfl (lv_at hl 4 rfl) ?_
              refine z_iast (y := tk) hx hb hK hI (zo80 hG) N rfl (by omega) (by decide) dX12_pupil_102 (fun H locs hI => ?_)
              refine lv_aload_n hx hb dX12_pupil_103 rfl (lv_at hl 1 rfl) ?_
              refine z_get (C := RX12) (T := TX12) (N := 51) (ci := 12) (v := .ref (za G 81)) hx hb hts hin12 hown hK hI (zo77 hG) rfl 5 (by decide) wF26 (fun _ h9 => h9) rfl dX12_pupil_104 ?_
              refine lv_iload hx hb dX12_pupil_107 (lv_at hl 0 rfl) ?_
              refine lv_iload hx hb dX12_pupil_109 (lv_at hl 5 rfl) ?_
              refine z_iast (y := kn) hx hb hK hI (zo81 hG) N rfl (by omega) (by decide) dX12_pupil_111 (fun H locs hI => ?_)
              refine lv_aload_n hx hb dX12_pupil_112 rfl (lv_at hl 1 rfl) ?_
              refine z_get (C := RX12) (T := TX12) (N := 51) (ci := 12) (v := .ref (za G 82)) hx hb hts hin12 hown hK hI (zo77 hG) rfl 6 (by decide) wF29 (fun _ h9 => h9) rfl dX12_pupil_113 ?_
              refine lv_iload hx hb dX12_pupil_116 (lv_at hl 0 rfl) ?_
              refine lv_iload hx hb dX12_pupil_118 (lv_at hl 6 rfl) ?_
              refine z_iast (y := tg) hx hb hK hI (zo82 hG) N rfl (by omega) (by decide) dX12_pupil_120 (fun H locs hI => ?_)
              refine lv_aload_n hx hb dX12_pupil_121 rfl (lv_at hl 1 rfl) ?_
              refine z_get (C := RX12) (T := TX12) (N := 51) (ci := 12) (v := .ref (za G 83)) hx hb hts hin12 hown hK hI (zo77 hG) rfl 7 (by decide) wF32 (fun _ h9 => h9) rfl dX12_pupil_122 ?_
              refine lv_iload hx hb dX12_pupil_125 (lv_at hl 0 rfl) ?_
              refine lv_iconst (v := (-1)) hx hb dX12_pupil_127 rfl ?_
              refine z_iast (y := (-1)) hx hb hK hI (zo83 hG) N rfl (by omega) (by decide) dX12_pupil_128 (fun H locs hI => ?_)
              refine lv_aload_n hx hb dX12_pupil_129 rfl (lv_at hl 1 rfl) ?_
              refine z_get (C := RX12) (T := TX12) (N := 51) (ci := 12) (v := .ref (za G 86)) hx hb hts hin12 hown hK hI (zo77 hG) rfl 10 (by decide) wF41 (fun _ h9 => h9) rfl dX12_pupil_130 ?_
              refine lv_iload hx hb dX12_pupil_133 (lv_at hl 0 rfl) ?_
              refine lv_iconst (v := (nI 0)) hx hb dX12_pupil_135 rfl ?_
              refine z_zast (y := (nI 0)) hx hb hK hI (zo86 hG) N rfl (by omega) (by decide) (by decide) dX12_pupil_136 (fun H locs hI => ?_)
              refine lv_iconst (v := (nI 0)) hx hb dX12_pupil_137 rfl ?_
              refine lv_istore (lv' := [(7, .int (nI 0)), (6, .int (nI N)), (0, .ref (za G 77)), (1, .int a), (2, .int v), (3, .int tk), (4, .int kn), (5, .int tg)]) hx hb dX12_pupil_138 hl (by decide) rfl (fun ls hl => ?_)
              have L140 : ∀ (f : Nat) (k : Nat), (k ≤ t1) → t1 + 1 ≤ k + f → ∀ (H : Heap) (locs : List Loc), zI G (zsI (zsI (zsI (zsI (zsI (zsI (zsI x 78 N a) 79 N v) 80 N tk) 81 N kn) 82 N tg) 83 N (-1)) 86 N (nI 0)) A s.heap H locs → ∀ ls : Array Slot, lv_has ls 8 [(0, .ref (za G 77)), (1, .int a), (2, .int v), (3, .int tk), (4, .int kn), (5, .int tg), (6, .int (nI N)), (7, .int (nI k))] → W p l e { frames := 1, cells := 0, slots := 0, locals := 23 } s m ([.ref (za G 77), .int a, .int v, .int tk, .int kn, .int tg] : List Value).toArray below meth c H locs 0 0 (MQ below (va_Qi (fun (r : Int32) (u : zX) => (¬ zpg1 a ∧ x = u ∧ -1 = r) ∨ (zpg1 a ∧ ¬ zpg2 v tk kn tg ∧ x = u ∧ -2 = r) ∨ (zpg1 a ∧ zpg2 v tk kn tg ∧ N = 8 ∧ x = u ∧ -4 = r) ∨ (zpg1 a ∧ zpg2 v tk kn tg ∧ N < 8 ∧ zppR x N t1 a v tk kn tg = u ∧ nI N = r)) (fun u t => zJ G u A t.heap) A) ([.ref (za G 77), .int a, .int v, .int tk, .int kn, .int tg] : List Value).toArray s 0 0 A) (F0 m 140 ls []) := by
                intro f
                induction f with
                | zero =>
                  intro k h1 hf
                  exact absurd hf (by omega)
                | succ f ih =>
                  intro k h1 hf H locs hI ls hl
                  have ih140 := ih
                  refine lv_aload_n hx hb dX12_pupil_140 rfl (lv_at hl 0 rfl) ?_
                  refine z_get (C := RX12) (T := TX12) (N := 51) (ci := 12) (v := .ref (za G 85)) hx hb hts hin12 hown hK hI (zo77 hG) rfl 9 (by decide) wF38 (fun _ h9 => h9) rfl dX12_pupil_141 ?_
                  refine lv_iload hx hb dX12_pupil_144 (lv_at hl 7 rfl) ?_
                  refine z_iald (v := (x.1 85 k)) hx hb hK hI (zo85 hG) k rfl (by omega) (by decide) rfl dX12_pupil_146 ?_
                  refine lv_if_lt (tgt := 156) hx hb dX12_pupil_147 (by decide) (fun c_147 => ?_) (fun c_147 => ?_)
                  · skip
                    obtain rfl : k = t1 := Nat.le_antisymm h1 (Nat.le_of_not_lt (fun q => hfs k q c_147))
                    refine lv_aload_n hx hb dX12_pupil_156 rfl (lv_at hl 0 rfl) ?_
                    refine z_get (C := RX12) (T := TX12) (N := 51) (ci := 12) (v := .ref (za G 84)) hx hb hts hin12 hown hK hI (zo77 hG) rfl 8 (by decide) wF35 (fun _ h9 => h9) rfl dX12_pupil_157 ?_
                    refine lv_iload hx hb dX12_pupil_160 (lv_at hl 6 rfl) ?_
                    refine lv_iload hx hb dX12_pupil_162 (lv_at hl 7 rfl) ?_
                    refine z_iast (y := (nI k)) hx hb hK hI (zo84 hG) N rfl (by omega) (by decide) dX12_pupil_164 (fun H locs hI => ?_)
                    refine lv_aload_n hx hb dX12_pupil_165 rfl (lv_at hl 0 rfl) ?_
                    refine z_get (C := RX12) (T := TX12) (N := 51) (ci := 12) (v := .ref (za G 85)) hx hb hts hin12 hown hK hI (zo77 hG) rfl 9 (by decide) wF38 (fun _ h9 => h9) rfl dX12_pupil_166 ?_
                    refine lv_iload hx hb dX12_pupil_169 (lv_at hl 7 rfl) ?_
                    refine lv_iload hx hb dX12_pupil_171 (lv_at hl 6 rfl) ?_
                    refine z_iast (y := (nI N)) hx hb hK hI (zo85 hG) k rfl (by omega) (by decide) dX12_pupil_173 (fun H locs hI => ?_)
                    refine lv_aload_n hx hb dX12_pupil_174 rfl (lv_at hl 0 rfl) ?_
                    refine lv_dup hx hb dX12_pupil_175 rfl ?_
                    refine z_get (C := RX12) (T := TX12) (N := 51) (ci := 12) (v := .int (nI N)) hx hb hts hin12 hown hK hI (zo77 hG) rfl 0 (by decide) wF7 (fun _ h9 => h9) (congrArg (fun q => some (Value.int q)) hsz) dX12_pupil_176 ?_
                    refine lv_iconst (v := (nI 1)) hx hb dX12_pupil_179 rfl ?_
                    refine z_iadd (v := (nI (N + 1))) hx hb (nI_add _ _) dX12_pupil_180 ?_
                    refine z_putI (C := RX12) (T := TX12) (N := 51) (ci := 12) (ty := .int) hx hb hts hin12 tyX12 tyX12_ok nmX12 hown hK hI (zo77 hG) rfl 0 (by decide) wF7 (fun _ h9 => h9) rfl (fun _ _ => rfl) (by decide +kernel) rfl rfl (fun _ _ => Nat.le_of_ble_eq_true rfl) dX12_pupil_181 (fun H locs hI => ?_)
                    refine lv_iload hx hb dX12_pupil_184 (lv_at hl 6 rfl) ?_
                    exact z_iret hx hb hr hlocks hI (Or.inr (Or.inr (Or.inr ⟨c_8, ⟨c_21, c_32, c_44, c_55⟩, by omega, rfl, rfl⟩))) dX12_pupil_186
                  · skip
                    have hk1 : k < t1 := Nat.lt_of_le_of_ne h1 (fun q => c_147 (by rw [q]; exact hft))
                    refine lv_iinc (v := (nI (k + 1))) (lv' := [(7, .int (nI (k + 1))), (0, .ref (za G 77)), (1, .int a), (2, .int v), (3, .int tk), (4, .int kn), (5, .int tg), (6, .int (nI N))]) hx hb dX12_pupil_150 hl (k := 7) rfl (zinc k) (by decide) rfl (fun ls hl => ?_)
                    refine lv_goto (tgt := 140) hx hb dX12_pupil_153 (by decide) ?_
                    exact ih140 (k + 1) (by omega) (by omega) _ _ hI ls (lv_sub hl [1, 2, 3, 4, 5, 6, 7, 0] rfl)
              exact L140 (t1 + 1) 0 (by omega) (by omega) _ _ hI ls (lv_sub hl [2, 3, 4, 5, 6, 7, 1, 0] rfl)
            · skip
              rw [zqE (by omega) (by omega)] at c_67
              refine lv_bipush (v := (-4)) hx hb dX12_pupil_70 rfl ?_
              exact z_iret hx hb hr hlocks hI (Or.inr (Or.inr (Or.inl ⟨c_8, ⟨c_21, c_32, c_44, c_55⟩, by omega, rfl, rfl⟩))) dX12_pupil_72
          · skip
            rw [zb_0] at c_55
            refine lv_bipush (v := (-2)) hx hb dX12_pupil_58 rfl ?_
            exact z_iret hx hb hr hlocks hI (Or.inr (Or.inl ⟨c_8, fun h => c_55 h.2.2.2, rfl, rfl⟩)) dX12_pupil_60
  · skip
    rw [zb_0] at c_8
    refine lv_iconst (v := (-1)) hx hb dX12_pupil_11 rfl ?_
    exact z_iret hx hb hr hlocks hI (Or.inl ⟨c_8, rfl, rfl⟩) dX12_pupil_12
