set_option maxHeartbeats 1000000 in
set_option maxRecDepth 100000 in
theorem c_X12_factOf (l : Launch) {G : zG} (hG : zOK G) (x : zX) (f9 a b : Nat) (r9 : Int32) (hf9 : f9 < 7) (ha9 : a < 8) (hb9 : b < 8) : zMi l yX12_factOf wsX12_factOf { frames := 0, cells := 0, slots := 0, locals := 0 } G [.ref (za G 77), .int (nI f9), .int (nI a), .int (nI b), .int r9] x (fun (r : Int32) (u : zX) => x = u ∧ zfr9 x a b r9 f9 = r) := by
  intro A
  refine zBody (cc := cX12_factOf) (maxL := 5) (ret := (some .int)) (by decide) rfl (Nat.le_of_ble_eq_true rfl) ?_
  intro p e s m below meth c hx hb hml hown hts hr hlocks hK hN hI ls hl
  have hown : s.vm.findClass RX12 = some m.cls := hown
  have hl : lv_has ls 5 [(0, .ref (za G 77)), (1, .int (nI f9)), (2, .int (nI a)), (3, .int (nI b)), (4, .int r9)] := hl
  have hin12 : ∀ w ∈ wsX120, w ∈ wsX12_factOf := (fun _ h => List.mem_cons_of_mem _ (List.mem_append_right _ (h)))
  have wF26 := hts (.fieldLink RX12 26 "WhoSitsByModel" "knows" "[I") (z_mem 1 rfl)
  have wF23 := hts (.fieldLink RX12 23 "WhoSitsByModel" "talks" "[I") (z_mem 2 rfl)
  have wF29 := hts (.fieldLink RX12 29 "WhoSitsByModel" "tongue" "[I") (z_mem 3 rfl)
  have wF32 := hts (.fieldLink RX12 32 "WhoSitsByModel" "names" "[I") (z_mem 4 rfl)
  refine lv_iload_n hx hb dX12_factOf_0 rfl (lv_at hl 1 rfl) ?_
  by_cases q1_0 : (nI f9) = (nI 0)
  · skip
    refine lv_tableIn (off := 39) (tgt := 40) hx hb dX12_factOf_1 (by rw [q1_0]; decide) (by rw [q1_0]; decide) (by rw [q1_0]; rfl) (by decide) ?_
    obtain rfl : f9 = 0 := by rw [zqE (by omega) (by omega)] at q1_0; exact q1_0
    refine lv_iload_n hx hb dX12_factOf_40 rfl (lv_at hl 2 rfl) ?_
    exact z_iret hx hb hr hlocks hI (⟨rfl, if_pos rfl⟩) dX12_factOf_41
  by_cases q1_1 : (nI f9) = (nI 1)
  · skip
    refine lv_tableIn (off := 41) (tgt := 42) hx hb dX12_factOf_1 (by rw [q1_1]; decide) (by rw [q1_1]; decide) (by rw [q1_1]; rfl) (by decide) ?_
    obtain rfl : f9 = 1 := by rw [zqE (by omega) (by omega)] at q1_1; exact q1_1
    refine lv_iload_n hx hb dX12_factOf_42 rfl (lv_at hl 3 rfl) ?_
    exact z_iret hx hb hr hlocks hI (⟨rfl, (if_neg (by decide)).trans (if_pos rfl)⟩) dX12_factOf_43
  by_cases q1_2 : (nI f9) = (nI 2)
  · skip
    refine lv_tableIn (off := 43) (tgt := 44) hx hb dX12_factOf_1 (by rw [q1_2]; decide) (by rw [q1_2]; decide) (by rw [q1_2]; rfl) (by decide) ?_
    obtain rfl : f9 = 2 := by rw [zqE (by omega) (by omega)] at q1_2; exact q1_2
    refine lv_aload_n hx hb dX12_factOf_44 rfl (lv_at hl 0 rfl) ?_
    refine z_get (C := RX12) (T := TX12) (N := 51) (ci := 12) (v := .ref (za G 81)) hx hb hts hin12 hown hK hI (zo77 hG) rfl 5 (by decide) wF26 (fun _ h9 => h9) rfl dX12_factOf_45 ?_
    refine lv_iload_n hx hb dX12_factOf_48 rfl (lv_at hl 3 rfl) ?_
    refine z_iald (v := (x.1 81 b)) hx hb hK hI (zo81 hG) b rfl (by omega) (by decide) rfl dX12_factOf_49 ?_
    refine lv_aload_n hx hb dX12_factOf_50 rfl (lv_at hl 0 rfl) ?_
    refine z_get (C := RX12) (T := TX12) (N := 51) (ci := 12) (v := .ref (za G 81)) hx hb hts hin12 hown hK hI (zo77 hG) rfl 5 (by decide) wF26 (fun _ h9 => h9) rfl dX12_factOf_51 ?_
    refine lv_iload_n hx hb dX12_factOf_54 rfl (lv_at hl 2 rfl) ?_
    refine z_iald (v := (x.1 81 a)) hx hb hK hI (zo81 hG) a rfl (by omega) (by decide) rfl dX12_factOf_55 ?_
    refine lv_icmp_le (tgt := 75) hx hb dX12_factOf_56 (by decide) (fun c_56 => ?_) (fun c_56 => ?_)
    · skip
      refine lv_iconst (v := (nI 0)) hx hb dX12_factOf_75 rfl ?_
      exact z_iret hx hb hr hlocks hI (⟨rfl, (if_neg (by decide)).trans ((if_neg (by decide)).trans ((if_pos rfl).trans (if_pos (c_56))))⟩) dX12_factOf_76
    · skip
      refine lv_aload_n hx hb dX12_factOf_59 rfl (lv_at hl 0 rfl) ?_
      refine z_get (C := RX12) (T := TX12) (N := 51) (ci := 12) (v := .ref (za G 81)) hx hb hts hin12 hown hK hI (zo77 hG) rfl 5 (by decide) wF26 (fun _ h9 => h9) rfl dX12_factOf_60 ?_
      refine lv_iload_n hx hb dX12_factOf_63 rfl (lv_at hl 3 rfl) ?_
      refine z_iald (v := (x.1 81 b)) hx hb hK hI (zo81 hG) b rfl (by omega) (by decide) rfl dX12_factOf_64 ?_
      refine lv_aload_n hx hb dX12_factOf_65 rfl (lv_at hl 0 rfl) ?_
      refine z_get (C := RX12) (T := TX12) (N := 51) (ci := 12) (v := .ref (za G 81)) hx hb hts hin12 hown hK hI (zo77 hG) rfl 5 (by decide) wF26 (fun _ h9 => h9) rfl dX12_factOf_66 ?_
      refine lv_iload_n hx hb dX12_factOf_69 rfl (lv_at hl 2 rfl) ?_
      refine z_iald (v := (x.1 81 a)) hx hb hK hI (zo81 hG) a rfl (by omega) (by decide) rfl dX12_factOf_70 ?_
      refine lv_isub hx hb dX12_factOf_71 ?_
      refine lv_goto (tgt := 76) hx hb dX12_factOf_72 (by decide) ?_
      exact z_iret hx hb hr hlocks hI (⟨rfl, (if_neg (by decide)).trans ((if_neg (by decide)).trans ((if_pos rfl).trans (if_neg (fun h9 => c_56 h9))))⟩) dX12_factOf_76
  by_cases q1_3 : (nI f9) = (nI 3)
  · skip
    refine lv_tableIn (off := 76) (tgt := 77) hx hb dX12_factOf_1 (by rw [q1_3]; decide) (by rw [q1_3]; decide) (by rw [q1_3]; rfl) (by decide) ?_
    obtain rfl : f9 = 3 := by rw [zqE (by omega) (by omega)] at q1_3; exact q1_3
    refine lv_aload_n hx hb dX12_factOf_77 rfl (lv_at hl 0 rfl) ?_
    refine z_get (C := RX12) (T := TX12) (N := 51) (ci := 12) (v := .ref (za G 80)) hx hb hts hin12 hown hK hI (zo77 hG) rfl 4 (by decide) wF23 (fun _ h9 => h9) rfl dX12_factOf_78 ?_
    refine lv_iload_n hx hb dX12_factOf_81 rfl (lv_at hl 2 rfl) ?_
    refine z_iald (v := (x.1 80 a)) hx hb hK hI (zo80 hG) a rfl (by omega) (by decide) rfl dX12_factOf_82 ?_
    refine lv_aload_n hx hb dX12_factOf_83 rfl (lv_at hl 0 rfl) ?_
    refine z_get (C := RX12) (T := TX12) (N := 51) (ci := 12) (v := .ref (za G 80)) hx hb hts hin12 hown hK hI (zo77 hG) rfl 4 (by decide) wF23 (fun _ h9 => h9) rfl dX12_factOf_84 ?_
    refine lv_iload_n hx hb dX12_factOf_87 rfl (lv_at hl 3 rfl) ?_
    refine z_iald (v := (x.1 80 b)) hx hb hK hI (zo80 hG) b rfl (by omega) (by decide) rfl dX12_factOf_88 ?_
    refine lv_iadd hx hb dX12_factOf_89 ?_
    exact z_iret hx hb hr hlocks hI (⟨rfl, (if_neg (by decide)).trans ((if_neg (by decide)).trans ((if_neg (by decide)).trans (if_pos rfl)))⟩) dX12_factOf_90
  by_cases q1_4 : (nI f9) = (nI 4)
  · skip
    refine lv_tableIn (off := 90) (tgt := 91) hx hb dX12_factOf_1 (by rw [q1_4]; decide) (by rw [q1_4]; decide) (by rw [q1_4]; rfl) (by decide) ?_
    obtain rfl : f9 = 4 := by rw [zqE (by omega) (by omega)] at q1_4; exact q1_4
    refine lv_aload_n hx hb dX12_factOf_91 rfl (lv_at hl 0 rfl) ?_
    refine z_get (C := RX12) (T := TX12) (N := 51) (ci := 12) (v := .ref (za G 82)) hx hb hts hin12 hown hK hI (zo77 hG) rfl 6 (by decide) wF29 (fun _ h9 => h9) rfl dX12_factOf_92 ?_
    refine lv_iload_n hx hb dX12_factOf_95 rfl (lv_at hl 2 rfl) ?_
    refine z_iald (v := (x.1 82 a)) hx hb hK hI (zo82 hG) a rfl (by omega) (by decide) rfl dX12_factOf_96 ?_
    refine lv_aload_n hx hb dX12_factOf_97 rfl (lv_at hl 0 rfl) ?_
    refine z_get (C := RX12) (T := TX12) (N := 51) (ci := 12) (v := .ref (za G 82)) hx hb hts hin12 hown hK hI (zo77 hG) rfl 6 (by decide) wF29 (fun _ h9 => h9) rfl dX12_factOf_98 ?_
    refine lv_iload_n hx hb dX12_factOf_101 rfl (lv_at hl 3 rfl) ?_
    refine z_iald (v := (x.1 82 b)) hx hb hK hI (zo82 hG) b rfl (by omega) (by decide) rfl dX12_factOf_102 ?_
    refine lv_icmp_ne (tgt := 110) hx hb dX12_factOf_103 (by decide) (fun c_103 => ?_) (fun c_103 => ?_)
    · skip
      refine lv_iconst (v := (nI 0)) hx hb dX12_factOf_110 rfl ?_
      exact z_iret hx hb hr hlocks hI (⟨rfl, (if_neg (by decide)).trans ((if_neg (by decide)).trans ((if_neg (by decide)).trans ((if_neg (by decide)).trans ((if_pos rfl).trans (if_neg c_103)))))⟩) dX12_factOf_111
    · skip
      refine lv_iconst (v := (nI 1)) hx hb dX12_factOf_106 rfl ?_
      refine lv_goto (tgt := 111) hx hb dX12_factOf_107 (by decide) ?_
      exact z_iret hx hb hr hlocks hI (⟨rfl, (if_neg (by decide)).trans ((if_neg (by decide)).trans ((if_neg (by decide)).trans ((if_neg (by decide)).trans ((if_pos rfl).trans (if_pos c_103)))))⟩) dX12_factOf_111
  by_cases q1_5 : (nI f9) = (nI 5)
  · skip
    refine lv_tableIn (off := 111) (tgt := 112) hx hb dX12_factOf_1 (by rw [q1_5]; decide) (by rw [q1_5]; decide) (by rw [q1_5]; rfl) (by decide) ?_
    obtain rfl : f9 = 5 := by rw [zqE (by omega) (by omega)] at q1_5; exact q1_5
    refine lv_aload_n hx hb dX12_factOf_112 rfl (lv_at hl 0 rfl) ?_
    refine z_get (C := RX12) (T := TX12) (N := 51) (ci := 12) (v := .ref (za G 83)) hx hb hts hin12 hown hK hI (zo77 hG) rfl 7 (by decide) wF32 (fun _ h9 => h9) rfl dX12_factOf_113 ?_
    refine lv_iload_n hx hb dX12_factOf_116 rfl (lv_at hl 2 rfl) ?_
    refine z_iald (v := (x.1 83 a)) hx hb hK hI (zo83 hG) a rfl (by omega) (by decide) rfl dX12_factOf_117 ?_
    refine lv_iload_n hx hb dX12_factOf_118 rfl (lv_at hl 3 rfl) ?_
    refine lv_icmp_ne (tgt := 126) hx hb dX12_factOf_119 (by decide) (fun c_119 => ?_) (fun c_119 => ?_)
    · skip
      refine lv_iconst (v := (nI 0)) hx hb dX12_factOf_126 rfl ?_
      refine lv_aload_n hx hb dX12_factOf_127 rfl (lv_at hl 0 rfl) ?_
      refine z_get (C := RX12) (T := TX12) (N := 51) (ci := 12) (v := .ref (za G 83)) hx hb hts hin12 hown hK hI (zo77 hG) rfl 7 (by decide) wF32 (fun _ h9 => h9) rfl dX12_factOf_128 ?_
      refine lv_iload_n hx hb dX12_factOf_131 rfl (lv_at hl 3 rfl) ?_
      refine z_iald (v := (x.1 83 b)) hx hb hK hI (zo83 hG) b rfl (by omega) (by decide) rfl dX12_factOf_132 ?_
      refine lv_iload_n hx hb dX12_factOf_133 rfl (lv_at hl 2 rfl) ?_
      refine lv_icmp_ne (tgt := 141) hx hb dX12_factOf_134 (by decide) (fun c_134 => ?_) (fun c_134 => ?_)
      · skip
        refine lv_iconst (v := (nI 0)) hx hb dX12_factOf_141 rfl ?_
        refine z_iadd (v := (nI (0 + 0))) hx hb (nI_add _ _) dX12_factOf_142 ?_
        exact z_iret hx hb hr hlocks hI (⟨rfl, by unfold zfr9; rw [if_neg (by decide), if_neg (by decide), if_neg (by decide), if_neg (by decide), if_neg (by decide), if_pos rfl, if_neg c_119, if_neg c_134]; exact nI_add _ _⟩) dX12_factOf_143
      · skip
        refine lv_iconst (v := (nI 1)) hx hb dX12_factOf_137 rfl ?_
        refine lv_goto (tgt := 142) hx hb dX12_factOf_138 (by decide) ?_
        refine z_iadd (v := (nI (0 + 1))) hx hb (nI_add _ _) dX12_factOf_142 ?_
        exact z_iret hx hb hr hlocks hI (⟨rfl, by unfold zfr9; rw [if_neg (by decide), if_neg (by decide), if_neg (by decide), if_neg (by decide), if_neg (by decide), if_pos rfl, if_neg c_119, if_pos c_134]; exact nI_add _ _⟩) dX12_factOf_143
    · skip
      refine lv_iconst (v := (nI 1)) hx hb dX12_factOf_122 rfl ?_
      refine lv_goto (tgt := 127) hx hb dX12_factOf_123 (by decide) ?_
      refine lv_aload_n hx hb dX12_factOf_127 rfl (lv_at hl 0 rfl) ?_
      refine z_get (C := RX12) (T := TX12) (N := 51) (ci := 12) (v := .ref (za G 83)) hx hb hts hin12 hown hK hI (zo77 hG) rfl 7 (by decide) wF32 (fun _ h9 => h9) rfl dX12_factOf_128 ?_
      refine lv_iload_n hx hb dX12_factOf_131 rfl (lv_at hl 3 rfl) ?_
      refine z_iald (v := (x.1 83 b)) hx hb hK hI (zo83 hG) b rfl (by omega) (by decide) rfl dX12_factOf_132 ?_
      refine lv_iload_n hx hb dX12_factOf_133 rfl (lv_at hl 2 rfl) ?_
      refine lv_icmp_ne (tgt := 141) hx hb dX12_factOf_134 (by decide) (fun c_134 => ?_) (fun c_134 => ?_)
      · skip
        refine lv_iconst (v := (nI 0)) hx hb dX12_factOf_141 rfl ?_
        refine z_iadd (v := (nI (1 + 0))) hx hb (nI_add _ _) dX12_factOf_142 ?_
        exact z_iret hx hb hr hlocks hI (⟨rfl, by unfold zfr9; rw [if_neg (by decide), if_neg (by decide), if_neg (by decide), if_neg (by decide), if_neg (by decide), if_pos rfl, if_pos c_119, if_neg c_134]; exact nI_add _ _⟩) dX12_factOf_143
      · skip
        refine lv_iconst (v := (nI 1)) hx hb dX12_factOf_137 rfl ?_
        refine lv_goto (tgt := 142) hx hb dX12_factOf_138 (by decide) ?_
        refine z_iadd (v := (nI (1 + 1))) hx hb (nI_add _ _) dX12_factOf_142 ?_
        exact z_iret hx hb hr hlocks hI (⟨rfl, by unfold zfr9; rw [if_neg (by decide), if_neg (by decide), if_neg (by decide), if_neg (by decide), if_neg (by decide), if_pos rfl, if_pos c_119, if_pos c_134]; exact nI_add _ _⟩) dX12_factOf_143
  refine lv_tableOut (tgt := 144) hx hb dX12_factOf_1 (by have := lv_neT (a := 0) q1_0 rfl; have := lv_neT (a := 1) q1_1 rfl; have := lv_neT (a := 2) q1_2 rfl; have := lv_neT (a := 3) q1_3 rfl; have := lv_neT (a := 4) q1_4 rfl; have := lv_neT (a := 5) q1_5 rfl; omega) (by decide) ?_
  refine lv_iload hx hb dX12_factOf_144 (lv_at hl 4 rfl) ?_
  exact z_iret hx hb hr hlocks hI (⟨rfl, by unfold zfr9; rw [if_neg (fun h => q1_0 (by rw [h])), if_neg (fun h => q1_1 (by rw [h])), if_neg (fun h => q1_2 (by rw [h])), if_neg (fun h => q1_3 (by rw [h])), if_neg (fun h => q1_4 (by rw [h])), if_neg (fun h => q1_5 (by rw [h]))]⟩) dX12_factOf_146
