theorem zrt_lt {x : zX} {F p : Nat} {v : Int32} (h : zrt x F p = v) (hv : ¬ v = -1) : p + 1 ≤ F := by
  by_cases hp : p < F
  · exact hp
  · exact absurd (h.symm.trans (zrt_e p (by omega))) hv
theorem c_X12_nextR (l : Launch) {G : zG} (hG : zOK G) (x : zX) (p s n : Nat) (o d : Int32) (w4 w5 : Nat → Int32) (F : Nat) (hfd : x.1 77 14 = nI F) (hF : F ≤ 100) (hp : p ≤ F) : zMi l yX12_next wsX12_next { frames := 0, cells := 0, slots := 0, locals := 0 } G [.ref (za G 77)] (zrr x p s n o d w4 w5) (fun r u => zrr x p s n o d w4 w5 = u ∧ zrt x F p = r) := c_X12_next l hG (zrr x p s n o d w4 w5) p F rfl hfd hF (by omega)
theorem c_X12_secondR (l : Launch) {G : zG} (hG : zOK G) (x : zX) (p s n : Nat) (o d : Int32) (w4 w5 : Nat → Int32) (F : Nat) (hfd : x.1 77 14 = nI F) (hF : F ≤ 100) (hp : p ≤ F) : zMi l yX12_second wsX12_second { frames := 0, cells := 0, slots := 0, locals := 0 } G [.ref (za G 77)] (zrr x p s n o d w4 w5) (fun r u => zrr x p s n o d w4 w5 = u ∧ zrt x F (p + 1) = r) := c_X12_second l hG (zrr x p s n o d w4 w5) p F rfl hfd hF (by omega)
theorem c_X12_isDigitR (l : Launch) {G : zG} (hG : zOK G) (x : zX) (p s n : Nat) (o d : Int32) (w4 w5 : Nat → Int32) (F : Nat) (hfd : x.1 77 14 = nI F) (hF : F ≤ 100) (hp : p ≤ F) : zMi l yX12_isDigit wsX12_isDigit { frames := 1, cells := 0, slots := 0, locals := 23 } G [.ref (za G 77)] (zrr x p s n o d w4 w5) (fun r u => zrr x p s n o d w4 w5 = u ∧ (if zdr (zrt x F p) then nI 1 else nI 0) = r) := c_X12_isDigit l hG (zrr x p s n o d w4 w5) p F rfl hfd hF (by omega)
theorem c_X12_takesR (l : Launch) {G : zG} (hG : zOK G) (x : zX) (p s n : Nat) (o d : Int32) (w4 w5 : Nat → Int32) (F : Nat) (sg : Int32) (hfd : x.1 77 14 = nI F) (hF : F ≤ 100) (hp : p ≤ F) : zMi l yX12_takes wsX12_takes { frames := 1, cells := 0, slots := 0, locals := 20 } G [.ref (za G 77), .int sg] (zrr x p s n o d w4 w5) (fun r u => (zrt x F p = sg ∧ zrr x (p + 1) s n o d w4 w5 = u ∧ nI 1 = r) ∨ (¬ zrt x F p = sg ∧ zrr x p s n o d w4 w5 = u ∧ nI 0 = r)) :=
  zMi_mono (c_X12_takes l hG (zrr x p s n o d w4 w5) p F sg rfl hfd hF (by omega)) (fun r u h => by
    rw [zrr_15] at h
    exact h)
theorem c_X12_putR (l : Launch) {G : zG} (hG : zOK G) (x : zX) (p s n : Nat) (o d : Int32) (w4 w5 : Nat → Int32) (v : Int32) (hs : s < 600) : zMv l yX12_put wsX12_put { frames := 0, cells := 0, slots := 0, locals := 0 } G [.ref (za G 77), .int v] (zrr x p s n o d w4 w5) (fun u => zrr x p (s + 1) n o d (upd w4 s v) w5 = u) :=
  zMv_mono (c_X12_put l hG (zrr x p s n o d w4 w5) s v rfl hs) (fun u h => by
    rw [zrr_94, zrr_25] at h
    exact h)
set_option maxHeartbeats 1000000 in
set_option maxRecDepth 100000 in
theorem c_X12_place (l : Launch) {G : zG} (hG : zOK G) (x : zX) (v : Int32)  : zMi l yX12_place wsX12_place { frames := 0, cells := 0, slots := 0, locals := 0 } G [.ref (za G 77), .int v] x (fun (r : Int32) (u : zX) => x = u ∧ zpl v = r) := by
  intro A
  refine zBody (cc := cX12_place) (maxL := 2) (ret := (some .int)) (by decide) rfl (Nat.le_of_ble_eq_true rfl) ?_
  intro p e s m below meth c hx hb hml hown hts hr hlocks hK hN hI ls hl
  have hown : s.vm.findClass RX12 = some m.cls := hown
  have hl : lv_has ls 2 [(0, .ref (za G 77)), (1, .int v)] := hl
  refine lv_iload_n hx hb dX12_place_0 rfl (lv_at hl 1 rfl) ?_
  by_cases q1_97 : v = (nI 97)
  · skip
    refine lv_tableIn (off := 107) (tgt := 108) hx hb dX12_place_1 (by rw [q1_97]; decide) (by rw [q1_97]; decide) (by rw [q1_97]; rfl) (by decide) ?_
    refine lv_iconst (v := (nI 0)) hx hb dX12_place_108 rfl ?_
    exact z_iret hx hb hr hlocks hI (⟨rfl, by unfold zpl; rw [if_pos q1_97]⟩) dX12_place_109
  by_cases q1_98 : v = (nI 98)
  · skip
    refine lv_tableIn (off := 109) (tgt := 110) hx hb dX12_place_1 (by rw [q1_98]; decide) (by rw [q1_98]; decide) (by rw [q1_98]; rfl) (by decide) ?_
    refine lv_iconst (v := (nI 1)) hx hb dX12_place_110 rfl ?_
    exact z_iret hx hb hr hlocks hI (⟨rfl, by unfold zpl; rw [if_neg (by rw [q1_98]; decide), if_pos q1_98]⟩) dX12_place_111
  by_cases q1_99 : v = (nI 99)
  · skip
    refine lv_tableIn (off := 122) (tgt := 123) hx hb dX12_place_1 (by rw [q1_99]; decide) (by rw [q1_99]; decide) (by rw [q1_99]; rfl) (by decide) ?_
    refine lv_iconst (v := (-1)) hx hb dX12_place_123 rfl ?_
    exact z_iret hx hb hr hlocks hI (⟨rfl, by unfold zpl; rw [if_neg (by rw [q1_99]; decide), if_neg (by rw [q1_99]; decide), if_neg (by rw [q1_99]; decide), if_neg (by rw [q1_99]; decide), if_neg (by rw [q1_99]; decide), if_neg (by rw [q1_99]; decide), if_neg (by rw [q1_99]; decide)]⟩) dX12_place_124
  by_cases q1_100 : v = (nI 100)
  · skip
    refine lv_tableIn (off := 122) (tgt := 123) hx hb dX12_place_1 (by rw [q1_100]; decide) (by rw [q1_100]; decide) (by rw [q1_100]; rfl) (by decide) ?_
    refine lv_iconst (v := (-1)) hx hb dX12_place_123 rfl ?_
    exact z_iret hx hb hr hlocks hI (⟨rfl, by unfold zpl; rw [if_neg (by rw [q1_100]; decide), if_neg (by rw [q1_100]; decide), if_neg (by rw [q1_100]; decide), if_neg (by rw [q1_100]; decide), if_neg (by rw [q1_100]; decide), if_neg (by rw [q1_100]; decide), if_neg (by rw [q1_100]; decide)]⟩) dX12_place_124
  by_cases q1_101 : v = (nI 101)
  · skip
    refine lv_tableIn (off := 122) (tgt := 123) hx hb dX12_place_1 (by rw [q1_101]; decide) (by rw [q1_101]; decide) (by rw [q1_101]; rfl) (by decide) ?_
    refine lv_iconst (v := (-1)) hx hb dX12_place_123 rfl ?_
    exact z_iret hx hb hr hlocks hI (⟨rfl, by unfold zpl; rw [if_neg (by rw [q1_101]; decide), if_neg (by rw [q1_101]; decide), if_neg (by rw [q1_101]; decide), if_neg (by rw [q1_101]; decide), if_neg (by rw [q1_101]; decide), if_neg (by rw [q1_101]; decide), if_neg (by rw [q1_101]; decide)]⟩) dX12_place_124
  by_cases q1_102 : v = (nI 102)
  · skip
    refine lv_tableIn (off := 122) (tgt := 123) hx hb dX12_place_1 (by rw [q1_102]; decide) (by rw [q1_102]; decide) (by rw [q1_102]; rfl) (by decide) ?_
    refine lv_iconst (v := (-1)) hx hb dX12_place_123 rfl ?_
    exact z_iret hx hb hr hlocks hI (⟨rfl, by unfold zpl; rw [if_neg (by rw [q1_102]; decide), if_neg (by rw [q1_102]; decide), if_neg (by rw [q1_102]; decide), if_neg (by rw [q1_102]; decide), if_neg (by rw [q1_102]; decide), if_neg (by rw [q1_102]; decide), if_neg (by rw [q1_102]; decide)]⟩) dX12_place_124
  by_cases q1_103 : v = (nI 103)
  · skip
    refine lv_tableIn (off := 122) (tgt := 123) hx hb dX12_place_1 (by rw [q1_103]; decide) (by rw [q1_103]; decide) (by rw [q1_103]; rfl) (by decide) ?_
    refine lv_iconst (v := (-1)) hx hb dX12_place_123 rfl ?_
    exact z_iret hx hb hr hlocks hI (⟨rfl, by unfold zpl; rw [if_neg (by rw [q1_103]; decide), if_neg (by rw [q1_103]; decide), if_neg (by rw [q1_103]; decide), if_neg (by rw [q1_103]; decide), if_neg (by rw [q1_103]; decide), if_neg (by rw [q1_103]; decide), if_neg (by rw [q1_103]; decide)]⟩) dX12_place_124
  by_cases q1_104 : v = (nI 104)
  · skip
    refine lv_tableIn (off := 122) (tgt := 123) hx hb dX12_place_1 (by rw [q1_104]; decide) (by rw [q1_104]; decide) (by rw [q1_104]; rfl) (by decide) ?_
    refine lv_iconst (v := (-1)) hx hb dX12_place_123 rfl ?_
    exact z_iret hx hb hr hlocks hI (⟨rfl, by unfold zpl; rw [if_neg (by rw [q1_104]; decide), if_neg (by rw [q1_104]; decide), if_neg (by rw [q1_104]; decide), if_neg (by rw [q1_104]; decide), if_neg (by rw [q1_104]; decide), if_neg (by rw [q1_104]; decide), if_neg (by rw [q1_104]; decide)]⟩) dX12_place_124
  by_cases q1_105 : v = (nI 105)
  · skip
    refine lv_tableIn (off := 122) (tgt := 123) hx hb dX12_place_1 (by rw [q1_105]; decide) (by rw [q1_105]; decide) (by rw [q1_105]; rfl) (by decide) ?_
    refine lv_iconst (v := (-1)) hx hb dX12_place_123 rfl ?_
    exact z_iret hx hb hr hlocks hI (⟨rfl, by unfold zpl; rw [if_neg (by rw [q1_105]; decide), if_neg (by rw [q1_105]; decide), if_neg (by rw [q1_105]; decide), if_neg (by rw [q1_105]; decide), if_neg (by rw [q1_105]; decide), if_neg (by rw [q1_105]; decide), if_neg (by rw [q1_105]; decide)]⟩) dX12_place_124
  by_cases q1_106 : v = (nI 106)
  · skip
    refine lv_tableIn (off := 113) (tgt := 114) hx hb dX12_place_1 (by rw [q1_106]; decide) (by rw [q1_106]; decide) (by rw [q1_106]; rfl) (by decide) ?_
    refine lv_iconst (v := (nI 3)) hx hb dX12_place_114 rfl ?_
    exact z_iret hx hb hr hlocks hI (⟨rfl, by unfold zpl; rw [if_neg (by rw [q1_106]; decide), if_neg (by rw [q1_106]; decide), if_neg (by rw [q1_106]; decide), if_pos q1_106]⟩) dX12_place_115
  by_cases q1_107 : v = (nI 107)
  · skip
    refine lv_tableIn (off := 111) (tgt := 112) hx hb dX12_place_1 (by rw [q1_107]; decide) (by rw [q1_107]; decide) (by rw [q1_107]; rfl) (by decide) ?_
    refine lv_iconst (v := (nI 2)) hx hb dX12_place_112 rfl ?_
    exact z_iret hx hb hr hlocks hI (⟨rfl, by unfold zpl; rw [if_neg (by rw [q1_107]; decide), if_neg (by rw [q1_107]; decide), if_pos q1_107]⟩) dX12_place_113
  by_cases q1_108 : v = (nI 108)
  · skip
    refine lv_tableIn (off := 122) (tgt := 123) hx hb dX12_place_1 (by rw [q1_108]; decide) (by rw [q1_108]; decide) (by rw [q1_108]; rfl) (by decide) ?_
    refine lv_iconst (v := (-1)) hx hb dX12_place_123 rfl ?_
    exact z_iret hx hb hr hlocks hI (⟨rfl, by unfold zpl; rw [if_neg (by rw [q1_108]; decide), if_neg (by rw [q1_108]; decide), if_neg (by rw [q1_108]; decide), if_neg (by rw [q1_108]; decide), if_neg (by rw [q1_108]; decide), if_neg (by rw [q1_108]; decide), if_neg (by rw [q1_108]; decide)]⟩) dX12_place_124
  by_cases q1_109 : v = (nI 109)
  · skip
    refine lv_tableIn (off := 122) (tgt := 123) hx hb dX12_place_1 (by rw [q1_109]; decide) (by rw [q1_109]; decide) (by rw [q1_109]; rfl) (by decide) ?_
    refine lv_iconst (v := (-1)) hx hb dX12_place_123 rfl ?_
    exact z_iret hx hb hr hlocks hI (⟨rfl, by unfold zpl; rw [if_neg (by rw [q1_109]; decide), if_neg (by rw [q1_109]; decide), if_neg (by rw [q1_109]; decide), if_neg (by rw [q1_109]; decide), if_neg (by rw [q1_109]; decide), if_neg (by rw [q1_109]; decide), if_neg (by rw [q1_109]; decide)]⟩) dX12_place_124
  by_cases q1_110 : v = (nI 110)
  · skip
    refine lv_tableIn (off := 122) (tgt := 123) hx hb dX12_place_1 (by rw [q1_110]; decide) (by rw [q1_110]; decide) (by rw [q1_110]; rfl) (by decide) ?_
    refine lv_iconst (v := (-1)) hx hb dX12_place_123 rfl ?_
    exact z_iret hx hb hr hlocks hI (⟨rfl, by unfold zpl; rw [if_neg (by rw [q1_110]; decide), if_neg (by rw [q1_110]; decide), if_neg (by rw [q1_110]; decide), if_neg (by rw [q1_110]; decide), if_neg (by rw [q1_110]; decide), if_neg (by rw [q1_110]; decide), if_neg (by rw [q1_110]; decide)]⟩) dX12_place_124
  by_cases q1_111 : v = (nI 111)
  · skip
    refine lv_tableIn (off := 122) (tgt := 123) hx hb dX12_place_1 (by rw [q1_111]; decide) (by rw [q1_111]; decide) (by rw [q1_111]; rfl) (by decide) ?_
    refine lv_iconst (v := (-1)) hx hb dX12_place_123 rfl ?_
    exact z_iret hx hb hr hlocks hI (⟨rfl, by unfold zpl; rw [if_neg (by rw [q1_111]; decide), if_neg (by rw [q1_111]; decide), if_neg (by rw [q1_111]; decide), if_neg (by rw [q1_111]; decide), if_neg (by rw [q1_111]; decide), if_neg (by rw [q1_111]; decide), if_neg (by rw [q1_111]; decide)]⟩) dX12_place_124
  by_cases q1_112 : v = (nI 112)
  · skip
    refine lv_tableIn (off := 122) (tgt := 123) hx hb dX12_place_1 (by rw [q1_112]; decide) (by rw [q1_112]; decide) (by rw [q1_112]; rfl) (by decide) ?_
    refine lv_iconst (v := (-1)) hx hb dX12_place_123 rfl ?_
    exact z_iret hx hb hr hlocks hI (⟨rfl, by unfold zpl; rw [if_neg (by rw [q1_112]; decide), if_neg (by rw [q1_112]; decide), if_neg (by rw [q1_112]; decide), if_neg (by rw [q1_112]; decide), if_neg (by rw [q1_112]; decide), if_neg (by rw [q1_112]; decide), if_neg (by rw [q1_112]; decide)]⟩) dX12_place_124
  by_cases q1_113 : v = (nI 113)
  · skip
    refine lv_tableIn (off := 122) (tgt := 123) hx hb dX12_place_1 (by rw [q1_113]; decide) (by rw [q1_113]; decide) (by rw [q1_113]; rfl) (by decide) ?_
    refine lv_iconst (v := (-1)) hx hb dX12_place_123 rfl ?_
    exact z_iret hx hb hr hlocks hI (⟨rfl, by unfold zpl; rw [if_neg (by rw [q1_113]; decide), if_neg (by rw [q1_113]; decide), if_neg (by rw [q1_113]; decide), if_neg (by rw [q1_113]; decide), if_neg (by rw [q1_113]; decide), if_neg (by rw [q1_113]; decide), if_neg (by rw [q1_113]; decide)]⟩) dX12_place_124
  by_cases q1_114 : v = (nI 114)
  · skip
    refine lv_tableIn (off := 119) (tgt := 120) hx hb dX12_place_1 (by rw [q1_114]; decide) (by rw [q1_114]; decide) (by rw [q1_114]; rfl) (by decide) ?_
    refine lv_bipush (v := (nI 6)) hx hb dX12_place_120 rfl ?_
    exact z_iret hx hb hr hlocks hI (⟨rfl, by unfold zpl; rw [if_neg (by rw [q1_114]; decide), if_neg (by rw [q1_114]; decide), if_neg (by rw [q1_114]; decide), if_neg (by rw [q1_114]; decide), if_neg (by rw [q1_114]; decide), if_neg (by rw [q1_114]; decide), if_pos q1_114]⟩) dX12_place_122
  by_cases q1_115 : v = (nI 115)
  · skip
    refine lv_tableIn (off := 122) (tgt := 123) hx hb dX12_place_1 (by rw [q1_115]; decide) (by rw [q1_115]; decide) (by rw [q1_115]; rfl) (by decide) ?_
    refine lv_iconst (v := (-1)) hx hb dX12_place_123 rfl ?_
    exact z_iret hx hb hr hlocks hI (⟨rfl, by unfold zpl; rw [if_neg (by rw [q1_115]; decide), if_neg (by rw [q1_115]; decide), if_neg (by rw [q1_115]; decide), if_neg (by rw [q1_115]; decide), if_neg (by rw [q1_115]; decide), if_neg (by rw [q1_115]; decide), if_neg (by rw [q1_115]; decide)]⟩) dX12_place_124
  by_cases q1_116 : v = (nI 116)
  · skip
    refine lv_tableIn (off := 115) (tgt := 116) hx hb dX12_place_1 (by rw [q1_116]; decide) (by rw [q1_116]; decide) (by rw [q1_116]; rfl) (by decide) ?_
    refine lv_iconst (v := (nI 4)) hx hb dX12_place_116 rfl ?_
    exact z_iret hx hb hr hlocks hI (⟨rfl, by unfold zpl; rw [if_neg (by rw [q1_116]; decide), if_neg (by rw [q1_116]; decide), if_neg (by rw [q1_116]; decide), if_neg (by rw [q1_116]; decide), if_pos q1_116]⟩) dX12_place_117
  by_cases q1_117 : v = (nI 117)
  · skip
    refine lv_tableIn (off := 122) (tgt := 123) hx hb dX12_place_1 (by rw [q1_117]; decide) (by rw [q1_117]; decide) (by rw [q1_117]; rfl) (by decide) ?_
    refine lv_iconst (v := (-1)) hx hb dX12_place_123 rfl ?_
    exact z_iret hx hb hr hlocks hI (⟨rfl, by unfold zpl; rw [if_neg (by rw [q1_117]; decide), if_neg (by rw [q1_117]; decide), if_neg (by rw [q1_117]; decide), if_neg (by rw [q1_117]; decide), if_neg (by rw [q1_117]; decide), if_neg (by rw [q1_117]; decide), if_neg (by rw [q1_117]; decide)]⟩) dX12_place_124
  by_cases q1_118 : v = (nI 118)
  · skip
    refine lv_tableIn (off := 122) (tgt := 123) hx hb dX12_place_1 (by rw [q1_118]; decide) (by rw [q1_118]; decide) (by rw [q1_118]; rfl) (by decide) ?_
    refine lv_iconst (v := (-1)) hx hb dX12_place_123 rfl ?_
    exact z_iret hx hb hr hlocks hI (⟨rfl, by unfold zpl; rw [if_neg (by rw [q1_118]; decide), if_neg (by rw [q1_118]; decide), if_neg (by rw [q1_118]; decide), if_neg (by rw [q1_118]; decide), if_neg (by rw [q1_118]; decide), if_neg (by rw [q1_118]; decide), if_neg (by rw [q1_118]; decide)]⟩) dX12_place_124
  by_cases q1_119 : v = (nI 119)
  · skip
    refine lv_tableIn (off := 117) (tgt := 118) hx hb dX12_place_1 (by rw [q1_119]; decide) (by rw [q1_119]; decide) (by rw [q1_119]; rfl) (by decide) ?_
    refine lv_iconst (v := (nI 5)) hx hb dX12_place_118 rfl ?_
    exact z_iret hx hb hr hlocks hI (⟨rfl, by unfold zpl; rw [if_neg (by rw [q1_119]; decide), if_neg (by rw [q1_119]; decide), if_neg (by rw [q1_119]; decide), if_neg (by rw [q1_119]; decide), if_neg (by rw [q1_119]; decide), if_pos q1_119]⟩) dX12_place_119
  refine lv_tableOut (tgt := 123) hx hb dX12_place_1 (by have := lv_neT (a := 97) q1_97 rfl; have := lv_neT (a := 98) q1_98 rfl; have := lv_neT (a := 99) q1_99 rfl; have := lv_neT (a := 100) q1_100 rfl; have := lv_neT (a := 101) q1_101 rfl; have := lv_neT (a := 102) q1_102 rfl; have := lv_neT (a := 103) q1_103 rfl; have := lv_neT (a := 104) q1_104 rfl; have := lv_neT (a := 105) q1_105 rfl; have := lv_neT (a := 106) q1_106 rfl; have := lv_neT (a := 107) q1_107 rfl; have := lv_neT (a := 108) q1_108 rfl; have := lv_neT (a := 109) q1_109 rfl; have := lv_neT (a := 110) q1_110 rfl; have := lv_neT (a := 111) q1_111 rfl; have := lv_neT (a := 112) q1_112 rfl; have := lv_neT (a := 113) q1_113 rfl; have := lv_neT (a := 114) q1_114 rfl; have := lv_neT (a := 115) q1_115 rfl; have := lv_neT (a := 116) q1_116 rfl; have := lv_neT (a := 117) q1_117 rfl; have := lv_neT (a := 118) q1_118 rfl; have := lv_neT (a := 119) q1_119 rfl; omega) (by decide) ?_
  refine lv_iconst (v := (-1)) hx hb dX12_place_123 rfl ?_
  exact z_iret hx hb hr hlocks hI (⟨rfl, by unfold zpl; rw [if_neg q1_97, if_neg q1_98, if_neg q1_107, if_neg q1_106, if_neg q1_116, if_neg q1_119, if_neg q1_114]⟩) dX12_place_124
set_option maxHeartbeats 1000000 in
set_option maxRecDepth 100000 in
theorem c_X12_whole (l : Launch) {G : zG} (hG : zOK G) (x : zX) (p1 s1 n1 : Nat) (o1 d1 : Int32) (w4 w5 : Nat → Int32) (hn9 : n1 ≤ 101) (hs9 : s1 + n1 ≤ 600) : zMv l yX12_whole wsX12_whole { frames := 1, cells := 0, slots := 0, locals := 21 } G [.ref (za G 77)] (zrr x p1 s1 n1 o1 d1 w4 w5) (fun (u : zX) => zrr x p1 (zwl w5 n1 s1 o1 w4).1 (zwl w5 n1 s1 o1 w4).2.1 (zwl w5 n1 s1 o1 w4).2.2.1 d1 (zwl w5 n1 s1 o1 w4).2.2.2 w5 = u) := by
  intro A
  refine zBody (cc := cX12_whole) (maxL := 1) (ret := none) (by decide) rfl (Nat.le_of_ble_eq_true rfl) ?_
  intro p e s m below meth c hx hb hml hown hts hr hlocks hK hN hI ls hl
  have hown : s.vm.findClass RX12 = some m.cls := hown
  have hl : lv_has ls 1 [(0, .ref (za G 77))] := hl
  have hin12 : ∀ w ∈ wsX120, w ∈ wsX12_whole := (fun _ h => List.mem_cons_of_mem _ (List.mem_append_right _ (h)))
  have wF90 := hts (.fieldLink RX12 90 "WhoSitsByModel" "waiting" "I") (z_mem 1 rfl)
  have wF84 := hts (.fieldLink RX12 84 "WhoSitsByModel" "waits" "[I") (z_mem 2 rfl)
  have wF93 := hts (.fieldLink RX12 93 "WhoSitsByModel" "open" "I") (z_mem 3 rfl)
  have L0 : ∀ (f : Nat) (s2 : Nat) (n2 : Nat) (o2 : Int32) (v4 : Nat → Int32), (n2 ≤ 101) → (s2 + n2 ≤ 600) → (zwl w5 n2 s2 o2 v4 = (zwl w5 n1 s1 o1 w4)) → n2 + 1 ≤ f → ∀ (H : Heap) (locs : List Loc), zI G (zrr x p1 s2 n2 o2 d1 v4 w5) A s.heap H locs → ∀ ls : Array Slot, lv_has ls 1 [(0, .ref (za G 77))] → W p l e { frames := 1, cells := 0, slots := 0, locals := 21 } s m ([.ref (za G 77)] : List Value).toArray below meth c H locs 0 0 (MQ below (va_Qv (fun (u : zX) => zrr x p1 (zwl w5 n1 s1 o1 w4).1 (zwl w5 n1 s1 o1 w4).2.1 (zwl w5 n1 s1 o1 w4).2.2.1 d1 (zwl w5 n1 s1 o1 w4).2.2.2 w5 = u) (fun u t => zJ G u A t.heap) A) ([.ref (za G 77)] : List Value).toArray s 0 0 A) (F0 m 0 ls []) := by
    intro f
    induction f with
    | zero =>
      intro s2 n2 o2 v4 h1 h2 h3 hf
      exact absurd hf (by omega)
    | succ f ih =>
      intro s2 n2 o2 v4 h1 h2 h3 hf H locs hI ls hl
      have ih0 := ih
      refine lv_aload_n hx hb dX12_whole_0 rfl (lv_at hl 0 rfl) ?_
      refine z_get (C := RX12) (T := TX12) (N := 51) (ci := 12) (v := .int (nI n2)) hx hb hts hin12 hown hK hI (zo77 hG) rfl 26 (by decide) wF90 (fun _ h9 => h9) rfl dX12_whole_1 ?_
      refine lv_if_le (tgt := 52) hx hb dX12_whole_4 (by decide) (fun c_4 => ?_) (fun c_4 => ?_)
      · skip
        rw [show (0 : Int32) = nI 0 from rfl] at c_4; rw [zqG (by omega) (by omega)] at c_4
        exact z_vret hx hb hr hlocks hI (by rw [← h3, show n2 = 0 by omega]; rfl) dX12_whole_52
      · skip
        rw [show (0 : Int32) = nI 0 from rfl] at c_4; rw [zqG (by omega) (by omega)] at c_4
        obtain ⟨m2, rfl⟩ : ∃ m9, n2 = m9 + 1 := ⟨n2 - 1, by omega⟩
        refine lv_aload_n hx hb dX12_whole_7 rfl (lv_at hl 0 rfl) ?_
        refine z_get (C := RX12) (T := TX12) (N := 51) (ci := 12) (v := .ref (za G 95)) hx hb hts hin12 hown hK hI (zo77 hG) rfl 24 (by decide) wF84 (fun _ h9 => h9) rfl dX12_whole_8 ?_
        refine lv_aload_n hx hb dX12_whole_11 rfl (lv_at hl 0 rfl) ?_
        refine z_get (C := RX12) (T := TX12) (N := 51) (ci := 12) (v := .int (nI (m2 + 1))) hx hb hts hin12 hown hK hI (zo77 hG) rfl 26 (by decide) wF90 (fun _ h9 => h9) rfl dX12_whole_12 ?_
        refine lv_iconst (v := (nI 1)) hx hb dX12_whole_15 rfl ?_
        refine z_isub (v := (nI m2)) hx hb (z_sub1 (t := (m2 + 1)) (by omega)) dX12_whole_16 ?_
        refine z_iald (v := (w5 m2)) hx hb hK hI (zo95 hG) m2 rfl (by omega) (by decide) rfl dX12_whole_17 ?_
        refine lv_bipush (v := (nI 33)) hx hb dX12_whole_18 rfl ?_
        refine lv_icmp_ne (tgt := 52) hx hb dX12_whole_20 (by decide) (fun c_20 => ?_) (fun c_20 => ?_)
        · skip
          exact z_vret hx hb hr hlocks hI (by rw [← h3, zwl, if_neg c_20]) dX12_whole_52
        · skip
          refine lv_aload_n hx hb dX12_whole_23 rfl (lv_at hl 0 rfl) ?_
          refine lv_bipush (v := (-33)) hx hb dX12_whole_24 rfl ?_
          refine z_callv (va_runV (As := [.int (-33)]) (rest := []) ⟨hx, hb, hml, hown, hts⟩ ((c_X12_putR l hG x p1 s2 (m2 + 1) o2 d1 v4 w5 (-33) (by omega)) A) (cwV 1 hts gX12_whole_X12_put rfl rfl rfl (by decide +kernel) ⟨Nat.le_of_ble_eq_true rfl, Nat.le_of_ble_eq_true rfl⟩) (z_pV hI hK hN (z_recv hK hI (zo77 hG) rfl)) rfl rfl hl.1 rfl (lv_room (Nat.le_of_ble_eq_true rfl)) dX12_whole_26 ⟨Nat.zero_le _, Nat.zero_le _⟩) hI (fun u H locs hw hI => ?_)
          obtain rfl := hw
          refine lv_aload_n hx hb dX12_whole_29 rfl (lv_at hl 0 rfl) ?_
          refine lv_dup hx hb dX12_whole_30 rfl ?_
          refine z_get (C := RX12) (T := TX12) (N := 51) (ci := 12) (v := .int (nI (m2 + 1))) hx hb hts hin12 hown hK hI (zo77 hG) rfl 26 (by decide) wF90 (fun _ h9 => h9) rfl dX12_whole_31 ?_
          refine lv_iconst (v := (nI 1)) hx hb dX12_whole_34 rfl ?_
          refine z_isub (v := (nI m2)) hx hb (z_sub1 (t := (m2 + 1)) (by omega)) dX12_whole_35 ?_
          refine z_putI (C := RX12) (T := TX12) (N := 51) (ci := 12) (ty := .int) hx hb hts hin12 tyX12 tyX12_ok nmX12 hown hK hI (zo77 hG) rfl 26 (by decide) wF90 (fun _ h9 => h9) rfl (fun _ _ => rfl) (by decide +kernel) rfl rfl (fun _ _ => Nat.le_of_ble_eq_true rfl) dX12_whole_36 (fun H locs hI => ?_)
          rw [zrr_26] at hI
          refine lv_aload_n hx hb dX12_whole_39 rfl (lv_at hl 0 rfl) ?_
          refine lv_dup hx hb dX12_whole_40 rfl ?_
          refine z_get (C := RX12) (T := TX12) (N := 51) (ci := 12) (v := .int o2) hx hb hts hin12 hown hK hI (zo77 hG) rfl 27 (by decide) wF93 (fun _ h9 => h9) rfl dX12_whole_41 ?_
          refine lv_iconst (v := (nI 1)) hx hb dX12_whole_44 rfl ?_
          refine lv_isub hx hb dX12_whole_45 ?_
          refine z_putI (C := RX12) (T := TX12) (N := 51) (ci := 12) (ty := .int) hx hb hts hin12 tyX12 tyX12_ok nmX12 hown hK hI (zo77 hG) rfl 27 (by decide) wF93 (fun _ h9 => h9) rfl (fun _ _ => rfl) (by decide +kernel) rfl rfl (fun _ _ => Nat.le_of_ble_eq_true rfl) dX12_whole_46 (fun H locs hI => ?_)
          rw [zrr_27] at hI
          refine lv_goto (tgt := 0) hx hb dX12_whole_49 (by decide) ?_
          exact ih0 (s2 + 1) m2 (o2 - (nI 1)) (upd v4 s2 (-33)) (by omega) (by omega) (by rw [← h3, zwl, if_pos c_20]) (by omega) _ _ hI ls (lv_sub hl [0] rfl)
  exact L0 (n1 + 1) s1 n1 o1 w4 (by omega) (by omega) rfl (by omega) _ _ hI ls (lv_sub hl [0] rfl)
set_option maxHeartbeats 1000000 in
set_option maxRecDepth 100000 in
theorem c_X12_settle (l : Launch) {G : zG} (hG : zOK G) (x : zX) (p1 s1 n1 : Nat) (o1 d1 : Int32) (w4 w5 : Nat → Int32) (g : Int32) (hn9 : n1 ≤ 101) (hs9 : s1 + n1 ≤ 600) : zMv l yX12_settle wsX12_settle { frames := 1, cells := 0, slots := 0, locals := 21 } G [.ref (za G 77), .int g] (zrr x p1 s1 n1 o1 d1 w4 w5) (fun (u : zX) => zrr x p1 (zsl w5 g n1 s1 w4).1 (zsl w5 g n1 s1 w4).2.1 o1 d1 (zsl w5 g n1 s1 w4).2.2 w5 = u) := by
  intro A
  refine zBody (cc := cX12_settle) (maxL := 2) (ret := none) (by decide) rfl (Nat.le_of_ble_eq_true rfl) ?_
  intro p e s m below meth c hx hb hml hown hts hr hlocks hK hN hI ls hl
  have hown : s.vm.findClass RX12 = some m.cls := hown
  have hl : lv_has ls 2 [(0, .ref (za G 77)), (1, .int g)] := hl
  have hin12 : ∀ w ∈ wsX120, w ∈ wsX12_settle := (fun _ h => List.mem_cons_of_mem _ (List.mem_append_right _ (h)))
  have wF90 := hts (.fieldLink RX12 90 "WhoSitsByModel" "waiting" "I") (z_mem 1 rfl)
  have wF84 := hts (.fieldLink RX12 84 "WhoSitsByModel" "waits" "[I") (z_mem 2 rfl)
  have L0 : ∀ (f : Nat) (s2 : Nat) (n2 : Nat) (v4 : Nat → Int32), (n2 ≤ 101) → (s2 + n2 ≤ 600) → (zsl w5 g n2 s2 v4 = (zsl w5 g n1 s1 w4)) → n2 + 1 ≤ f → ∀ (H : Heap) (locs : List Loc), zI G (zrr x p1 s2 n2 o1 d1 v4 w5) A s.heap H locs → ∀ ls : Array Slot, lv_has ls 2 [(0, .ref (za G 77)), (1, .int g)] → W p l e { frames := 1, cells := 0, slots := 0, locals := 21 } s m ([.ref (za G 77), .int g] : List Value).toArray below meth c H locs 0 0 (MQ below (va_Qv (fun (u : zX) => zrr x p1 (zsl w5 g n1 s1 w4).1 (zsl w5 g n1 s1 w4).2.1 o1 d1 (zsl w5 g n1 s1 w4).2.2 w5 = u) (fun u t => zJ G u A t.heap) A) ([.ref (za G 77), .int g] : List Value).toArray s 0 0 A) (F0 m 0 ls []) := by
    intro f
    induction f with
    | zero =>
      intro s2 n2 v4 h1 h2 h3 hf
      exact absurd hf (by omega)
    | succ f ih =>
      intro s2 n2 v4 h1 h2 h3 hf H locs hI ls hl
      have ih0 := ih
      refine lv_aload_n hx hb dX12_settle_0 rfl (lv_at hl 0 rfl) ?_
      refine z_get (C := RX12) (T := TX12) (N := 51) (ci := 12) (v := .int (nI n2)) hx hb hts hin12 hown hK hI (zo77 hG) rfl 26 (by decide) wF90 (fun _ h9 => h9) rfl dX12_settle_1 ?_
      refine lv_if_le (tgt := 72) hx hb dX12_settle_4 (by decide) (fun c_4 => ?_) (fun c_4 => ?_)
      · skip
        rw [show (0 : Int32) = nI 0 from rfl] at c_4; rw [zqG (by omega) (by omega)] at c_4
        exact z_vret hx hb hr hlocks hI (by rw [← h3, show n2 = 0 by omega]; rfl) dX12_settle_72
      · skip
        rw [show (0 : Int32) = nI 0 from rfl] at c_4; rw [zqG (by omega) (by omega)] at c_4
        obtain ⟨m2, rfl⟩ : ∃ m9, n2 = m9 + 1 := ⟨n2 - 1, by omega⟩
        refine lv_aload_n hx hb dX12_settle_7 rfl (lv_at hl 0 rfl) ?_
        refine z_get (C := RX12) (T := TX12) (N := 51) (ci := 12) (v := .ref (za G 95)) hx hb hts hin12 hown hK hI (zo77 hG) rfl 24 (by decide) wF84 (fun _ h9 => h9) rfl dX12_settle_8 ?_
        refine lv_aload_n hx hb dX12_settle_11 rfl (lv_at hl 0 rfl) ?_
        refine z_get (C := RX12) (T := TX12) (N := 51) (ci := 12) (v := .int (nI (m2 + 1))) hx hb hts hin12 hown hK hI (zo77 hG) rfl 26 (by decide) wF90 (fun _ h9 => h9) rfl dX12_settle_12 ?_
        refine lv_iconst (v := (nI 1)) hx hb dX12_settle_15 rfl ?_
        refine z_isub (v := (nI m2)) hx hb (z_sub1 (t := (m2 + 1)) (by omega)) dX12_settle_16 ?_
        refine z_iald (v := (w5 m2)) hx hb hK hI (zo95 hG) m2 rfl (by omega) (by decide) rfl dX12_settle_17 ?_
        refine lv_bipush (v := (nI 38)) hx hb dX12_settle_18 rfl ?_
        refine lv_icmp_eq (tgt := 45) hx hb dX12_settle_20 (by decide) (fun c_20 => ?_) (fun c_20 => ?_)
        · skip
          refine lv_aload_n hx hb dX12_settle_45 rfl (lv_at hl 0 rfl) ?_
          refine lv_dup hx hb dX12_settle_46 rfl ?_
          refine z_get (C := RX12) (T := TX12) (N := 51) (ci := 12) (v := .int (nI (m2 + 1))) hx hb hts hin12 hown hK hI (zo77 hG) rfl 26 (by decide) wF90 (fun _ h9 => h9) rfl dX12_settle_47 ?_
          refine lv_iconst (v := (nI 1)) hx hb dX12_settle_50 rfl ?_
          refine z_isub (v := (nI m2)) hx hb (z_sub1 (t := (m2 + 1)) (by omega)) dX12_settle_51 ?_
          refine z_putI (C := RX12) (T := TX12) (N := 51) (ci := 12) (ty := .int) hx hb hts hin12 tyX12 tyX12_ok nmX12 hown hK hI (zo77 hG) rfl 26 (by decide) wF90 (fun _ h9 => h9) rfl (fun _ _ => rfl) (by decide +kernel) rfl rfl (fun _ _ => Nat.le_of_ble_eq_true rfl) dX12_settle_52 (fun H locs hI => ?_)
          rw [zrr_26] at hI
          refine lv_aload_n hx hb dX12_settle_55 rfl (lv_at hl 0 rfl) ?_
          refine lv_aload_n hx hb dX12_settle_56 rfl (lv_at hl 0 rfl) ?_
          refine z_get (C := RX12) (T := TX12) (N := 51) (ci := 12) (v := .ref (za G 95)) hx hb hts hin12 hown hK hI (zo77 hG) rfl 24 (by decide) wF84 (fun _ h9 => h9) rfl dX12_settle_57 ?_
          refine lv_aload_n hx hb dX12_settle_60 rfl (lv_at hl 0 rfl) ?_
          refine z_get (C := RX12) (T := TX12) (N := 51) (ci := 12) (v := .int (nI m2)) hx hb hts hin12 hown hK hI (zo77 hG) rfl 26 (by decide) wF90 (fun _ h9 => h9) rfl dX12_settle_61 ?_
          refine z_iald (v := (w5 m2)) hx hb hK hI (zo95 hG) m2 rfl (by omega) (by decide) rfl dX12_settle_64 ?_
          refine lv_ineg hx hb dX12_settle_65 ?_
          refine z_callv (va_runV (As := [.int (-(w5 m2))]) (rest := []) ⟨hx, hb, hml, hown, hts⟩ ((c_X12_putR l hG x p1 s2 m2 o1 d1 v4 w5 (-(w5 m2)) (by omega)) A) (cwV 1 hts gX12_settle_X12_put rfl rfl rfl (by decide +kernel) ⟨Nat.le_of_ble_eq_true rfl, Nat.le_of_ble_eq_true rfl⟩) (z_pV hI hK hN (z_recv hK hI (zo77 hG) rfl)) rfl rfl hl.1 rfl (lv_room (Nat.le_of_ble_eq_true rfl)) dX12_settle_66 ⟨Nat.zero_le _, Nat.zero_le _⟩) hI (fun u H locs hw hI => ?_)
          obtain rfl := hw
          refine lv_goto (tgt := 0) hx hb dX12_settle_69 (by decide) ?_
          exact ih0 (s2 + 1) m2 (upd v4 s2 (-(w5 m2))) (by omega) (by omega) (by rw [← h3, zsl, if_pos (Or.inl c_20)]) (by omega) _ _ hI ls (lv_sub hl [0, 1] rfl)
        · skip
          refine lv_aload_n hx hb dX12_settle_23 rfl (lv_at hl 0 rfl) ?_
          refine z_get (C := RX12) (T := TX12) (N := 51) (ci := 12) (v := .ref (za G 95)) hx hb hts hin12 hown hK hI (zo77 hG) rfl 24 (by decide) wF84 (fun _ h9 => h9) rfl dX12_settle_24 ?_
          refine lv_aload_n hx hb dX12_settle_27 rfl (lv_at hl 0 rfl) ?_
          refine z_get (C := RX12) (T := TX12) (N := 51) (ci := 12) (v := .int (nI (m2 + 1))) hx hb hts hin12 hown hK hI (zo77 hG) rfl 26 (by decide) wF90 (fun _ h9 => h9) rfl dX12_settle_28 ?_
          refine lv_iconst (v := (nI 1)) hx hb dX12_settle_31 rfl ?_
          refine z_isub (v := (nI m2)) hx hb (z_sub1 (t := (m2 + 1)) (by omega)) dX12_settle_32 ?_
          refine z_iald (v := (w5 m2)) hx hb hK hI (zo95 hG) m2 rfl (by omega) (by decide) rfl dX12_settle_33 ?_
          refine lv_bipush (v := (nI 124)) hx hb dX12_settle_34 rfl ?_
          refine lv_icmp_ne (tgt := 72) hx hb dX12_settle_36 (by decide) (fun c_36 => ?_) (fun c_36 => ?_)
          · skip
            exact z_vret hx hb hr hlocks hI (by rw [← h3, zsl, if_neg (fun h9 => h9.elim c_20 (fun h9 => c_36 h9.1))]) dX12_settle_72
          · skip
            refine lv_iload_n hx hb dX12_settle_39 rfl (lv_at hl 1 rfl) ?_
            refine lv_bipush (v := (nI 38)) hx hb dX12_settle_40 rfl ?_
            refine lv_icmp_eq (tgt := 72) hx hb dX12_settle_42 (by decide) (fun c_42 => ?_) (fun c_42 => ?_)
            · skip
              exact z_vret hx hb hr hlocks hI (by rw [← h3, zsl, if_neg (fun h9 => h9.elim c_20 (fun h9 => h9.2 c_42))]) dX12_settle_72
            · skip
              refine lv_aload_n hx hb dX12_settle_45 rfl (lv_at hl 0 rfl) ?_
              refine lv_dup hx hb dX12_settle_46 rfl ?_
              refine z_get (C := RX12) (T := TX12) (N := 51) (ci := 12) (v := .int (nI (m2 + 1))) hx hb hts hin12 hown hK hI (zo77 hG) rfl 26 (by decide) wF90 (fun _ h9 => h9) rfl dX12_settle_47 ?_
              refine lv_iconst (v := (nI 1)) hx hb dX12_settle_50 rfl ?_
              refine z_isub (v := (nI m2)) hx hb (z_sub1 (t := (m2 + 1)) (by omega)) dX12_settle_51 ?_
              refine z_putI (C := RX12) (T := TX12) (N := 51) (ci := 12) (ty := .int) hx hb hts hin12 tyX12 tyX12_ok nmX12 hown hK hI (zo77 hG) rfl 26 (by decide) wF90 (fun _ h9 => h9) rfl (fun _ _ => rfl) (by decide +kernel) rfl rfl (fun _ _ => Nat.le_of_ble_eq_true rfl) dX12_settle_52 (fun H locs hI => ?_)
              rw [zrr_26] at hI
              refine lv_aload_n hx hb dX12_settle_55 rfl (lv_at hl 0 rfl) ?_
              refine lv_aload_n hx hb dX12_settle_56 rfl (lv_at hl 0 rfl) ?_
              refine z_get (C := RX12) (T := TX12) (N := 51) (ci := 12) (v := .ref (za G 95)) hx hb hts hin12 hown hK hI (zo77 hG) rfl 24 (by decide) wF84 (fun _ h9 => h9) rfl dX12_settle_57 ?_
              refine lv_aload_n hx hb dX12_settle_60 rfl (lv_at hl 0 rfl) ?_
              refine z_get (C := RX12) (T := TX12) (N := 51) (ci := 12) (v := .int (nI m2)) hx hb hts hin12 hown hK hI (zo77 hG) rfl 26 (by decide) wF90 (fun _ h9 => h9) rfl dX12_settle_61 ?_
              refine z_iald (v := (w5 m2)) hx hb hK hI (zo95 hG) m2 rfl (by omega) (by decide) rfl dX12_settle_64 ?_
              refine lv_ineg hx hb dX12_settle_65 ?_
              refine z_callv (va_runV (As := [.int (-(w5 m2))]) (rest := []) ⟨hx, hb, hml, hown, hts⟩ ((c_X12_putR l hG x p1 s2 m2 o1 d1 v4 w5 (-(w5 m2)) (by omega)) A) (cwV 1 hts gX12_settle_X12_put rfl rfl rfl (by decide +kernel) ⟨Nat.le_of_ble_eq_true rfl, Nat.le_of_ble_eq_true rfl⟩) (z_pV hI hK hN (z_recv hK hI (zo77 hG) rfl)) rfl rfl hl.1 rfl (lv_room (Nat.le_of_ble_eq_true rfl)) dX12_settle_66 ⟨Nat.zero_le _, Nat.zero_le _⟩) hI (fun u H locs hw hI => ?_)
              obtain rfl := hw
              refine lv_goto (tgt := 0) hx hb dX12_settle_69 (by decide) ?_
              exact ih0 (s2 + 1) m2 (upd v4 s2 (-(w5 m2))) (by omega) (by omega) (by rw [← h3, zsl, if_pos (Or.inr ⟨c_36, c_42⟩)]) (by omega) _ _ hI ls (lv_sub hl [0, 1] rfl)
  exact L0 (n1 + 1) s1 n1 w4 (by omega) (by omega) rfl (by omega) _ _ hI ls (lv_sub hl [0, 1] rfl)
