/-! A PAIR, once more: the tables stay as they were -/
def zQ6x (b : Nat) (x u : zX) : Prop := zQ6 b x u ∧ ∀ i, 12 ≤ i → i ≤ 14 → u.1 i = x.1 i
theorem zQ6x.l {b p q : Nat} {row : Int32} {x : zX} (hb : zRm b) : zQ6x b x (zlook x b p q row) := ⟨zQ6.l, fun i h1 h2 => zlook_n (by have := zRm_b hb; omega)⟩
theorem zQ6x_b {x u : zX} (e12 : u.1 12 = x.1 12) (e13 : u.1 13 = x.1 13) (e14 : u.1 14 = x.1 14) : ∀ i, 12 ≤ i → i ≤ 14 → u.1 i = x.1 i := fun i h1 h2 => by
  rcases (show i = 12 ∨ i = 13 ∨ i = 14 by omega) with rfl | rfl | rfl
  · exact e12
  · exact e13
  · exact e14
set_option maxHeartbeats 1000000 in
set_option maxRecDepth 100000 in
theorem c_X11_pairT (l : Launch) {G : zG} (hG : zOK G) (x : zX) (N b C : Nat) (pa pb rw9 wh : Int32) (hn : zNow G x N) (hbz : zrix (x.1 1 6) = b) (hro : zRo x b C) (hsit : zSit x N) : zMi l yX11_pair wsX11_pair { frames := 4, cells := 0, slots := 0, locals := 113 } G [.ref (za G 0), .int pa, .int pb, .int rw9, .int wh] x (fun (r : Int32) (u : zX) => (¬ (zin N pa ∧ zin N pb ∧ (¬ rw9 < 0 ∧ ¬ nI 1 < rw9) ∧ ¬ wh < 0 ∧ wh ≤ nI 3) ∧ x = u ∧ -100001 = r) ∨ ((zin N pa ∧ zin N pb ∧ (¬ rw9 < 0 ∧ ¬ nI 1 < rw9) ∧ ¬ wh < 0 ∧ wh ≤ nI 3) ∧ pa = pb ∧ x = u ∧ -100002 = r) ∨ (∃ ka kb, ka < N ∧ kb < N ∧ ¬ ka = kb ∧ pa = nI ka ∧ pb = nI kb ∧ (¬ rw9 < 0 ∧ ¬ nI 1 < rw9) ∧ (¬ wh < 0 ∧ wh ≤ nI 3) ∧ zQ6x b x u ∧ (if wh = nI 0 then zsm (zlook x b ka kb rw9) b (nI 0) C else if wh = nI 1 then zsm (zlook x b ka kb rw9) b (nI 1) C else if wh = nI 2 then (if zVb x b C ka kb rw9 then nI 1 else nI 0) else zVw G x N b C ka kb rw9 - (if zk G (zob x ka) = 0 then x.1 (zob x ka) 1 else nI 0) * zacr x ka) = r)) := by
  intro A
  refine zBody (cc := cX11_pair) (maxL := 8) (ret := (some .int)) (by decide) rfl (Nat.le_of_ble_eq_true rfl) ?_
  intro p e s m below meth c hx hb hml hown hts hr hlocks hK hN hI ls hl
  have hown : s.vm.findClass RX11 = some m.cls := hown
  have hl : lv_has ls 8 [(0, .ref (za G 0)), (1, .int pa), (2, .int pb), (3, .int rw9), (4, .int wh)] := hl
  have hin7 : ∀ w ∈ wsX70, w ∈ wsX11_pair := (fun _ h => List.mem_cons_of_mem _ (List.mem_append_left _ (List.mem_append_left _ (List.mem_append_left _ (List.mem_append_left _ (List.mem_append_left _ (List.mem_append_left _ (List.mem_append_left _ (List.mem_append_left _ (List.mem_append_right _ (h)))))))))))
  have hin11 : ∀ w ∈ wsX110, w ∈ wsX11_pair := (fun _ h => List.mem_cons_of_mem _ (List.mem_append_left _ (List.mem_append_left _ (List.mem_append_left _ (List.mem_append_left _ (List.mem_append_left _ (List.mem_append_left _ (List.mem_append_left _ (List.mem_append_left _ (List.mem_append_left _ (List.mem_append_right _ (h))))))))))))
  have wF12 := hts (.fieldLink RX11 12 "WhoSitsBy" "now" "LWhoSitsBy$Standing;") (z_mem 1 rfl)
  have wK153 := hts (.constant RX11 153 (-100001)) (z_mem 2 rfl)
  have wF150 := hts (.fieldLink RX11 150 "WhoSitsBy$Standing" "held" "I") (z_mem 4 rfl)
  have wK154 := hts (.constant RX11 154 (-100002)) (z_mem 3 rfl)
  have hb0 : zRm b := hbz ▸ zrix_ok _
  have h8 := hn.1
  have hrb := zRm_b hb0
  refine lv_aload_n hx hb dX11_pair_0 rfl (lv_at hl 0 rfl) ?_
  refine z_get (C := RX11) (T := TX11) (N := 14) (ci := 11) (v := .ref (za G 1)) hx hb hts hin11 hown hK hI (zo0 hG) rfl 0 (by decide) wF12 (fun _ h9 => h9) rfl dX11_pair_1 ?_
  refine lv_iload_n hx hb dX11_pair_4 rfl (lv_at hl 1 rfl) ?_
  refine z_callq (va_runV (As := [.int pa]) (rest := []) ⟨hx, hb, hml, hown, hts⟩ ((c_X7_at l hG x N pa hn) A) (cwV 1 hts gX11_pair_X7_at rfl rfl rfl (by decide +kernel) ⟨Nat.le_of_ble_eq_true rfl, Nat.le_of_ble_eq_true rfl⟩) (z_pV hI hK hN (z_recv hK hI (zo1 hG) rfl)) rfl rfl hl.1 rfl (lv_room (Nat.le_of_ble_eq_true rfl)) dX11_pair_5 ⟨Nat.zero_le _, Nat.zero_le _⟩) hI (fun r_5 u H locs hw hI => ?_)
  obtain ⟨rfl, rfl⟩ := hw
  rcases hq_5 : (zat x N pa) with _ | o_5
  · skip
    have hno : ¬ zin N pa := fun h => by rcases zat_no hn hq_5 with h1 | h1; exact h.1 h1; exact h.2 h1
    refine lv_astoreN (lv' := [(5, .null), (0, .ref (za G 0)), (1, .int pa), (2, .int pb), (3, .int rw9), (4, .int wh)]) hx hb dX11_pair_8 hl (by decide) rfl (fun ls hl => ?_)
    refine lv_aload_n hx hb dX11_pair_10 rfl (lv_at hl 1 rfl) ?_
    refine z_get (C := RX11) (T := TX11) (N := 14) (ci := 11) (v := .ref (za G 1)) hx hb hts hin11 hown hK hI (zo0 hG) rfl 0 (by decide) wF12 (fun _ h9 => h9) rfl dX11_pair_11 ?_
    refine lv_iload_n hx hb dX11_pair_14 rfl (lv_at hl 3 rfl) ?_
    refine z_callq (va_runV (As := [.int pb]) (rest := []) ⟨hx, hb, hml, hown, hts⟩ ((c_X7_at l hG x N pb hn) A) (cwV 1 hts gX11_pair_X7_at rfl rfl rfl (by decide +kernel) ⟨Nat.le_of_ble_eq_true rfl, Nat.le_of_ble_eq_true rfl⟩) (z_pV hI hK hN (z_recv hK hI (zo1 hG) rfl)) rfl rfl hl.1 rfl (lv_room (Nat.le_of_ble_eq_true rfl)) dX11_pair_15 ⟨Nat.zero_le _, Nat.zero_le _⟩) hI (fun r_15 u H locs hw hI => ?_)
    obtain ⟨rfl, rfl⟩ := hw
    rcases hq_15 : (zat x N pb) with _ | o_15
    · skip
      have hno2 : ¬ zin N pb := fun h => by rcases zat_no hn hq_15 with h1 | h1; exact h.1 h1; exact h.2 h1
      refine lv_astoreN (lv' := [(6, .null), (5, .null), (0, .ref (za G 0)), (1, .int pa), (2, .int pb), (3, .int rw9), (4, .int wh)]) hx hb dX11_pair_18 hl (by decide) rfl (fun ls hl => ?_)
      refine lv_aloadN hx hb dX11_pair_20 (lv_at hl 1 rfl) ?_
      refine lv_ifnullN (tgt := 50) hx hb dX11_pair_22 (by decide) ?_
      refine lv_ldc (v := (-100001)) hx hb hown wK153 dX11_pair_50 ?_
      exact z_iret hx hb hr hlocks hI (Or.inl ⟨fun h => hno h.1, rfl, rfl⟩) dX11_pair_52
    · skip
      obtain ⟨kb, hkb, rfl, rfl⟩ := zat_of hn hq_15
      refine lv_astore (lv' := [(6, .ref (za G (zob x kb))), (5, .null), (0, .ref (za G 0)), (1, .int pa), (2, .int (nI kb)), (3, .int rw9), (4, .int wh)]) hx hb dX11_pair_18 hl (by decide) rfl (fun ls hl => ?_)
      refine lv_aloadN hx hb dX11_pair_20 (lv_at hl 1 rfl) ?_
      refine lv_ifnullN (tgt := 50) hx hb dX11_pair_22 (by decide) ?_
      refine lv_ldc (v := (-100001)) hx hb hown wK153 dX11_pair_50 ?_
      exact z_iret hx hb hr hlocks hI (Or.inl ⟨fun h => hno h.1, rfl, rfl⟩) dX11_pair_52
  · skip
    obtain ⟨ka, hka, rfl, rfl⟩ := zat_of hn hq_5
    refine lv_astore (lv' := [(5, .ref (za G (zob x ka))), (0, .ref (za G 0)), (1, .int (nI ka)), (2, .int pb), (3, .int rw9), (4, .int wh)]) hx hb dX11_pair_8 hl (by decide) rfl (fun ls hl => ?_)
    refine lv_aload_n hx hb dX11_pair_10 rfl (lv_at hl 1 rfl) ?_
    refine z_get (C := RX11) (T := TX11) (N := 14) (ci := 11) (v := .ref (za G 1)) hx hb hts hin11 hown hK hI (zo0 hG) rfl 0 (by decide) wF12 (fun _ h9 => h9) rfl dX11_pair_11 ?_
    refine lv_iload_n hx hb dX11_pair_14 rfl (lv_at hl 3 rfl) ?_
    refine z_callq (va_runV (As := [.int pb]) (rest := []) ⟨hx, hb, hml, hown, hts⟩ ((c_X7_at l hG x N pb hn) A) (cwV 1 hts gX11_pair_X7_at rfl rfl rfl (by decide +kernel) ⟨Nat.le_of_ble_eq_true rfl, Nat.le_of_ble_eq_true rfl⟩) (z_pV hI hK hN (z_recv hK hI (zo1 hG) rfl)) rfl rfl hl.1 rfl (lv_room (Nat.le_of_ble_eq_true rfl)) dX11_pair_15 ⟨Nat.zero_le _, Nat.zero_le _⟩) hI (fun r_15 u H locs hw hI => ?_)
    obtain ⟨rfl, rfl⟩ := hw
    rcases hq_15 : (zat x N pb) with _ | o_15
    · skip
      have hno2 : ¬ zin N pb := fun h => by rcases zat_no hn hq_15 with h1 | h1; exact h.1 h1; exact h.2 h1
      refine lv_astoreN (lv' := [(6, .null), (5, .ref (za G (zob x ka))), (0, .ref (za G 0)), (1, .int (nI ka)), (2, .int pb), (3, .int rw9), (4, .int wh)]) hx hb dX11_pair_18 hl (by decide) rfl (fun ls hl => ?_)
      refine lv_aload hx hb dX11_pair_20 (lv_at hl 1 rfl) ?_
      refine lv_ifnull hx hb dX11_pair_22 ?_
      refine lv_aloadN hx hb dX11_pair_25 (lv_at hl 0 rfl) ?_
      refine lv_ifnullN (tgt := 50) hx hb dX11_pair_27 (by decide) ?_
      refine lv_ldc (v := (-100001)) hx hb hown wK153 dX11_pair_50 ?_
      exact z_iret hx hb hr hlocks hI (Or.inl ⟨fun h => hno2 h.2.1, rfl, rfl⟩) dX11_pair_52
    · skip
      obtain ⟨kb, hkb, rfl, rfl⟩ := zat_of hn hq_15
      refine lv_astore (lv' := [(6, .ref (za G (zob x kb))), (5, .ref (za G (zob x ka))), (0, .ref (za G 0)), (1, .int (nI ka)), (2, .int (nI kb)), (3, .int rw9), (4, .int wh)]) hx hb dX11_pair_18 hl (by decide) rfl (fun ls hl => ?_)
      refine lv_aload hx hb dX11_pair_20 (lv_at hl 1 rfl) ?_
      refine lv_ifnull hx hb dX11_pair_22 ?_
      refine lv_aload hx hb dX11_pair_25 (lv_at hl 0 rfl) ?_
      refine lv_ifnull hx hb dX11_pair_27 ?_
      refine lv_iload_n hx hb dX11_pair_30 rfl (lv_at hl 5 rfl) ?_
      refine lv_if_lt (tgt := 50) hx hb dX11_pair_31 (by decide) (fun c_31 => ?_) (fun c_31 => ?_)
      · skip
        refine lv_ldc (v := (-100001)) hx hb hown wK153 dX11_pair_50 ?_
        exact z_iret hx hb hr hlocks hI (Or.inl ⟨fun h => h.2.2.1.1 c_31, rfl, rfl⟩) dX11_pair_52
      · skip
        refine lv_iload_n hx hb dX11_pair_34 rfl (lv_at hl 5 rfl) ?_
        refine lv_iconst (v := (nI 1)) hx hb dX11_pair_35 rfl ?_
        refine lv_icmp_gt (tgt := 50) hx hb dX11_pair_36 (by decide) (fun c_36 => ?_) (fun c_36 => ?_)
        · skip
          refine lv_ldc (v := (-100001)) hx hb hown wK153 dX11_pair_50 ?_
          exact z_iret hx hb hr hlocks hI (Or.inl ⟨fun h => h.2.2.1.2 c_36, rfl, rfl⟩) dX11_pair_52
        · skip
          refine lv_iload hx hb dX11_pair_39 (lv_at hl 6 rfl) ?_
          refine lv_if_lt (tgt := 50) hx hb dX11_pair_41 (by decide) (fun c_41 => ?_) (fun c_41 => ?_)
          · skip
            refine lv_ldc (v := (-100001)) hx hb hown wK153 dX11_pair_50 ?_
            exact z_iret hx hb hr hlocks hI (Or.inl ⟨fun h => h.2.2.2.1 c_41, rfl, rfl⟩) dX11_pair_52
          · skip
            refine lv_iload hx hb dX11_pair_44 (lv_at hl 6 rfl) ?_
            refine lv_iconst (v := (nI 3)) hx hb dX11_pair_46 rfl ?_
            refine lv_icmp_le (tgt := 53) hx hb dX11_pair_47 (by decide) (fun c_47 => ?_) (fun c_47 => ?_)
            · skip
              refine lv_iload_n hx hb dX11_pair_53 rfl (lv_at hl 3 rfl) ?_
              refine lv_iload_n hx hb dX11_pair_54 rfl (lv_at hl 4 rfl) ?_
              refine lv_icmp_ne (tgt := 61) hx hb dX11_pair_55 (by decide) (fun c_55 => ?_) (fun c_55 => ?_)
              · skip
                rw [zqE (by omega) (by omega)] at c_55
                refine lv_aload_n hx hb dX11_pair_61 rfl (lv_at hl 2 rfl) ?_
                refine lv_aload_n hx hb dX11_pair_62 rfl (lv_at hl 2 rfl) ?_
                refine z_get (C := RX11) (T := TX11) (N := 14) (ci := 11) (v := .ref (za G 1)) hx hb hts hin11 hown hK hI (zo0 hG) rfl 0 (by decide) wF12 (fun _ h9 => h9) rfl dX11_pair_63 ?_
                refine z_get (C := RX7) (T := TX7) (N := 7) (ci := 7) (v := .int (x.1 1 6)) hx hb hts hin7 hown hK hI (zo1 hG) rfl 6 (by decide) wF150 (fun _ h9 => h9) rfl dX11_pair_66 ?_
                refine z_callq (va_runV (As := [.int (x.1 1 6)]) (rest := []) ⟨hx, hb, hml, hown, hts⟩ ((c_X11_roomAt l hG x (x.1 1 6)) A) (cwV 1 hts gX11_pair_X11_roomAt rfl rfl rfl (by decide +kernel) ⟨Nat.le_of_ble_eq_true rfl, Nat.le_of_ble_eq_true rfl⟩) (z_pV hI hK hN (z_recv hK hI (zo0 hG) rfl)) rfl rfl hl.1 rfl (lv_room (Nat.le_of_ble_eq_true rfl)) dX11_pair_69 ⟨Nat.zero_le _, Nat.zero_le _⟩) hI (fun r_69 u H locs hw hI => ?_)
                obtain ⟨rfl, rfl⟩ := hw
                rw [hbz]
                refine lv_astore (lv' := [(7, .ref (za G b)), (6, .ref (za G (zob x kb))), (5, .ref (za G (zob x ka))), (0, .ref (za G 0)), (1, .int (nI ka)), (2, .int (nI kb)), (3, .int rw9), (4, .int wh)]) hx hb dX11_pair_72 hl (by decide) rfl (fun ls hl => ?_)
                refine lv_iload hx hb dX11_pair_74 (lv_at hl 7 rfl) ?_
                by_cases q76_0 : wh = (nI 0)
                · skip
                  refine lv_tableIn (off := 28) (tgt := 104) hx hb dX11_pair_76 (by rw [q76_0]; decide) (by rw [q76_0]; decide) (by rw [q76_0]; rfl) (by decide) ?_
                  refine lv_aload hx hb dX11_pair_104 (lv_at hl 0 rfl) ?_
                  refine lv_aload hx hb dX11_pair_106 (lv_at hl 2 rfl) ?_
                  refine lv_aload hx hb dX11_pair_108 (lv_at hl 1 rfl) ?_
                  refine lv_iload_n hx hb dX11_pair_110 rfl (lv_at hl 6 rfl) ?_
                  refine lv_aload_n hx hb dX11_pair_111 rfl (lv_at hl 3 rfl) ?_
                  refine z_get (C := RX11) (T := TX11) (N := 14) (ci := 11) (v := .ref (za G 1)) hx hb hts hin11 hown hK hI (zo0 hG) rfl 0 (by decide) wF12 (fun _ h9 => h9) rfl dX11_pair_112 ?_
                  refine z_calli (va_runV (As := [.ref (za G (zob x ka)), .ref (za G (zob x kb)), .int rw9, .ref (za G 1)]) (rest := []) ⟨hx, hb, hml, hown, hts⟩ ((c_X5_learns l hG x N b ka kb C rw9 hn hb0 hka hkb hro) A) (cwV 4 hts gX11_pair_X5_learns rfl rfl rfl (by decide +kernel) ⟨Nat.le_of_ble_eq_true rfl, Nat.le_of_ble_eq_true rfl⟩) (z_pV hI hK hN (z_recv hK hI (zor hG hb0) rfl)) rfl rfl hl.1 rfl (lv_room (Nat.le_of_ble_eq_true rfl)) dX11_pair_115 ⟨Nat.zero_le _, Nat.zero_le _⟩) hI (fun r_115 u H locs hw hI => ?_)
                  obtain ⟨rfl, rfl⟩ := hw
                  exact z_iret hx hb hr hlocks hI (Or.inr (Or.inr ⟨ka, kb, hka, hkb, c_55, rfl, rfl, ⟨c_31, c_36⟩, ⟨c_41, c_47⟩, zQ6x.l hb0, if_pos q76_0⟩)) dX11_pair_118
                by_cases q76_1 : wh = (nI 1)
                · skip
                  refine lv_tableIn (off := 43) (tgt := 119) hx hb dX11_pair_76 (by rw [q76_1]; decide) (by rw [q76_1]; decide) (by rw [q76_1]; rfl) (by decide) ?_
                  refine lv_aload hx hb dX11_pair_119 (lv_at hl 0 rfl) ?_
                  refine lv_aload hx hb dX11_pair_121 (lv_at hl 2 rfl) ?_
                  refine lv_aload hx hb dX11_pair_123 (lv_at hl 1 rfl) ?_
                  refine lv_iload_n hx hb dX11_pair_125 rfl (lv_at hl 6 rfl) ?_
                  refine lv_aload_n hx hb dX11_pair_126 rfl (lv_at hl 3 rfl) ?_
                  refine z_get (C := RX11) (T := TX11) (N := 14) (ci := 11) (v := .ref (za G 1)) hx hb hts hin11 hown hK hI (zo0 hG) rfl 0 (by decide) wF12 (fun _ h9 => h9) rfl dX11_pair_127 ?_
                  refine z_calli (va_runV (As := [.ref (za G (zob x ka)), .ref (za G (zob x kb)), .int rw9, .ref (za G 1)]) (rest := []) ⟨hx, hb, hml, hown, hts⟩ ((c_X5_louds l hG x N b ka kb C rw9 hn hb0 hka hkb hro) A) (cwV 4 hts gX11_pair_X5_louds rfl rfl rfl (by decide +kernel) ⟨Nat.le_of_ble_eq_true rfl, Nat.le_of_ble_eq_true rfl⟩) (z_pV hI hK hN (z_recv hK hI (zor hG hb0) rfl)) rfl rfl hl.1 rfl (lv_room (Nat.le_of_ble_eq_true rfl)) dX11_pair_130 ⟨Nat.zero_le _, Nat.zero_le _⟩) hI (fun r_130 u H locs hw hI => ?_)
                  obtain ⟨rfl, rfl⟩ := hw
                  exact z_iret hx hb hr hlocks hI (Or.inr (Or.inr ⟨ka, kb, hka, hkb, c_55, rfl, rfl, ⟨c_31, c_36⟩, ⟨c_41, c_47⟩, zQ6x.l hb0, (if_neg (by rw [q76_1]; decide)).trans (if_pos q76_1)⟩)) dX11_pair_133
                by_cases q76_2 : wh = (nI 2)
                · skip
                  refine lv_tableIn (off := 58) (tgt := 134) hx hb dX11_pair_76 (by rw [q76_2]; decide) (by rw [q76_2]; decide) (by rw [q76_2]; rfl) (by decide) ?_
                  refine lv_aload hx hb dX11_pair_134 (lv_at hl 0 rfl) ?_
                  refine lv_aload hx hb dX11_pair_136 (lv_at hl 2 rfl) ?_
                  refine lv_aload hx hb dX11_pair_138 (lv_at hl 1 rfl) ?_
                  refine lv_iload_n hx hb dX11_pair_140 rfl (lv_at hl 6 rfl) ?_
                  refine lv_aload_n hx hb dX11_pair_141 rfl (lv_at hl 3 rfl) ?_
                  refine z_get (C := RX11) (T := TX11) (N := 14) (ci := 11) (v := .ref (za G 1)) hx hb hts hin11 hown hK hI (zo0 hG) rfl 0 (by decide) wF12 (fun _ h9 => h9) rfl dX11_pair_142 ?_
                  refine z_calli (va_runV (As := [.ref (za G (zob x ka)), .ref (za G (zob x kb)), .int rw9, .ref (za G 1)]) (rest := []) ⟨hx, hb, hml, hown, hts⟩ ((c_X5_isBarred l hG x N b ka kb C rw9 hn hb0 hka hkb hro) A) (cwV 4 hts gX11_pair_X5_isBarred rfl rfl rfl (by decide +kernel) ⟨Nat.le_of_ble_eq_true rfl, Nat.le_of_ble_eq_true rfl⟩) (z_pV hI hK hN (z_recv hK hI (zor hG hb0) rfl)) rfl rfl hl.1 rfl (lv_room (Nat.le_of_ble_eq_true rfl)) dX11_pair_145 ⟨Nat.zero_le _, Nat.zero_le _⟩) hI (fun r_145 u H locs hw hI => ?_)
                  obtain ⟨hQ5, e12, e13, e14, rfl⟩ := zbar_of zQ6.r hb0 hn hro hka hkb hw
                  refine lv_if_eq (tgt := 155) hx hb dX11_pair_148 (by decide) (fun c_148 => ?_) (fun c_148 => ?_)
                  · skip
                    rw [zb_0] at c_148
                    refine lv_iconst (v := (nI 0)) hx hb dX11_pair_155 rfl ?_
                    exact z_iret hx hb hr hlocks hI (Or.inr (Or.inr ⟨ka, kb, hka, hkb, c_55, rfl, rfl, ⟨c_31, c_36⟩, ⟨c_41, c_47⟩, ⟨hQ5, zQ6x_b e12 e13 e14⟩, (if_neg (by rw [q76_2]; decide)).trans ((if_neg (by rw [q76_2]; decide)).trans ((if_pos q76_2).trans (if_neg c_148)))⟩)) dX11_pair_156
                  · skip
                    rw [zb_0, Classical.not_not] at c_148
                    refine lv_iconst (v := (nI 1)) hx hb dX11_pair_151 rfl ?_
                    refine lv_goto (tgt := 156) hx hb dX11_pair_152 (by decide) ?_
                    exact z_iret hx hb hr hlocks hI (Or.inr (Or.inr ⟨ka, kb, hka, hkb, c_55, rfl, rfl, ⟨c_31, c_36⟩, ⟨c_41, c_47⟩, ⟨hQ5, zQ6x_b e12 e13 e14⟩, (if_neg (by rw [q76_2]; decide)).trans ((if_neg (by rw [q76_2]; decide)).trans ((if_pos q76_2).trans (if_pos c_148)))⟩)) dX11_pair_156
                refine lv_tableOut (tgt := 157) hx hb dX11_pair_76 (by have := lv_neT (a := 0) q76_0 rfl; have := lv_neT (a := 1) q76_1 rfl; have := lv_neT (a := 2) q76_2 rfl; omega) (by decide) ?_
                refine lv_aload hx hb dX11_pair_157 (lv_at hl 0 rfl) ?_
                refine lv_aload hx hb dX11_pair_159 (lv_at hl 2 rfl) ?_
                refine lv_aload hx hb dX11_pair_161 (lv_at hl 1 rfl) ?_
                refine lv_iload_n hx hb dX11_pair_163 rfl (lv_at hl 6 rfl) ?_
                refine lv_aload_n hx hb dX11_pair_164 rfl (lv_at hl 3 rfl) ?_
                refine z_get (C := RX11) (T := TX11) (N := 14) (ci := 11) (v := .ref (za G 1)) hx hb hts hin11 hown hK hI (zo0 hG) rfl 0 (by decide) wF12 (fun _ h9 => h9) rfl dX11_pair_165 ?_
                refine z_calli (va_runV (As := [.ref (za G (zob x ka)), .ref (za G (zob x kb)), .int rw9, .ref (za G 1)]) (rest := []) ⟨hx, hb, hml, hown, hts⟩ ((c_X5_worth l hG x N b ka kb C rw9 hn hb0 hka hkb hro) A) (cwV 4 hts gX11_pair_X5_worth rfl rfl rfl (by decide +kernel) ⟨Nat.le_of_ble_eq_true rfl, Nat.le_of_ble_eq_true rfl⟩) (z_pV hI hK hN (z_recv hK hI (zor hG hb0) rfl)) rfl rfl hl.1 rfl (lv_room (Nat.le_of_ble_eq_true rfl)) dX11_pair_168 ⟨Nat.zero_le _, Nat.zero_le _⟩) hI (fun r_168 u H locs hw hI => ?_)
                obtain ⟨rfl, rfl⟩ := hw
                rw [zVw_l (G := G) (row := rw9) zQ6.r hb0 hn hro hka hkb]
                refine lv_aload hx hb dX11_pair_171 (lv_at hl 2 rfl) ?_
                have hrun : va_Run p l e { frames := 4, cells := 0, slots := 0, locals := 113 } s m ([.ref (za G 0), .int (nI ka), .int (nI kb), .int rw9, .int wh] : List Value).toArray below meth c H locs 0 0 0 0 (F0 m 173 ls [.ref (za G (zob x ka)), .int (zVw G x N b C ka kb rw9)]) [.int (zVw G x N b C ka kb rw9)] (va_Qi (fun (r : Int32) (u : zX) => (zlook x b ka kb rw9) = u ∧ (if zk G (zob x ka) = 0 then (zlook x b ka kb rw9).1 (zob x ka) 1 else nI 0) = r) (fun u t => zJ G u A t.heap) A (Value.ref (za G (zob x ka)) :: []).toArray) A := by
                  have ho := zop (G := G) (hn.2.2.1 ka hka).2.1 (hn.2.2.1 ka hka).2.2.1
                  rcases hG.2 (zob x ka) (hn.2.2.1 ka hka).2.1 (hn.2.2.1 ka hka).2.2.1 with h | h | h | h | h | h | h <;> rw [h] at ho
                  · rw [h]
                    exact va_runU (As := []) (rest := [.int (zVw G x N b C ka kb rw9)]) ⟨hx, hb, hml, hown, hts⟩ ((c_X0_burden l hG (zlook x b ka kb rw9) (zob x ka) (hn.2.2.1 ka hka).2.1 (hn.2.2.1 ka hka).2.2.1) A) (va_cwO 0 hts gX11_pair_X0_burden_u169X0 rfl rfl rfl (z_mem 151 rfl) (by decide +kernel) ⟨Nat.le_of_ble_eq_true rfl, Nat.le_of_ble_eq_true rfl⟩) (z_pV hI hK hN (z_recv hK hI ho rfl)) rfl rfl hl.1 rfl (lv_room (Nat.le_of_ble_eq_true rfl)) dX11_pair_173 ⟨Nat.zero_le _, Nat.zero_le _⟩
                  · rw [h]
                    exact va_runU (As := []) (rest := [.int (zVw G x N b C ka kb rw9)]) ⟨hx, hb, hml, hown, hts⟩ ((c_X4_burden l hG (zlook x b ka kb rw9) (zob x ka) (hn.2.2.1 ka hka).2.1 (hn.2.2.1 ka hka).2.2.1) A) (va_cwU 0 hts gX11_pair_X4_burden_u169X1 rfl rfl rfl rfl (by decide +kernel) ⟨Nat.le_of_ble_eq_true rfl, Nat.le_of_ble_eq_true rfl⟩) (z_pV hI hK hN (z_recv hK hI ho rfl)) rfl rfl hl.1 rfl (lv_room (Nat.le_of_ble_eq_true rfl)) dX11_pair_173 ⟨Nat.zero_le _, Nat.zero_le _⟩
                  · rw [h]
                    exact va_runU (As := []) (rest := [.int (zVw G x N b C ka kb rw9)]) ⟨hx, hb, hml, hown, hts⟩ ((c_X4_burden l hG (zlook x b ka kb rw9) (zob x ka) (hn.2.2.1 ka hka).2.1 (hn.2.2.1 ka hka).2.2.1) A) (va_cwU 0 hts gX11_pair_X4_burden_u169X2 rfl rfl rfl rfl (by decide +kernel) ⟨Nat.le_of_ble_eq_true rfl, Nat.le_of_ble_eq_true rfl⟩) (z_pV hI hK hN (z_recv hK hI ho rfl)) rfl rfl hl.1 rfl (lv_room (Nat.le_of_ble_eq_true rfl)) dX11_pair_173 ⟨Nat.zero_le _, Nat.zero_le _⟩
                  · rw [h]
                    exact va_runU (As := []) (rest := [.int (zVw G x N b C ka kb rw9)]) ⟨hx, hb, hml, hown, hts⟩ ((c_X4_burden l hG (zlook x b ka kb rw9) (zob x ka) (hn.2.2.1 ka hka).2.1 (hn.2.2.1 ka hka).2.2.1) A) (va_cwU 0 hts gX11_pair_X4_burden_u169X3 rfl rfl rfl rfl (by decide +kernel) ⟨Nat.le_of_ble_eq_true rfl, Nat.le_of_ble_eq_true rfl⟩) (z_pV hI hK hN (z_recv hK hI ho rfl)) rfl rfl hl.1 rfl (lv_room (Nat.le_of_ble_eq_true rfl)) dX11_pair_173 ⟨Nat.zero_le _, Nat.zero_le _⟩
                  · rw [h]
                    exact va_runV (As := []) (rest := [.int (zVw G x N b C ka kb rw9)]) ⟨hx, hb, hml, hown, hts⟩ ((c_X4_burden l hG (zlook x b ka kb rw9) (zob x ka) (hn.2.2.1 ka hka).2.1 (hn.2.2.1 ka hka).2.2.1) A) (cwV 0 hts gX11_pair_X4_burden rfl rfl rfl (by decide +kernel) ⟨Nat.le_of_ble_eq_true rfl, Nat.le_of_ble_eq_true rfl⟩) (z_pV hI hK hN (z_recv hK hI ho rfl)) rfl rfl hl.1 rfl (lv_room (Nat.le_of_ble_eq_true rfl)) dX11_pair_173 ⟨Nat.zero_le _, Nat.zero_le _⟩
                  · rw [h]
                    exact va_runU (As := []) (rest := [.int (zVw G x N b C ka kb rw9)]) ⟨hx, hb, hml, hown, hts⟩ ((c_X4_burden l hG (zlook x b ka kb rw9) (zob x ka) (hn.2.2.1 ka hka).2.1 (hn.2.2.1 ka hka).2.2.1) A) (va_cwU 0 hts gX11_pair_X4_burden_u169X8 rfl rfl rfl rfl (by decide +kernel) ⟨Nat.le_of_ble_eq_true rfl, Nat.le_of_ble_eq_true rfl⟩) (z_pV hI hK hN (z_recv hK hI ho rfl)) rfl rfl hl.1 rfl (lv_room (Nat.le_of_ble_eq_true rfl)) dX11_pair_173 ⟨Nat.zero_le _, Nat.zero_le _⟩
                  · rw [h]
                    exact va_runU (As := []) (rest := [.int (zVw G x N b C ka kb rw9)]) ⟨hx, hb, hml, hown, hts⟩ ((c_X4_burden l hG (zlook x b ka kb rw9) (zob x ka) (hn.2.2.1 ka hka).2.1 (hn.2.2.1 ka hka).2.2.1) A) (va_cwU 0 hts gX11_pair_X4_burden_u169X10 rfl rfl rfl rfl (by decide +kernel) ⟨Nat.le_of_ble_eq_true rfl, Nat.le_of_ble_eq_true rfl⟩) (z_pV hI hK hN (z_recv hK hI ho rfl)) rfl rfl hl.1 rfl (lv_room (Nat.le_of_ble_eq_true rfl)) dX11_pair_173 ⟨Nat.zero_le _, Nat.zero_le _⟩
                refine z_calli hrun hI (fun r_173 u H locs hw hI => ?_)
                obtain ⟨rfl, rfl⟩ := hw
                rw [show (zlook x b ka kb rw9).1 (zob x ka) = x.1 (zob x ka) from zlook_n (by have := (hn.2.2.1 ka hka).2.1; omega)]
                refine lv_aload_n hx hb dX11_pair_176 rfl (lv_at hl 3 rfl) ?_
                refine lv_iload_n hx hb dX11_pair_177 rfl (lv_at hl 4 rfl) ?_
                refine z_calli (va_runV (As := [.int (nI ka)]) (rest := [.int (if zk G (zob x ka) = 0 then x.1 (zob x ka) 1 else nI 0), .int (zVw G x N b C ka kb rw9)]) ⟨hx, hb, hml, hown, hts⟩ ((c_X11_acrossOf l hG (zlook x b ka kb rw9) N ka (zSit_l hb0 hsit) hka) A) (cwV 1 hts gX11_pair_X11_acrossOf rfl rfl rfl (by decide +kernel) ⟨Nat.le_of_ble_eq_true rfl, Nat.le_of_ble_eq_true rfl⟩) (z_pV hI hK hN (z_recv hK hI (zo0 hG) rfl)) rfl rfl hl.1 rfl (lv_room (Nat.le_of_ble_eq_true rfl)) dX11_pair_178 ⟨Nat.zero_le _, Nat.zero_le _⟩) hI (fun r_178 u H locs hw hI => ?_)
                obtain ⟨rfl, hr9⟩ := hw
                have hr9 := (zacr_l (k := ka) hb0).symm.trans hr9
                subst hr9
                refine lv_imul hx hb dX11_pair_181 ?_
                refine lv_isub hx hb dX11_pair_182 ?_
                exact z_iret hx hb hr hlocks hI (Or.inr (Or.inr ⟨ka, kb, hka, hkb, c_55, rfl, rfl, ⟨c_31, c_36⟩, ⟨c_41, c_47⟩, zQ6x.l hb0, (if_neg q76_0).trans ((if_neg q76_1).trans (if_neg q76_2))⟩)) dX11_pair_183
              · skip
                rw [zqE (by omega) (by omega)] at c_55
                refine lv_ldc (v := (-100002)) hx hb hown wK154 dX11_pair_58 ?_
                exact z_iret hx hb hr hlocks hI (Or.inr (Or.inl ⟨⟨⟨nI_pos (by omega), nI_ge hka (by omega)⟩, ⟨nI_pos (by omega), nI_ge hkb (by omega)⟩, ⟨c_31, c_36⟩, c_41, c_47⟩, by rw [c_55], rfl, rfl⟩)) dX11_pair_60
            · skip
              refine lv_ldc (v := (-100001)) hx hb hown wK153 dX11_pair_50 ?_
              exact z_iret hx hb hr hlocks hI (Or.inl ⟨fun h => c_47 h.2.2.2.2, rfl, rfl⟩) dX11_pair_52
