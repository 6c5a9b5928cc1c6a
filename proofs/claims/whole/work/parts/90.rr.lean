theorem zbur_s {G : zG} {x y : zX} {N p6 : Nat} {v : Int32} (h : ∀ p, p < p6 → y.1 14 p = if p < N then (if zk G (zob x p) = 0 then x.1 (zob x p) 1 else nI 0) else nI 0) (hv : (if p6 < N then (if zk G (zob x p6) = 0 then x.1 (zob x p6) 1 else nI 0) else nI 0) = v) : ∀ p, p < p6 + 1 → (zsI y 14 p6 v).1 14 p = if p < N then (if zk G (zob x p) = 0 then x.1 (zob x p) 1 else nI 0) else nI 0 := by
  intro p hp
  rw [zsI_u]
  by_cases h9 : p = p6
  · rw [h9, hv]; exact if_pos rfl
  · exact (if_neg h9).trans (h p (by omega))
set_option maxHeartbeats 1000000 in
set_option maxRecDepth 100000 in
theorem c_X6_fill (l : Launch) {G : zG} (hG : zOK G) (x : zX) (N b C : Nat) (hn : zNow G x N) (hb0 : zRm b) (hro : zRo x b C) : zMv l yX6_fill wsX6_fill { frames := 4, cells := 0, slots := 0, locals := 113 } G [.ref (za G 11), .ref (za G 1), .ref (za G b)] x (fun (u : zX) => zQ6 b x u ∧ zTb G x N b C u) := by
  intro A
  refine zBody (cc := cX6_fill) (maxL := 9) (ret := none) (by decide) rfl (Nat.le_of_ble_eq_true rfl) ?_
  intro p e s m below meth c hx hb hml hown hts hr hlocks hK hN hI ls hl
  have hown : s.vm.findClass RX6 = some m.cls := hown
  have hl : lv_has ls 9 [(0, .ref (za G 11)), (1, .ref (za G 1)), (2, .ref (za G b))] := hl
  have hin6 : ∀ w ∈ wsX60, w ∈ wsX6_fill := (fun _ h => List.mem_cons_of_mem _ (List.mem_append_left _ (List.mem_append_left _ (List.mem_append_left _ (List.mem_append_left _ (List.mem_append_left _ (List.mem_append_left _ (List.mem_append_left _ (List.mem_append_left _ (List.mem_append_right _ (h)))))))))))
  have hin7 : ∀ w ∈ wsX70, w ∈ wsX6_fill := (fun _ h => List.mem_cons_of_mem _ (List.mem_append_left _ (List.mem_append_left _ (List.mem_append_left _ (List.mem_append_left _ (List.mem_append_left _ (List.mem_append_left _ (List.mem_append_left _ (List.mem_append_left _ (List.mem_append_left _ (List.mem_append_right _ (h))))))))))))
  have wF28 := hts (.fieldLink RX6 28 "WhoSitsBy$Standing" "size" "I") (z_mem 1 rfl)
  have wF19 := hts (.fieldLink RX6 19 "WhoSitsBy$Sittings" "burdens" "[I") (z_mem 4 rfl)
  have wF9 := hts (.fieldLink RX6 9 "WhoSitsBy$Sittings" "worths" "[I") (z_mem 2 rfl)
  have wF15 := hts (.fieldLink RX6 15 "WhoSitsBy$Sittings" "bars" "[Z") (z_mem 3 rfl)
  have h8 := hn.1
  have hrb := zRm_b hb0
  refine lv_iconst (v := (nI 0)) hx hb dX6_fill_0 rfl ?_
  refine lv_istore_n (lv' := [(3, .int (nI 0)), (0, .ref (za G 11)), (1, .ref (za G 1)), (2, .ref (za G b))]) hx hb dX6_fill_1 rfl hl (by decide) rfl (fun ls hl => ?_)
  have L2 : ∀ (f : Nat) (a : Nat) (y : zX), (a ≤ N) → (zQ6 b x y) → (zFl G x N b C y a 0 0) → N + 1 ≤ a + f → ∀ (H : Heap) (locs : List Loc), zI G y A s.heap H locs → ∀ ls : Array Slot, lv_has ls 9 [(0, .ref (za G 11)), (1, .ref (za G 1)), (2, .ref (za G b)), (3, .int (nI a))] → W p l e { frames := 4, cells := 0, slots := 0, locals := 113 } s m ([.ref (za G 11), .ref (za G 1), .ref (za G b)] : List Value).toArray below meth c H locs 0 0 (MQ below (va_Qv (fun (u : zX) => zQ6 b x u ∧ zTb G x N b C u) (fun u t => zJ G u A t.heap) A) ([.ref (za G 11), .ref (za G 1), .ref (za G b)] : List Value).toArray s 0 0 A) (F0 m 2 ls []) := by
    intro f
    induction f with
    | zero =>
      intro a y h1 hQ hF hf
      exact absurd hf (by omega)
    | succ f ih =>
      intro a y h1 hQ hF hf H locs hI ls hl
      have hny0 := (zNow_q hQ hb0 hn).2.1
      have ih2 := ih
      refine lv_iload_n hx hb dX6_fill_2 rfl (lv_at hl 3 rfl) ?_
      refine lv_aload_n hx hb dX6_fill_3 rfl (lv_at hl 1 rfl) ?_
      refine z_get (C := RX7) (T := TX7) (N := 7) (ci := 7) (v := .int (nI N)) hx hb hts hin7 hown hK hI (zo1 hG) rfl 3 (by decide) wF28 (fun _ h9 => h9) (congrArg (fun q => some (Value.int q)) hny0) dX6_fill_4 ?_
      refine lv_icmp_ge (tgt := 125) hx hb dX6_fill_7 (by decide) (fun c_7 => ?_) (fun c_7 => ?_)
      · skip
        rw [zqG (by omega) (by omega)] at c_7
        refine lv_iconst (v := (nI 0)) hx hb dX6_fill_125 rfl ?_
        refine lv_istore_n (lv' := [(3, .int (nI 0)), (0, .ref (za G 11)), (1, .ref (za G 1)), (2, .ref (za G b))]) hx hb dX6_fill_126 rfl hl (by decide) rfl (fun ls hl => ?_)
        have L127 : ∀ (f : Nat) (p6 : Nat) (y6 : zX), (p6 ≤ 8) → (zQ6 b x y6) → (zFl G x N b C y6 N 0 0) → (∀ p, p < p6 → y6.1 14 p = if p < N then (if zk G (zob x p) = 0 then x.1 (zob x p) 1 else nI 0) else nI 0) → 9 ≤ p6 + f → ∀ (H : Heap) (locs : List Loc), zI G y6 A s.heap H locs → ∀ ls : Array Slot, lv_has ls 9 [(0, .ref (za G 11)), (1, .ref (za G 1)), (2, .ref (za G b)), (3, .int (nI p6))] → W p l e { frames := 4, cells := 0, slots := 0, locals := 113 } s m ([.ref (za G 11), .ref (za G 1), .ref (za G b)] : List Value).toArray below meth c H locs 0 0 (MQ below (va_Qv (fun (u : zX) => zQ6 b x u ∧ zTb G x N b C u) (fun u t => zJ G u A t.heap) A) ([.ref (za G 11), .ref (za G 1), .ref (za G b)] : List Value).toArray s 0 0 A) (F0 m 127 ls []) := by
          intro f
          induction f with
          | zero =>
            intro p6 y6 m1 mQ mF mB hf
            exact absurd hf (by omega)
          | succ f ih =>
            intro p6 y6 m1 mQ mF mB hf H locs hI ls hl
            have hn6 := zNow_q mQ hb0 hn
            have ih127 := ih
            refine lv_iload_n hx hb dX6_fill_127 rfl (lv_at hl 3 rfl) ?_
            refine lv_bipush (v := (nI 8)) hx hb dX6_fill_128 rfl ?_
            refine lv_icmp_ge (tgt := 166) hx hb dX6_fill_130 (by decide) (fun c_130 => ?_) (fun c_130 => ?_)
            · skip
              rw [zqG (by omega) (by omega)] at c_130
              exact z_vret hx hb hr hlocks hI (⟨mQ, ⟨fun a q r i1 i2 i3 i4 => mF a q r i1 i2 i3 i4 (by omega), fun p hp => mB p (by omega)⟩⟩) dX6_fill_166
            · skip
              rw [zqG (by omega) (by omega)] at c_130
              refine lv_aload_n hx hb dX6_fill_133 rfl (lv_at hl 1 rfl) ?_
              refine lv_iload_n hx hb dX6_fill_134 rfl (lv_at hl 3 rfl) ?_
              by_cases hpN : p6 < N
              · skip
                refine z_callq (va_runV (As := [.int (nI p6)]) (rest := []) ⟨hx, hb, hml, hown, hts⟩ ((c_X7_at l hG y6 N (nI p6) hn6) A) (cwV 1 hts gX6_fill_X7_at rfl rfl rfl (by decide +kernel) ⟨Nat.le_of_ble_eq_true rfl, Nat.le_of_ble_eq_true rfl⟩) (z_pV hI hK hN (z_recv hK hI (zo1 hG) rfl)) rfl rfl hl.1 rfl (lv_room (Nat.le_of_ble_eq_true rfl)) dX6_fill_135 ⟨Nat.zero_le _, Nat.zero_le _⟩) hI (fun r_135 u H locs hw hI => ?_)
                obtain ⟨rfl, rfl⟩ := hw
                rw [show (zat y6 N (nI p6)) = some (zob y6 p6) from zat_in hn6 hpN]
                refine lv_astore (lv' := [(4, .ref (za G (zob y6 p6))), (0, .ref (za G 11)), (1, .ref (za G 1)), (2, .ref (za G b)), (3, .int (nI p6))]) hx hb dX6_fill_138 hl (by decide) rfl (fun ls hl => ?_)
                refine lv_aload_n hx hb dX6_fill_140 rfl (lv_at hl 1 rfl) ?_
                refine z_get (C := RX6) (T := TX6) (N := 8) (ci := 6) (v := .ref (za G 14)) hx hb hts hin6 hown hK hI (zo11 hG) rfl 2 (by decide) wF19 (fun _ h9 => h9) rfl dX6_fill_141 ?_
                refine lv_iload_n hx hb dX6_fill_144 rfl (lv_at hl 4 rfl) ?_
                refine lv_aload hx hb dX6_fill_145 (lv_at hl 0 rfl) ?_
                refine lv_ifnonnull (tgt := 154) hx hb dX6_fill_147 (by decide) ?_
                refine lv_aload hx hb dX6_fill_154 (lv_at hl 0 rfl) ?_
                have ep6 : y6.1 (zob y6 p6) = x.1 (zob x p6) := by rw [zob_q mQ]; have := (hn.2.2.1 p6 hpN).2.1; exact mQ.1 _ (by omega) (by omega) (by omega) (by omega)
                have hrun : va_Run p l e { frames := 4, cells := 0, slots := 0, locals := 113 } s m ([.ref (za G 11), .ref (za G 1), .ref (za G b)] : List Value).toArray below meth c H locs 0 0 0 0 (F0 m 156 ls [.ref (za G (zob y6 p6)), .int (nI p6), .ref (za G 14)]) [.int (nI p6), .ref (za G 14)] (va_Qi (fun (r : Int32) (u : zX) => y6 = u ∧ (if zk G (zob y6 p6) = 0 then y6.1 (zob y6 p6) 1 else nI 0) = r) (fun u t => zJ G u A t.heap) A (Value.ref (za G (zob y6 p6)) :: []).toArray) A := by
                  have ho := zop (G := G) (hn6.2.2.1 p6 hpN).2.1 (hn6.2.2.1 p6 hpN).2.2.1
                  rcases hG.2 (zob y6 p6) (hn6.2.2.1 p6 hpN).2.1 (hn6.2.2.1 p6 hpN).2.2.1 with h | h | h | h | h | h | h <;> rw [h] at ho
                  · rw [h]
                    exact va_runU (As := []) (rest := [.int (nI p6), .ref (za G 14)]) ⟨hx, hb, hml, hown, hts⟩ ((c_X0_burden l hG y6 (zob y6 p6) (hn6.2.2.1 p6 hpN).2.1 (hn6.2.2.1 p6 hpN).2.2.1) A) (va_cwO 0 hts gX6_fill_X0_burden_u52X0 rfl rfl rfl (z_mem 140 rfl) (by decide +kernel) ⟨Nat.le_of_ble_eq_true rfl, Nat.le_of_ble_eq_true rfl⟩) (z_pV hI hK hN (z_recv hK hI ho rfl)) rfl rfl hl.1 rfl (lv_room (Nat.le_of_ble_eq_true rfl)) dX6_fill_156 ⟨Nat.zero_le _, Nat.zero_le _⟩
                  · rw [h]
                    exact va_runU (As := []) (rest := [.int (nI p6), .ref (za G 14)]) ⟨hx, hb, hml, hown, hts⟩ ((c_X4_burden l hG y6 (zob y6 p6) (hn6.2.2.1 p6 hpN).2.1 (hn6.2.2.1 p6 hpN).2.2.1) A) (va_cwU 0 hts gX6_fill_X4_burden_u52X1 rfl rfl rfl rfl (by decide +kernel) ⟨Nat.le_of_ble_eq_true rfl, Nat.le_of_ble_eq_true rfl⟩) (z_pV hI hK hN (z_recv hK hI ho rfl)) rfl rfl hl.1 rfl (lv_room (Nat.le_of_ble_eq_true rfl)) dX6_fill_156 ⟨Nat.zero_le _, Nat.zero_le _⟩
                  · rw [h]
                    exact va_runU (As := []) (rest := [.int (nI p6), .ref (za G 14)]) ⟨hx, hb, hml, hown, hts⟩ ((c_X4_burden l hG y6 (zob y6 p6) (hn6.2.2.1 p6 hpN).2.1 (hn6.2.2.1 p6 hpN).2.2.1) A) (va_cwU 0 hts gX6_fill_X4_burden_u52X2 rfl rfl rfl rfl (by decide +kernel) ⟨Nat.le_of_ble_eq_true rfl, Nat.le_of_ble_eq_true rfl⟩) (z_pV hI hK hN (z_recv hK hI ho rfl)) rfl rfl hl.1 rfl (lv_room (Nat.le_of_ble_eq_true rfl)) dX6_fill_156 ⟨Nat.zero_le _, Nat.zero_le _⟩
                  · rw [h]
                    exact va_runU (As := []) (rest := [.int (nI p6), .ref (za G 14)]) ⟨hx, hb, hml, hown, hts⟩ ((c_X4_burden l hG y6 (zob y6 p6) (hn6.2.2.1 p6 hpN).2.1 (hn6.2.2.1 p6 hpN).2.2.1) A) (va_cwU 0 hts gX6_fill_X4_burden_u52X3 rfl rfl rfl rfl (by decide +kernel) ⟨Nat.le_of_ble_eq_true rfl, Nat.le_of_ble_eq_true rfl⟩) (z_pV hI hK hN (z_recv hK hI ho rfl)) rfl rfl hl.1 rfl (lv_room (Nat.le_of_ble_eq_true rfl)) dX6_fill_156 ⟨Nat.zero_le _, Nat.zero_le _⟩
                  · rw [h]
                    exact va_runV (As := []) (rest := [.int (nI p6), .ref (za G 14)]) ⟨hx, hb, hml, hown, hts⟩ ((c_X4_burden l hG y6 (zob y6 p6) (hn6.2.2.1 p6 hpN).2.1 (hn6.2.2.1 p6 hpN).2.2.1) A) (cwV 0 hts gX6_fill_X4_burden rfl rfl rfl (by decide +kernel) ⟨Nat.le_of_ble_eq_true rfl, Nat.le_of_ble_eq_true rfl⟩) (z_pV hI hK hN (z_recv hK hI ho rfl)) rfl rfl hl.1 rfl (lv_room (Nat.le_of_ble_eq_true rfl)) dX6_fill_156 ⟨Nat.zero_le _, Nat.zero_le _⟩
                  · rw [h]
                    exact va_runU (As := []) (rest := [.int (nI p6), .ref (za G 14)]) ⟨hx, hb, hml, hown, hts⟩ ((c_X4_burden l hG y6 (zob y6 p6) (hn6.2.2.1 p6 hpN).2.1 (hn6.2.2.1 p6 hpN).2.2.1) A) (va_cwU 0 hts gX6_fill_X4_burden_u52X8 rfl rfl rfl rfl (by decide +kernel) ⟨Nat.le_of_ble_eq_true rfl, Nat.le_of_ble_eq_true rfl⟩) (z_pV hI hK hN (z_recv hK hI ho rfl)) rfl rfl hl.1 rfl (lv_room (Nat.le_of_ble_eq_true rfl)) dX6_fill_156 ⟨Nat.zero_le _, Nat.zero_le _⟩
                  · rw [h]
                    exact va_runU (As := []) (rest := [.int (nI p6), .ref (za G 14)]) ⟨hx, hb, hml, hown, hts⟩ ((c_X4_burden l hG y6 (zob y6 p6) (hn6.2.2.1 p6 hpN).2.1 (hn6.2.2.1 p6 hpN).2.2.1) A) (va_cwU 0 hts gX6_fill_X4_burden_u52X10 rfl rfl rfl rfl (by decide +kernel) ⟨Nat.le_of_ble_eq_true rfl, Nat.le_of_ble_eq_true rfl⟩) (z_pV hI hK hN (z_recv hK hI ho rfl)) rfl rfl hl.1 rfl (lv_room (Nat.le_of_ble_eq_true rfl)) dX6_fill_156 ⟨Nat.zero_le _, Nat.zero_le _⟩
                refine z_calli hrun hI (fun r_156 u H locs hw hI => ?_)
                obtain ⟨rfl, rfl⟩ := hw
                refine z_iast (y := (if zk G (zob y6 p6) = 0 then y6.1 (zob y6 p6) 1 else nI 0)) hx hb hK hI (zo14 hG) p6 rfl (by omega) (by decide) dX6_fill_159 (fun H locs hI => ?_)
                refine lv_iinc (v := (nI (p6 + 1))) (lv' := [(3, .int (nI (p6 + 1))), (4, .ref (za G (zob y6 p6))), (0, .ref (za G 11)), (1, .ref (za G 1)), (2, .ref (za G b))]) hx hb dX6_fill_160 hl (k := 4) rfl (zinc p6) (by decide) rfl (fun ls hl => ?_)
                refine lv_goto (tgt := 127) hx hb dX6_fill_163 (by decide) ?_
                exact ih127 (p6 + 1) (zsI y6 14 p6 (if zk G (zob y6 p6) = 0 then y6.1 (zob y6 p6) 1 else nI 0)) (by omega) (mQ.t (zQ6.s (Or.inr (Or.inr rfl)))) (fun a q r i1 i2 i3 i4 i5 => by rw [zsI_n (by decide), zsI_n (by decide)]; exact mF a q r i1 i2 i3 i4 i5) (zbur_s mB (by rw [if_pos hpN, ep6, zob_q mQ])) (by omega) _ _ hI ls (lv_sub hl [2, 3, 4, 0] rfl)
              · skip
                refine z_callq (va_runV (As := [.int (nI p6)]) (rest := []) ⟨hx, hb, hml, hown, hts⟩ ((c_X7_at l hG y6 N (nI p6) hn6) A) (cwV 1 hts gX6_fill_X7_at rfl rfl rfl (by decide +kernel) ⟨Nat.le_of_ble_eq_true rfl, Nat.le_of_ble_eq_true rfl⟩) (z_pV hI hK hN (z_recv hK hI (zo1 hG) rfl)) rfl rfl hl.1 rfl (lv_room (Nat.le_of_ble_eq_true rfl)) dX6_fill_135 ⟨Nat.zero_le _, Nat.zero_le _⟩) hI (fun r_135 u H locs hw hI => ?_)
                obtain ⟨rfl, rfl⟩ := hw
                rcases hq_135 : (zat y6 N (nI p6)) with _ | o_135
                · skip
                  refine lv_astoreN (lv' := [(4, .null), (0, .ref (za G 11)), (1, .ref (za G 1)), (2, .ref (za G b)), (3, .int (nI p6))]) hx hb dX6_fill_138 hl (by decide) rfl (fun ls hl => ?_)
                  refine lv_aload_n hx hb dX6_fill_140 rfl (lv_at hl 1 rfl) ?_
                  refine z_get (C := RX6) (T := TX6) (N := 8) (ci := 6) (v := .ref (za G 14)) hx hb hts hin6 hown hK hI (zo11 hG) rfl 2 (by decide) wF19 (fun _ h9 => h9) rfl dX6_fill_141 ?_
                  refine lv_iload_n hx hb dX6_fill_144 rfl (lv_at hl 4 rfl) ?_
                  refine lv_aloadN hx hb dX6_fill_145 (lv_at hl 0 rfl) ?_
                  refine lv_ifnonnullN hx hb dX6_fill_147 ?_
                  refine lv_iconst (v := (nI 0)) hx hb dX6_fill_150 rfl ?_
                  refine lv_goto (tgt := 159) hx hb dX6_fill_151 (by decide) ?_
                  refine z_iast (y := (nI 0)) hx hb hK hI (zo14 hG) p6 rfl (by omega) (by decide) dX6_fill_159 (fun H locs hI => ?_)
                  refine lv_iinc (v := (nI (p6 + 1))) (lv' := [(3, .int (nI (p6 + 1))), (4, .null), (0, .ref (za G 11)), (1, .ref (za G 1)), (2, .ref (za G b))]) hx hb dX6_fill_160 hl (k := 4) rfl (zinc p6) (by decide) rfl (fun ls hl => ?_)
                  refine lv_goto (tgt := 127) hx hb dX6_fill_163 (by decide) ?_
                  exact ih127 (p6 + 1) (zsI y6 14 p6 (nI 0)) (by omega) (mQ.t (zQ6.s (Or.inr (Or.inr rfl)))) (fun a q r i1 i2 i3 i4 i5 => by rw [zsI_n (by decide), zsI_n (by decide)]; exact mF a q r i1 i2 i3 i4 i5) (zbur_s mB (if_neg hpN)) (by omega) _ _ hI ls (lv_sub hl [2, 3, 4, 0] rfl)
                · skip
                  obtain ⟨k9, hk9, e9, -⟩ := zat_of hn6 hq_135; exact absurd ((nI_eq (by omega) (by omega)).mp e9) (by omega)
        exact L127 (9) 0 y (by omega) hQ (by rw [show a = N by omega] at hF; exact hF) (fun p hp => absurd hp (by omega)) (by omega) _ _ hI ls (lv_sub hl [1, 2, 3, 0] rfl)
      · skip
        rw [zqG (by omega) (by omega)] at c_7
        refine lv_iconst (v := (nI 0)) hx hb dX6_fill_10 rfl ?_
        refine lv_istore (lv' := [(4, .int (nI 0)), (0, .ref (za G 11)), (1, .ref (za G 1)), (2, .ref (za G b)), (3, .int (nI a))]) hx hb dX6_fill_11 hl (by decide) rfl (fun ls hl => ?_)
        have L13 : ∀ (f : Nat) (q : Nat) (y2 : zX), (q ≤ N) → (zQ6 b x y2) → (zFl G x N b C y2 a q 0) → N + 1 ≤ q + f → ∀ (H : Heap) (locs : List Loc), zI G y2 A s.heap H locs → ∀ ls : Array Slot, lv_has ls 9 [(0, .ref (za G 11)), (1, .ref (za G 1)), (2, .ref (za G b)), (3, .int (nI a)), (4, .int (nI q))] → W p l e { frames := 4, cells := 0, slots := 0, locals := 113 } s m ([.ref (za G 11), .ref (za G 1), .ref (za G b)] : List Value).toArray below meth c H locs 0 0 (MQ below (va_Qv (fun (u : zX) => zQ6 b x u ∧ zTb G x N b C u) (fun u t => zJ G u A t.heap) A) ([.ref (za G 11), .ref (za G 1), .ref (za G b)] : List Value).toArray s 0 0 A) (F0 m 13 ls []) := by
          intro f
          induction f with
          | zero =>
            intro q y2 g1 gQ gF hf
            exact absurd hf (by omega)
          | succ f ih =>
            intro q y2 g1 gQ gF hf H locs hI ls hl
            have hny1 := (zNow_q gQ hb0 hn).2.1
            have ih13 := ih
            refine lv_iload hx hb dX6_fill_13 (lv_at hl 4 rfl) ?_
            refine lv_aload_n hx hb dX6_fill_15 rfl (lv_at hl 1 rfl) ?_
            refine z_get (C := RX7) (T := TX7) (N := 7) (ci := 7) (v := .int (nI N)) hx hb hts hin7 hown hK hI (zo1 hG) rfl 3 (by decide) wF28 (fun _ h9 => h9) (congrArg (fun q => some (Value.int q)) hny1) dX6_fill_16 ?_
            refine lv_icmp_ge (tgt := 119) hx hb dX6_fill_19 (by decide) (fun c_19 => ?_) (fun c_19 => ?_)
            · skip
              rw [zqG (by omega) (by omega)] at c_19
              refine lv_iinc (v := (nI (a + 1))) (lv' := [(3, .int (nI (a + 1))), (0, .ref (za G 11)), (1, .ref (za G 1)), (2, .ref (za G b)), (4, .int (nI q))]) hx hb dX6_fill_119 hl (k := 3) rfl (zinc a) (by decide) rfl (fun ls hl => ?_)
              refine lv_goto (tgt := 2) hx hb dX6_fill_122 (by decide) ?_
              exact ih2 (a + 1) y2 (by omega) gQ (gF.a (by omega)) (by omega) _ _ hI ls (lv_sub hl [1, 2, 3, 0] rfl)
            · skip
              rw [zqG (by omega) (by omega)] at c_19
              refine lv_iconst (v := (nI 0)) hx hb dX6_fill_22 rfl ?_
              refine lv_istore (lv' := [(5, .int (nI 0)), (0, .ref (za G 11)), (1, .ref (za G 1)), (2, .ref (za G b)), (3, .int (nI a)), (4, .int (nI q))]) hx hb dX6_fill_23 hl (by decide) rfl (fun ls hl => ?_)
              have L25 : ∀ (f : Nat) (r : Nat) (y3 : zX), (r ≤ 2) → (zQ6 b x y3) → (zFl G x N b C y3 a q r) → 3 ≤ r + f → ∀ (H : Heap) (locs : List Loc), zI G y3 A s.heap H locs → ∀ ls : Array Slot, lv_has ls 9 [(0, .ref (za G 11)), (1, .ref (za G 1)), (2, .ref (za G b)), (3, .int (nI a)), (4, .int (nI q)), (5, .int (nI r))] → W p l e { frames := 4, cells := 0, slots := 0, locals := 113 } s m ([.ref (za G 11), .ref (za G 1), .ref (za G b)] : List Value).toArray below meth c H locs 0 0 (MQ below (va_Qv (fun (u : zX) => zQ6 b x u ∧ zTb G x N b C u) (fun u t => zJ G u A t.heap) A) ([.ref (za G 11), .ref (za G 1), .ref (za G b)] : List Value).toArray s 0 0 A) (F0 m 25 ls []) := by
                intro f
                induction f with
                | zero =>
                  intro r y3 k1 kQ kF hf
                  exact absurd hf (by omega)
                | succ f ih =>
                  intro r y3 k1 kQ kF hf H locs hI ls hl
                  have hny := zNow_q kQ hb0 hn
                  have hry := zRo_q kQ hb0 hro
                  have ih25 := ih
                  refine lv_iload hx hb dX6_fill_25 (lv_at hl 5 rfl) ?_
                  refine lv_iconst (v := (nI 2)) hx hb dX6_fill_27 rfl ?_
                  refine lv_icmp_ge (tgt := 113) hx hb dX6_fill_28 (by decide) (fun c_28 => ?_) (fun c_28 => ?_)
                  · skip
                    rw [zqG (by omega) (by omega)] at c_28
                    refine lv_iinc (v := (nI (q + 1))) (lv' := [(4, .int (nI (q + 1))), (0, .ref (za G 11)), (1, .ref (za G 1)), (2, .ref (za G b)), (3, .int (nI a)), (5, .int (nI r))]) hx hb dX6_fill_113 hl (k := 4) rfl (zinc q) (by decide) rfl (fun ls hl => ?_)
                    refine lv_goto (tgt := 13) hx hb dX6_fill_116 (by decide) ?_
                    exact ih13 (q + 1) y3 (by omega) kQ (zFl.q (by rw [show 2 = r by omega]; exact kF)) (by omega) _ _ hI ls (lv_sub hl [1, 2, 3, 4, 0] rfl)
                  · skip
                    rw [zqG (by omega) (by omega)] at c_28
                    have haN : a < N := by omega
                    have hqN : q < N := by omega
                    refine lv_aload_n hx hb dX6_fill_31 rfl (lv_at hl 1 rfl) ?_
                    refine lv_iload_n hx hb dX6_fill_32 rfl (lv_at hl 3 rfl) ?_
                    refine z_callq (va_runV (As := [.int (nI a)]) (rest := []) ⟨hx, hb, hml, hown, hts⟩ ((c_X7_at l hG y3 N (nI a) hny) A) (cwV 1 hts gX6_fill_X7_at rfl rfl rfl (by decide +kernel) ⟨Nat.le_of_ble_eq_true rfl, Nat.le_of_ble_eq_true rfl⟩) (z_pV hI hK hN (z_recv hK hI (zo1 hG) rfl)) rfl rfl hl.1 rfl (lv_room (Nat.le_of_ble_eq_true rfl)) dX6_fill_33 ⟨Nat.zero_le _, Nat.zero_le _⟩) hI (fun r_33 u H locs hw hI => ?_)
                    obtain ⟨rfl, rfl⟩ := hw
                    rw [show (zat y3 N (nI a)) = some (zob y3 a) from zat_in hny haN]
                    refine lv_astore (lv' := [(6, .ref (za G (zob y3 a))), (0, .ref (za G 11)), (1, .ref (za G 1)), (2, .ref (za G b)), (3, .int (nI a)), (4, .int (nI q)), (5, .int (nI r))]) hx hb dX6_fill_36 hl (by decide) rfl (fun ls hl => ?_)
                    refine lv_aload_n hx hb dX6_fill_38 rfl (lv_at hl 2 rfl) ?_
                    refine lv_iload hx hb dX6_fill_39 (lv_at hl 5 rfl) ?_
                    refine z_callq (va_runV (As := [.int (nI q)]) (rest := []) ⟨hx, hb, hml, hown, hts⟩ ((c_X7_at l hG y3 N (nI q) hny) A) (cwV 1 hts gX6_fill_X7_at rfl rfl rfl (by decide +kernel) ⟨Nat.le_of_ble_eq_true rfl, Nat.le_of_ble_eq_true rfl⟩) (z_pV hI hK hN (z_recv hK hI (zo1 hG) rfl)) rfl rfl hl.1 rfl (lv_room (Nat.le_of_ble_eq_true rfl)) dX6_fill_41 ⟨Nat.zero_le _, Nat.zero_le _⟩) hI (fun r_41 u H locs hw hI => ?_)
                    obtain ⟨rfl, rfl⟩ := hw
                    rw [show (zat y3 N (nI q)) = some (zob y3 q) from zat_in hny hqN]
                    refine lv_astore (lv' := [(7, .ref (za G (zob y3 q))), (6, .ref (za G (zob y3 a))), (0, .ref (za G 11)), (1, .ref (za G 1)), (2, .ref (za G b)), (3, .int (nI a)), (4, .int (nI q)), (5, .int (nI r))]) hx hb dX6_fill_44 hl (by decide) rfl (fun ls hl => ?_)
                    refine lv_iload_n hx hb dX6_fill_46 rfl (lv_at hl 5 rfl) ?_
                    refine lv_iload hx hb dX6_fill_47 (lv_at hl 6 rfl) ?_
                    refine lv_iload hx hb dX6_fill_49 (lv_at hl 7 rfl) ?_
                    refine z_calli (va_runS (As := [.int (nI a), .int (nI q), .int (nI r)]) (rest := []) ⟨hx, hb, hml, hown, hts⟩ ((c_X6_cellOf l hG y3 (nI a) (nI q) r (by omega)) A) (va_cwS 3 hts gX6_fill_X6_cellOf rfl rfl rfl (by decide +kernel) ⟨Nat.le_of_ble_eq_true rfl, Nat.le_of_ble_eq_true rfl⟩) (z_pS hI hK hN) rfl rfl hl.1 rfl (lv_room (Nat.le_of_ble_eq_true rfl)) dX6_fill_51 ⟨Nat.zero_le _, Nat.zero_le _⟩) hI (fun r_51 u H locs hw hI => ?_)
                    obtain ⟨rfl, rfl⟩ := hw
                    by_cases hab : a = q
                    · skip
                      subst hab
                      rw [zcel_e]
                      refine lv_istore (lv' := [(8, .int (-1)), (7, .ref (za G (zob y3 a))), (6, .ref (za G (zob y3 a))), (0, .ref (za G 11)), (1, .ref (za G 1)), (2, .ref (za G b)), (3, .int (nI a)), (4, .int (nI a)), (5, .int (nI r))]) hx hb dX6_fill_54 hl (by decide) rfl (fun ls hl => ?_)
                      refine lv_aload hx hb dX6_fill_56 (lv_at hl 2 rfl) ?_
                      refine lv_ifnull hx hb dX6_fill_58 ?_
                      refine lv_aload hx hb dX6_fill_61 (lv_at hl 1 rfl) ?_
                      refine lv_ifnull hx hb dX6_fill_63 ?_
                      refine lv_iload hx hb dX6_fill_66 (lv_at hl 0 rfl) ?_
                      refine lv_if_lt (tgt := 107) hx hb dX6_fill_68 (by decide) (fun c_68 => ?_) (fun c_68 => ?_)
                      · skip
                        refine lv_iinc (v := (nI (r + 1))) (lv' := [(5, .int (nI (r + 1))), (8, .int (-1)), (7, .ref (za G (zob y3 a))), (6, .ref (za G (zob y3 a))), (0, .ref (za G 11)), (1, .ref (za G 1)), (2, .ref (za G b)), (3, .int (nI a)), (4, .int (nI a))]) hx hb dX6_fill_107 hl (k := 8) rfl (zinc r) (by decide) rfl (fun ls hl => ?_)
                        refine lv_goto (tgt := 25) hx hb dX6_fill_110 (by decide) ?_
                        exact ih25 (r + 1) y3 (by omega) kQ (zFl.e kF) (by omega) _ _ hI ls (lv_sub hl [4, 5, 6, 7, 8, 0] rfl)
                      · skip
                        exact absurd (by decide) c_68
                    · skip
                      rw [zcel_y (by omega) (by omega) hab]
                      refine lv_istore (lv' := [(8, .int (nI ((r * 8 + a) * 8 + q))), (7, .ref (za G (zob y3 q))), (6, .ref (za G (zob y3 a))), (0, .ref (za G 11)), (1, .ref (za G 1)), (2, .ref (za G b)), (3, .int (nI a)), (4, .int (nI q)), (5, .int (nI r))]) hx hb dX6_fill_54 hl (by decide) rfl (fun ls hl => ?_)
                      refine lv_aload hx hb dX6_fill_56 (lv_at hl 2 rfl) ?_
                      refine lv_ifnull hx hb dX6_fill_58 ?_
                      refine lv_aload hx hb dX6_fill_61 (lv_at hl 1 rfl) ?_
                      refine lv_ifnull hx hb dX6_fill_63 ?_
                      refine lv_iload hx hb dX6_fill_66 (lv_at hl 0 rfl) ?_
                      refine lv_if_lt (tgt := 107) hx hb dX6_fill_68 (by decide) (fun c_68 => ?_) (fun c_68 => ?_)
                      · skip
                        rw [show (0 : Int32) = nI 0 from rfl] at c_68; rw [zqL (by omega) (by omega)] at c_68
                        exact absurd c_68 (by omega)
                      · skip
                        rw [show (0 : Int32) = nI 0 from rfl] at c_68; rw [zqL (by omega) (by omega)] at c_68
                        refine lv_aload_n hx hb dX6_fill_71 rfl (lv_at hl 3 rfl) ?_
                        refine z_get (C := RX6) (T := TX6) (N := 8) (ci := 6) (v := .ref (za G 12)) hx hb hts hin6 hown hK hI (zo11 hG) rfl 0 (by decide) wF9 (fun _ h9 => h9) rfl dX6_fill_72 ?_
                        refine lv_iload hx hb dX6_fill_75 (lv_at hl 0 rfl) ?_
                        refine lv_aload_n hx hb dX6_fill_77 rfl (lv_at hl 5 rfl) ?_
                        refine lv_aload hx hb dX6_fill_78 (lv_at hl 2 rfl) ?_
                        refine lv_aload hx hb dX6_fill_80 (lv_at hl 1 rfl) ?_
                        refine lv_iload hx hb dX6_fill_82 (lv_at hl 8 rfl) ?_
                        refine lv_aload_n hx hb dX6_fill_84 rfl (lv_at hl 4 rfl) ?_
                        refine z_calli (va_runV (As := [.ref (za G (zob y3 a)), .ref (za G (zob y3 q)), .int (nI r), .ref (za G 1)]) (rest := [.int (nI ((r * 8 + a) * 8 + q)), .ref (za G 12)]) ⟨hx, hb, hml, hown, hts⟩ ((c_X5_worth l hG y3 N b a q C (nI r) hny hb0 haN hqN hry) A) (cwV 4 hts gX6_fill_X5_worth rfl rfl rfl (by decide +kernel) ⟨Nat.le_of_ble_eq_true rfl, Nat.le_of_ble_eq_true rfl⟩) (z_pV hI hK hN (z_recv hK hI (zor hG hb0) rfl)) rfl rfl hl.1 rfl (lv_room (Nat.le_of_ble_eq_true rfl)) dX6_fill_85 ⟨Nat.zero_le _, Nat.zero_le _⟩) hI (fun r_85 u H locs hw hI => ?_)
                        obtain ⟨rfl, rfl⟩ := hw
                        have hv9 := zVw_l (G := G) (row := nI r) kQ hb0 hn hro haN hqN
                        rw [hv9]
                        refine z_iast (y := (zVw G x N b C a q (nI r))) hx hb hK hI (zo12 hG) ((r * 8 + a) * 8 + q) rfl (by omega) (by decide) dX6_fill_88 (fun H locs hI => ?_)
                        refine lv_aload_n hx hb dX6_fill_89 rfl (lv_at hl 3 rfl) ?_
                        refine z_get (C := RX6) (T := TX6) (N := 8) (ci := 6) (v := .ref (za G 13)) hx hb hts hin6 hown hK hI (zo11 hG) rfl 1 (by decide) wF15 (fun _ h9 => h9) rfl dX6_fill_90 ?_
                        refine lv_iload hx hb dX6_fill_93 (lv_at hl 0 rfl) ?_
                        refine lv_aload_n hx hb dX6_fill_95 rfl (lv_at hl 5 rfl) ?_
                        refine lv_aload hx hb dX6_fill_96 (lv_at hl 2 rfl) ?_
                        refine lv_aload hx hb dX6_fill_98 (lv_at hl 1 rfl) ?_
                        refine lv_iload hx hb dX6_fill_100 (lv_at hl 8 rfl) ?_
                        refine lv_aload_n hx hb dX6_fill_102 rfl (lv_at hl 4 rfl) ?_
                        have hQ4 : zQ6 b x (zsI (zlook y3 b a q (nI r)) 12 ((r * 8 + a) * 8 + q) (zVw G x N b C a q (nI r))) := (kQ.t zQ6.l).t (zQ6.s (Or.inl rfl))
                        have hn4 : zNow G (zsI (zlook y3 b a q (nI r)) 12 ((r * 8 + a) * 8 + q) (zVw G x N b C a q (nI r))) N := zNow_q hQ4 hb0 hn
                        have hr4 : zRo (zsI (zlook y3 b a q (nI r)) 12 ((r * 8 + a) * 8 + q) (zVw G x N b C a q (nI r))) b C := zRo_q hQ4 hb0 hro
                        refine z_calli (va_runV (As := [.ref (za G (zob y3 a)), .ref (za G (zob y3 q)), .int (nI r), .ref (za G 1)]) (rest := [.int (nI ((r * 8 + a) * 8 + q)), .ref (za G 13)]) ⟨hx, hb, hml, hown, hts⟩ ((c_X5_isBarred l hG (zsI (zlook y3 b a q (nI r)) 12 ((r * 8 + a) * 8 + q) (zVw G x N b C a q (nI r))) N b a q C (nI r) hn4 hb0 haN hqN hr4) A) (cwV 4 hts gX6_fill_X5_isBarred rfl rfl rfl (by decide +kernel) ⟨Nat.le_of_ble_eq_true rfl, Nat.le_of_ble_eq_true rfl⟩) (z_pV hI hK hN (z_recv hK hI (zor hG hb0) rfl)) rfl rfl hl.1 rfl (lv_room (Nat.le_of_ble_eq_true rfl)) dX6_fill_103 ⟨Nat.zero_le _, Nat.zero_le _⟩) hI (fun r_103 u H locs hw hI => ?_)
                        obtain ⟨hQ5, e12, e13, e14, rfl⟩ := zbar_of hQ4 hb0 hn hro haN hqN hw
                        refine z_zast (y := (if zVb x b C a q (nI r) then nI 1 else nI 0)) hx hb hK hI (zo13 hG) ((r * 8 + a) * 8 + q) rfl (by omega) (by decide) (zb01 _) dX6_fill_106 (fun H locs hI => ?_)
                        refine lv_iinc (v := (nI (r + 1))) (lv' := [(5, .int (nI (r + 1))), (8, .int (nI ((r * 8 + a) * 8 + q))), (7, .ref (za G (zob y3 q))), (6, .ref (za G (zob y3 a))), (0, .ref (za G 11)), (1, .ref (za G 1)), (2, .ref (za G b)), (3, .int (nI a)), (4, .int (nI q))]) hx hb dX6_fill_107 hl (k := 8) rfl (zinc r) (by decide) rfl (fun ls hl => ?_)
                        refine lv_goto (tgt := 25) hx hb dX6_fill_110 (by decide) ?_
                        exact ih25 (r + 1) (zsI u 13 ((r * 8 + a) * 8 + q) (if zVb x b C a q (nI r) then nI 1 else nI 0)) (by omega) (hQ5.t (zQ6.s (Or.inr (Or.inl rfl)))) (zFl.s h8 haN hqN (by omega) kF (by rw [zsI_n (by decide), e12, zsI_u, zlook_n (by omega)]) (by rw [zsI_u, e13, zsI_n (by decide), zlook_n (by omega)])) (by omega) _ _ hI ls (lv_sub hl [4, 5, 6, 7, 8, 0] rfl)
              exact L25 (3) 0 y2 (by omega) gQ gF (by omega) _ _ hI ls (lv_sub hl [1, 2, 3, 4, 5, 0] rfl)
        exact L13 (N + 1) 0 y (by omega) hQ hF (by omega) _ _ hI ls (lv_sub hl [1, 2, 3, 4, 0] rfl)
  exact L2 (N + 1) 0 x (by omega) zQ6.r zFl.z (by omega) _ _ hI ls (lv_sub hl [1, 2, 3, 0] rfl)
