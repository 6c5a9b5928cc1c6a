set_option maxHeartbeats 1000000 in
set_option maxRecDepth 100000 in
theorem c_X12_month (l : Launch) {G : zG} (hG : zOK G) (x : zX) (N : Nat) (hr0 : zRef x N) : zMi l yX12_month wsX12_month { frames := 1, cells := 0, slots := 0, locals := 22 } G [.ref (za G 77)] x (fun (r : Int32) (u : zX) => zsI (zms x 4).1 77 1 ((zms x 4).1.1 77 1 + (zms x 4).2) = u ∧ (zms x 4).2 = r) := by
  intro A
  refine zBody (cc := cX12_month) (maxL := 4) (ret := (some .int)) (by decide) rfl (Nat.le_of_ble_eq_true rfl) ?_
  intro p e s m below meth c hx hb hml hown hts hr hlocks hK hN hI ls hl
  have hown : s.vm.findClass RX12 = some m.cls := hown
  have hl : lv_has ls 4 [(0, .ref (za G 77))] := hl
  have hin12 : ∀ w ∈ wsX120, w ∈ wsX12_month := (fun _ h => List.mem_cons_of_mem _ (List.mem_append_right _ (h)))
  have wF13 := hts (.fieldLink RX12 13 "WhoSitsByModel" "down" "I") (z_mem 3 rfl)
  have wF38 := hts (.fieldLink RX12 38 "WhoSitsByModel" "sitter" "[I") (z_mem 1 rfl)
  have wF45 := hts (.fieldLink RX12 45 "WhoSitsByModel" "isDown" "[Z") (z_mem 2 rfl)
  have h8 := hr0.1
  refine lv_iconst (v := (nI 0)) hx hb dX12_month_0 rfl ?_
  refine lv_istore_n (lv' := [(1, .int (nI 0)), (0, .ref (za G 77))]) hx hb dX12_month_1 rfl hl (by decide) rfl (fun ls hl => ?_)
  refine lv_iconst (v := (nI 0)) hx hb dX12_month_2 rfl ?_
  refine lv_istore_n (lv' := [(2, .int (nI 0)), (1, .int (nI 0)), (0, .ref (za G 77))]) hx hb dX12_month_3 rfl hl (by decide) rfl (fun ls hl => ?_)
  have L4 : ∀ (f : Nat) (j : Nat) (d : Nat) (a : Int32) (u : zX), (j = 2 * d) → (d ≤ 4) → (zms x d = (u, a)) → (u.1 85 = x.1 85) → 5 ≤ d + f → ∀ (H : Heap) (locs : List Loc), zI G u A s.heap H locs → ∀ ls : Array Slot, lv_has ls 4 [(0, .ref (za G 77)), (1, .int a), (2, .int (nI j))] → W p l e { frames := 1, cells := 0, slots := 0, locals := 22 } s m ([.ref (za G 77)] : List Value).toArray below meth c H locs 0 0 (MQ below (va_Qi (fun (r : Int32) (u : zX) => zsI (zms x 4).1 77 1 ((zms x 4).1.1 77 1 + (zms x 4).2) = u ∧ (zms x 4).2 = r) (fun u t => zJ G u A t.heap) A) ([.ref (za G 77)] : List Value).toArray s 0 0 A) (F0 m 4 ls []) := by
    intro f
    induction f with
    | zero =>
      intro j d a u h0 h1 hst ho hf
      exact absurd hf (by omega)
    | succ f ih =>
      intro j d a u h0 h1 hst ho hf H locs hI ls hl
      subst h0
      have ih4 := ih
      refine lv_iload_n hx hb dX12_month_4 rfl (lv_at hl 2 rfl) ?_
      refine lv_bipush (v := (nI 8)) hx hb dX12_month_5 rfl ?_
      refine lv_icmp_ge (tgt := 82) hx hb dX12_month_7 (by decide) (fun c_7 => ?_) (fun c_7 => ?_)
      · skip
        rw [zqG (by omega) (by omega)] at c_7
        refine lv_aload_n hx hb dX12_month_82 rfl (lv_at hl 0 rfl) ?_
        refine lv_dup hx hb dX12_month_83 rfl ?_
        refine z_get (C := RX12) (T := TX12) (N := 51) (ci := 12) (v := .int (u.1 77 1)) hx hb hts hin12 hown hK hI (zo77 hG) rfl 1 (by decide) wF13 (fun _ h9 => h9) rfl dX12_month_84 ?_
        refine lv_iload_n hx hb dX12_month_87 rfl (lv_at hl 1 rfl) ?_
        refine lv_iadd hx hb dX12_month_88 ?_
        refine z_putI (C := RX12) (T := TX12) (N := 51) (ci := 12) (ty := .int) hx hb hts hin12 tyX12 tyX12_ok nmX12 hown hK hI (zo77 hG) rfl 1 (by decide) wF13 (fun _ h9 => h9) rfl (fun _ _ => rfl) (by decide +kernel) rfl rfl (fun _ _ => Nat.le_of_ble_eq_true rfl) dX12_month_89 (fun H locs hI => ?_)
        refine lv_iload_n hx hb dX12_month_92 rfl (lv_at hl 1 rfl) ?_
        exact z_iret hx hb hr hlocks hI (⟨by rw [show 4 = d by omega, hst], by rw [show 4 = d by omega, hst]⟩) dX12_month_93
      · skip
        rw [zqG (by omega) (by omega)] at c_7
        rcases hr0.2.2.2.1 (2 * d) (by omega) with hA | ⟨qa, hqa, hA⟩
        · skip
          refine lv_aload_n hx hb dX12_month_10 rfl (lv_at hl 0 rfl) ?_
          refine z_get (C := RX12) (T := TX12) (N := 51) (ci := 12) (v := .ref (za G 85)) hx hb hts hin12 hown hK hI (zo77 hG) rfl 9 (by decide) wF38 (fun _ h9 => h9) rfl dX12_month_11 ?_
          refine lv_iload_n hx hb dX12_month_14 rfl (lv_at hl 2 rfl) ?_
          refine z_iald (v := (-1)) hx hb hK hI (zo85 hG) (2 * d) rfl (by omega) (by decide) ((congrFun ho _).trans hA) dX12_month_15 ?_
          refine lv_if_lt (tgt := 76) hx hb dX12_month_16 (by decide) (fun c_16 => ?_) (fun c_16 => ?_)
          · skip
            refine lv_iinc (v := (nI ((2 * d) + 2))) (lv' := [(2, .int (nI ((2 * d) + 2))), (0, .ref (za G 77)), (1, .int a)]) hx hb dX12_month_76 hl (k := 2) rfl (zincN (2 * d) 2) (by decide) rfl (fun ls hl => ?_)
            refine lv_goto (tgt := 4) hx hb dX12_month_79 (by decide) ?_
            exact ih4 ((2 * d) + 2) (d + 1) a u (by omega) (by omega) (by rw [zms, hst]; exact zmst_0 (Or.inl hA)) ho (by omega) _ _ hI ls (lv_sub hl [1, 2, 0] rfl)
          · skip
            exact absurd (by decide) c_16
        · skip
          refine lv_aload_n hx hb dX12_month_10 rfl (lv_at hl 0 rfl) ?_
          refine z_get (C := RX12) (T := TX12) (N := 51) (ci := 12) (v := .ref (za G 85)) hx hb hts hin12 hown hK hI (zo77 hG) rfl 9 (by decide) wF38 (fun _ h9 => h9) rfl dX12_month_11 ?_
          refine lv_iload_n hx hb dX12_month_14 rfl (lv_at hl 2 rfl) ?_
          refine z_iald (v := (nI qa)) hx hb hK hI (zo85 hG) (2 * d) rfl (by omega) (by decide) ((congrFun ho _).trans hA) dX12_month_15 ?_
          refine lv_if_lt (tgt := 76) hx hb dX12_month_16 (by decide) (fun c_16 => ?_) (fun c_16 => ?_)
          · skip
            rw [show (0 : Int32) = nI 0 from rfl] at c_16; rw [zqL (by omega) (by omega)] at c_16
            exact absurd c_16 (by omega)
          · skip
            rw [show (0 : Int32) = nI 0 from rfl] at c_16; rw [zqL (by omega) (by omega)] at c_16
            rcases hr0.2.2.2.1 (2 * d + 1) (by omega) with hB | ⟨qb, hqb, hB⟩
            · skip
              refine lv_aload_n hx hb dX12_month_19 rfl (lv_at hl 0 rfl) ?_
              refine z_get (C := RX12) (T := TX12) (N := 51) (ci := 12) (v := .ref (za G 85)) hx hb hts hin12 hown hK hI (zo77 hG) rfl 9 (by decide) wF38 (fun _ h9 => h9) rfl dX12_month_20 ?_
              refine lv_iload_n hx hb dX12_month_23 rfl (lv_at hl 2 rfl) ?_
              refine lv_iconst (v := (nI 1)) hx hb dX12_month_24 rfl ?_
              refine z_iadd (v := (nI ((2 * d) + 1))) hx hb (nI_add _ _) dX12_month_25 ?_
              refine z_iald (v := (-1)) hx hb hK hI (zo85 hG) ((2 * d) + 1) rfl (by omega) (by decide) ((congrFun ho _).trans hB) dX12_month_26 ?_
              refine lv_if_ge (tgt := 33) hx hb dX12_month_27 (by decide) (fun c_27 => ?_) (fun c_27 => ?_)
              · skip
                exact absurd c_27 (by decide)
              · skip
                refine lv_goto (tgt := 76) hx hb dX12_month_30 (by decide) ?_
                refine lv_iinc (v := (nI ((2 * d) + 2))) (lv' := [(2, .int (nI ((2 * d) + 2))), (0, .ref (za G 77)), (1, .int a)]) hx hb dX12_month_76 hl (k := 2) rfl (zincN (2 * d) 2) (by decide) rfl (fun ls hl => ?_)
                refine lv_goto (tgt := 4) hx hb dX12_month_79 (by decide) ?_
                exact ih4 ((2 * d) + 2) (d + 1) a u (by omega) (by omega) (by rw [zms, hst]; exact zmst_0 (Or.inr hB)) ho (by omega) _ _ hI ls (lv_sub hl [1, 2, 0] rfl)
            · skip
              refine lv_aload_n hx hb dX12_month_19 rfl (lv_at hl 0 rfl) ?_
              refine z_get (C := RX12) (T := TX12) (N := 51) (ci := 12) (v := .ref (za G 85)) hx hb hts hin12 hown hK hI (zo77 hG) rfl 9 (by decide) wF38 (fun _ h9 => h9) rfl dX12_month_20 ?_
              refine lv_iload_n hx hb dX12_month_23 rfl (lv_at hl 2 rfl) ?_
              refine lv_iconst (v := (nI 1)) hx hb dX12_month_24 rfl ?_
              refine z_iadd (v := (nI ((2 * d) + 1))) hx hb (nI_add _ _) dX12_month_25 ?_
              refine z_iald (v := (nI qb)) hx hb hK hI (zo85 hG) ((2 * d) + 1) rfl (by omega) (by decide) ((congrFun ho _).trans hB) dX12_month_26 ?_
              refine lv_if_ge (tgt := 33) hx hb dX12_month_27 (by decide) (fun c_27 => ?_) (fun c_27 => ?_)
              · skip
                rw [show (0 : Int32) = nI 0 from rfl] at c_27; rw [zqG (by omega) (by omega)] at c_27
                refine lv_aload_n hx hb dX12_month_33 rfl (lv_at hl 0 rfl) ?_
                refine lv_aload_n hx hb dX12_month_34 rfl (lv_at hl 0 rfl) ?_
                refine z_get (C := RX12) (T := TX12) (N := 51) (ci := 12) (v := .ref (za G 85)) hx hb hts hin12 hown hK hI (zo77 hG) rfl 9 (by decide) wF38 (fun _ h9 => h9) rfl dX12_month_35 ?_
                refine lv_iload_n hx hb dX12_month_38 rfl (lv_at hl 2 rfl) ?_
                refine z_iald (v := (nI qa)) hx hb hK hI (zo85 hG) (2 * d) rfl (by omega) (by decide) ((congrFun ho _).trans hA) dX12_month_39 ?_
                refine lv_aload_n hx hb dX12_month_40 rfl (lv_at hl 0 rfl) ?_
                refine z_get (C := RX12) (T := TX12) (N := 51) (ci := 12) (v := .ref (za G 85)) hx hb hts hin12 hown hK hI (zo77 hG) rfl 9 (by decide) wF38 (fun _ h9 => h9) rfl dX12_month_41 ?_
                refine lv_iload_n hx hb dX12_month_44 rfl (lv_at hl 2 rfl) ?_
                refine lv_iconst (v := (nI 1)) hx hb dX12_month_45 rfl ?_
                refine z_iadd (v := (nI ((2 * d) + 1))) hx hb (nI_add _ _) dX12_month_46 ?_
                refine z_iald (v := (nI qb)) hx hb hK hI (zo85 hG) ((2 * d) + 1) rfl (by omega) (by decide) ((congrFun ho _).trans hB) dX12_month_47 ?_
                refine z_calli (va_runV (As := [.int (nI qa), .int (nI qb)]) (rest := []) ⟨hx, hb, hml, hown, hts⟩ ((c_X12_pairOf l hG u qa qb (by omega) (by omega)) A) (cwV 2 hts gX12_month_X12_pairOf rfl rfl rfl (by decide +kernel) ⟨Nat.le_of_ble_eq_true rfl, Nat.le_of_ble_eq_true rfl⟩) (z_pV hI hK hN (z_recv hK hI (zo77 hG) rfl)) rfl rfl hl.1 rfl (lv_room (Nat.le_of_ble_eq_true rfl)) dX12_month_48 ⟨Nat.zero_le _, Nat.zero_le _⟩) hI (fun r_48 u H locs hw hI => ?_)
                obtain ⟨rfl, rfl⟩ := hw
                refine lv_istore_n (lv' := [(3, .int (nI (zpo qa qb))), (0, .ref (za G 77)), (1, .int a), (2, .int (nI (2 * d)))]) hx hb dX12_month_51 rfl hl (by decide) rfl (fun ls hl => ?_)
                refine lv_iload_n hx hb dX12_month_52 rfl (lv_at hl 2 rfl) ?_
                refine lv_aload_n hx hb dX12_month_53 rfl (lv_at hl 1 rfl) ?_
                refine z_get (C := RX12) (T := TX12) (N := 51) (ci := 12) (v := .ref (za G 87)) hx hb hts hin12 hown hK hI (zo77 hG) rfl 11 (by decide) wF45 (fun _ h9 => h9) rfl dX12_month_54 ?_
                refine lv_iload_n hx hb dX12_month_57 rfl (lv_at hl 0 rfl) ?_
                refine z_zald (v := (u.1 87 (zpo qa qb))) hx hb hK hI (zo87 hG) (zpo qa qb) rfl (zpo_b (by omega) (by omega)) (by decide) rfl dX12_month_58 ?_
                refine lv_if_eq (tgt := 66) hx hb dX12_month_59 (by decide) (fun c_59 => ?_) (fun c_59 => ?_)
                · skip
                  refine lv_iconst (v := (nI 1)) hx hb dX12_month_66 rfl ?_
                  refine lv_iadd hx hb dX12_month_67 ?_
                  refine lv_istore_n (lv' := [(1, .int (a + (nI 1))), (3, .int (nI (zpo qa qb))), (0, .ref (za G 77)), (2, .int (nI (2 * d)))]) hx hb dX12_month_68 rfl hl (by decide) rfl (fun ls hl => ?_)
                  refine lv_aload_n hx hb dX12_month_69 rfl (lv_at hl 2 rfl) ?_
                  refine z_get (C := RX12) (T := TX12) (N := 51) (ci := 12) (v := .ref (za G 87)) hx hb hts hin12 hown hK hI (zo77 hG) rfl 11 (by decide) wF45 (fun _ h9 => h9) rfl dX12_month_70 ?_
                  refine lv_iload_n hx hb dX12_month_73 rfl (lv_at hl 1 rfl) ?_
                  refine lv_iconst (v := (nI 1)) hx hb dX12_month_74 rfl ?_
                  refine z_zast (y := (nI 1)) hx hb hK hI (zo87 hG) (zpo qa qb) rfl (zpo_b (by omega) (by omega)) (by decide) (by decide) dX12_month_75 (fun H locs hI => ?_)
                  refine lv_iinc (v := (nI ((2 * d) + 2))) (lv' := [(2, .int (nI ((2 * d) + 2))), (1, .int (a + (nI 1))), (3, .int (nI (zpo qa qb))), (0, .ref (za G 77))]) hx hb dX12_month_76 hl (k := 3) rfl (zincN (2 * d) 2) (by decide) rfl (fun ls hl => ?_)
                  refine lv_goto (tgt := 4) hx hb dX12_month_79 (by decide) ?_
                  exact ih4 ((2 * d) + 2) (d + 1) (a + (nI 1)) (zsI u 87 (zpo qa qb) (nI 1)) (by omega) (by omega) (by rw [zms, hst]; exact zmst_v hA hB (by omega) (by omega) (if_pos c_59)) (by rw [zsI_n (by decide)]; exact ho) (by omega) _ _ hI ls (lv_sub hl [3, 1, 0] rfl)
                · skip
                  refine lv_iconst (v := (nI 0)) hx hb dX12_month_62 rfl ?_
                  refine lv_goto (tgt := 67) hx hb dX12_month_63 (by decide) ?_
                  refine lv_iadd hx hb dX12_month_67 ?_
                  refine lv_istore_n (lv' := [(1, .int (a + (nI 0))), (3, .int (nI (zpo qa qb))), (0, .ref (za G 77)), (2, .int (nI (2 * d)))]) hx hb dX12_month_68 rfl hl (by decide) rfl (fun ls hl => ?_)
                  refine lv_aload_n hx hb dX12_month_69 rfl (lv_at hl 2 rfl) ?_
                  refine z_get (C := RX12) (T := TX12) (N := 51) (ci := 12) (v := .ref (za G 87)) hx hb hts hin12 hown hK hI (zo77 hG) rfl 11 (by decide) wF45 (fun _ h9 => h9) rfl dX12_month_70 ?_
                  refine lv_iload_n hx hb dX12_month_73 rfl (lv_at hl 1 rfl) ?_
                  refine lv_iconst (v := (nI 1)) hx hb dX12_month_74 rfl ?_
                  refine z_zast (y := (nI 1)) hx hb hK hI (zo87 hG) (zpo qa qb) rfl (zpo_b (by omega) (by omega)) (by decide) (by decide) dX12_month_75 (fun H locs hI => ?_)
                  refine lv_iinc (v := (nI ((2 * d) + 2))) (lv' := [(2, .int (nI ((2 * d) + 2))), (1, .int (a + (nI 0))), (3, .int (nI (zpo qa qb))), (0, .ref (za G 77))]) hx hb dX12_month_76 hl (k := 3) rfl (zincN (2 * d) 2) (by decide) rfl (fun ls hl => ?_)
                  refine lv_goto (tgt := 4) hx hb dX12_month_79 (by decide) ?_
                  exact ih4 ((2 * d) + 2) (d + 1) (a + (nI 0)) (zsI u 87 (zpo qa qb) (nI 1)) (by omega) (by omega) (by rw [zms, hst]; exact zmst_v hA hB (by omega) (by omega) (if_neg c_59)) (by rw [zsI_n (by decide)]; exact ho) (by omega) _ _ hI ls (lv_sub hl [3, 1, 0] rfl)
              · skip
                rw [show (0 : Int32) = nI 0 from rfl] at c_27; rw [zqG (by omega) (by omega)] at c_27
                exact absurd c_27 (by omega)
  exact L4 (5) 0 0 (nI 0) x (by omega) (by omega) rfl rfl (by omega) _ _ hI ls (lv_sub hl [2, 1, 0] rfl)
set_option maxHeartbeats 1000000 in
set_option maxRecDepth 100000 in
theorem c_X12_lacks (l : Launch) {G : zG} (hG : zOK G) (x : zX) (N : Nat) (w : Int32) (hr0 : zRef x N) : zMi l yX12_lacks wsX12_lacks { frames := 1, cells := 0, slots := 0, locals := 23 } G [.ref (za G 77), .int w] x (fun (r : Int32) (u : zX) => x = u ∧ (if ¬ w < nI 0 ∧ ¬ nI 1 < w then (if w = 0 then zlkR x N else if zlkR x N = 0 then nI 1 else nI 0) else -1) = r) := by
  intro A
  refine zBody (cc := cX12_lacks) (maxL := 5) (ret := (some .int)) (by decide) rfl (Nat.le_of_ble_eq_true rfl) ?_
  intro p e s m below meth c hx hb hml hown hts hr hlocks hK hN hI ls hl
  have hown : s.vm.findClass RX12 = some m.cls := hown
  have hl : lv_has ls 5 [(0, .ref (za G 77)), (1, .int w)] := hl
  have hin12 : ∀ w ∈ wsX120, w ∈ wsX12_lacks := (fun _ h => List.mem_cons_of_mem _ (List.mem_append_right _ (h)))
  have wF7 := hts (.fieldLink RX12 7 "WhoSitsByModel" "pupils" "I") (z_mem 1 rfl)
  have wF45 := hts (.fieldLink RX12 45 "WhoSitsByModel" "isDown" "[Z") (z_mem 2 rfl)
  have h8 := hr0.1
  refine lv_aload_n hx hb dX12_lacks_0 rfl (lv_at hl 0 rfl) ?_
  refine lv_iload_n hx hb dX12_lacks_1 rfl (lv_at hl 1 rfl) ?_
  refine lv_iconst (v := (nI 0)) hx hb dX12_lacks_2 rfl ?_
  refine lv_iconst (v := (nI 1)) hx hb dX12_lacks_3 rfl ?_
  refine z_calli (va_runV (As := [.int w, .int (nI 0), .int (nI 1)]) (rest := []) ⟨hx, hb, hml, hown, hts⟩ ((c_X12_in l hG x w (nI 0) (nI 1)) A) (cwV 3 hts gX12_lacks_X12_in rfl rfl rfl (by decide +kernel) ⟨Nat.le_of_ble_eq_true rfl, Nat.le_of_ble_eq_true rfl⟩) (z_pV hI hK hN (z_recv hK hI (zo77 hG) rfl)) rfl rfl hl.1 rfl (lv_room (Nat.le_of_ble_eq_true rfl)) dX12_lacks_4 ⟨Nat.zero_le _, Nat.zero_le _⟩) hI (fun r_4 u H locs hw hI => ?_)
  obtain ⟨rfl, rfl⟩ := hw
  refine lv_if_ne (tgt := 12) hx hb dX12_lacks_7 (by decide) (fun c_7 => ?_) (fun c_7 => ?_)
  · skip
    rw [zb_0, Classical.not_not] at c_7
    refine lv_iconst (v := (nI 0)) hx hb dX12_lacks_12 rfl ?_
    refine lv_istore_n (lv' := [(2, .int (nI 0)), (0, .ref (za G 77)), (1, .int w)]) hx hb dX12_lacks_13 rfl hl (by decide) rfl (fun ls hl => ?_)
    refine lv_iconst (v := (nI 0)) hx hb dX12_lacks_14 rfl ?_
    refine lv_istore_n (lv' := [(3, .int (nI 0)), (2, .int (nI 0)), (0, .ref (za G 77)), (1, .int w)]) hx hb dX12_lacks_15 rfl hl (by decide) rfl (fun ls hl => ?_)
    have L16 : ∀ (f : Nat) (i : Nat) (v : Int32), (i ≤ N) → (v = zsum (fun i => zsum (fun k => if x.1 87 (8 * i + (i + 1 + k)) = 0 then nI 1 else nI 0) (N - (i + 1))) i) → N + 1 ≤ i + f → ∀ (H : Heap) (locs : List Loc), zI G x A s.heap H locs → ∀ ls : Array Slot, lv_has ls 5 [(0, .ref (za G 77)), (1, .int w), (2, .int v), (3, .int (nI i))] → W p l e { frames := 1, cells := 0, slots := 0, locals := 23 } s m ([.ref (za G 77), .int w] : List Value).toArray below meth c H locs 0 0 (MQ below (va_Qi (fun (r : Int32) (u : zX) => x = u ∧ (if ¬ w < nI 0 ∧ ¬ nI 1 < w then (if w = 0 then zlkR x N else if zlkR x N = 0 then nI 1 else nI 0) else -1) = r) (fun u t => zJ G u A t.heap) A) ([.ref (za G 77), .int w] : List Value).toArray s 0 0 A) (F0 m 16 ls []) := by
      intro f
      induction f with
      | zero =>
        intro i v h1 h2 hf
        exact absurd hf (by omega)
      | succ f ih =>
        intro i v h1 h2 hf H locs hI ls hl
        have ih16 := ih
        refine lv_iload_n hx hb dX12_lacks_16 rfl (lv_at hl 3 rfl) ?_
        refine lv_aload_n hx hb dX12_lacks_17 rfl (lv_at hl 0 rfl) ?_
        refine z_get (C := RX12) (T := TX12) (N := 51) (ci := 12) (v := .int (nI N)) hx hb hts hin12 hown hK hI (zo77 hG) rfl 0 (by decide) wF7 (fun _ h9 => h9) (congrArg (fun q => some (Value.int q)) hr0.2.1) dX12_lacks_18 ?_
        refine lv_icmp_ge (tgt := 73) hx hb dX12_lacks_21 (by decide) (fun c_21 => ?_) (fun c_21 => ?_)
        · skip
          rw [zqG (by omega) (by omega)] at c_21
          refine lv_iload_n hx hb dX12_lacks_73 rfl (lv_at hl 1 rfl) ?_
          refine lv_if_ne (tgt := 81) hx hb dX12_lacks_74 (by decide) (fun c_74 => ?_) (fun c_74 => ?_)
          · skip
            refine lv_iload_n hx hb dX12_lacks_81 rfl (lv_at hl 2 rfl) ?_
            refine lv_if_ne (tgt := 89) hx hb dX12_lacks_82 (by decide) (fun c_82 => ?_) (fun c_82 => ?_)
            · skip
              refine lv_iconst (v := (nI 0)) hx hb dX12_lacks_89 rfl ?_
              exact z_iret hx hb hr hlocks hI (⟨rfl, by rw [if_pos c_7, if_neg c_74, ← (show v = zlkR x N by rw [h2, show i = N by omega]; rfl)]; exact if_neg c_82⟩) dX12_lacks_90
            · skip
              refine lv_iconst (v := (nI 1)) hx hb dX12_lacks_85 rfl ?_
              refine lv_goto (tgt := 90) hx hb dX12_lacks_86 (by decide) ?_
              exact z_iret hx hb hr hlocks hI (⟨rfl, by rw [if_pos c_7, if_neg c_74, ← (show v = zlkR x N by rw [h2, show i = N by omega]; rfl)]; exact if_pos c_82⟩) dX12_lacks_90
          · skip
            refine lv_iload_n hx hb dX12_lacks_77 rfl (lv_at hl 2 rfl) ?_
            refine lv_goto (tgt := 90) hx hb dX12_lacks_78 (by decide) ?_
            exact z_iret hx hb hr hlocks hI (⟨rfl, by rw [if_pos c_7, if_pos c_74, ← (show v = zlkR x N by rw [h2, show i = N by omega]; rfl)]⟩) dX12_lacks_90
        · skip
          rw [zqG (by omega) (by omega)] at c_21
          refine lv_iload_n hx hb dX12_lacks_24 rfl (lv_at hl 3 rfl) ?_
          refine lv_iconst (v := (nI 1)) hx hb dX12_lacks_25 rfl ?_
          refine z_iadd (v := (nI (i + 1))) hx hb (nI_add _ _) dX12_lacks_26 ?_
          refine lv_istore (lv' := [(4, .int (nI (i + 1))), (0, .ref (za G 77)), (1, .int w), (2, .int v), (3, .int (nI i))]) hx hb dX12_lacks_27 hl (by decide) rfl (fun ls hl => ?_)
          have L29 : ∀ (f : Nat) (b : Nat) (k4 : Nat) (v2 : Int32), (b = i + 1 + k4) → (b ≤ N) → (v2 = v + zsum (fun k => if x.1 87 (8 * i + (i + 1 + k)) = 0 then nI 1 else nI 0) k4) → N + 1 ≤ b + f → ∀ (H : Heap) (locs : List Loc), zI G x A s.heap H locs → ∀ ls : Array Slot, lv_has ls 5 [(0, .ref (za G 77)), (1, .int w), (2, .int v2), (3, .int (nI i)), (4, .int (nI b))] → W p l e { frames := 1, cells := 0, slots := 0, locals := 23 } s m ([.ref (za G 77), .int w] : List Value).toArray below meth c H locs 0 0 (MQ below (va_Qi (fun (r : Int32) (u : zX) => x = u ∧ (if ¬ w < nI 0 ∧ ¬ nI 1 < w then (if w = 0 then zlkR x N else if zlkR x N = 0 then nI 1 else nI 0) else -1) = r) (fun u t => zJ G u A t.heap) A) ([.ref (za G 77), .int w] : List Value).toArray s 0 0 A) (F0 m 29 ls []) := by
            intro f
            induction f with
            | zero =>
              intro b k4 v2 g0 g1 g2 hf
              exact absurd hf (by omega)
            | succ f ih =>
              intro b k4 v2 g0 g1 g2 hf H locs hI ls hl
              have ih29 := ih
              refine lv_iload hx hb dX12_lacks_29 (lv_at hl 4 rfl) ?_
              refine lv_aload_n hx hb dX12_lacks_31 rfl (lv_at hl 0 rfl) ?_
              refine z_get (C := RX12) (T := TX12) (N := 51) (ci := 12) (v := .int (nI N)) hx hb hts hin12 hown hK hI (zo77 hG) rfl 0 (by decide) wF7 (fun _ h9 => h9) (congrArg (fun q => some (Value.int q)) hr0.2.1) dX12_lacks_32 ?_
              refine lv_icmp_ge (tgt := 67) hx hb dX12_lacks_35 (by decide) (fun c_35 => ?_) (fun c_35 => ?_)
              · skip
                rw [zqG (by omega) (by omega)] at c_35
                refine lv_iinc (v := (nI (i + 1))) (lv' := [(3, .int (nI (i + 1))), (0, .ref (za G 77)), (1, .int w), (2, .int v2), (4, .int (nI b))]) hx hb dX12_lacks_67 hl (k := 3) rfl (zinc i) (by decide) rfl (fun ls hl => ?_)
                refine lv_goto (tgt := 16) hx hb dX12_lacks_70 (by decide) ?_
                exact ih16 (i + 1) v2 (by omega) (by rw [g2, h2, show k4 = N - (i + 1) by omega]; rfl) (by omega) _ _ hI ls (lv_sub hl [1, 2, 3, 0] rfl)
              · skip
                rw [zqG (by omega) (by omega)] at c_35
                refine lv_iload_n hx hb dX12_lacks_38 rfl (lv_at hl 2 rfl) ?_
                refine lv_aload_n hx hb dX12_lacks_39 rfl (lv_at hl 0 rfl) ?_
                refine z_get (C := RX12) (T := TX12) (N := 51) (ci := 12) (v := .ref (za G 87)) hx hb hts hin12 hown hK hI (zo77 hG) rfl 11 (by decide) wF45 (fun _ h9 => h9) rfl dX12_lacks_40 ?_
                refine lv_bipush (v := (nI 8)) hx hb dX12_lacks_43 rfl ?_
                refine lv_iload_n hx hb dX12_lacks_45 rfl (lv_at hl 3 rfl) ?_
                refine z_imul (v := (nI (8 * i))) hx hb (pk_mul _ _) dX12_lacks_46 ?_
                refine lv_iload hx hb dX12_lacks_47 (lv_at hl 4 rfl) ?_
                refine z_iadd (v := (nI ((8 * i) + b))) hx hb (nI_add _ _) dX12_lacks_49 ?_
                refine z_zald (v := (x.1 87 ((8 * i) + b))) hx hb hK hI (zo87 hG) ((8 * i) + b) rfl (by omega) (by decide) rfl dX12_lacks_50 ?_
                refine lv_if_eq (tgt := 58) hx hb dX12_lacks_51 (by decide) (fun c_51 => ?_) (fun c_51 => ?_)
                · skip
                  refine lv_iconst (v := (nI 1)) hx hb dX12_lacks_58 rfl ?_
                  refine lv_iadd hx hb dX12_lacks_59 ?_
                  refine lv_istore_n (lv' := [(2, .int (v2 + (nI 1))), (0, .ref (za G 77)), (1, .int w), (3, .int (nI i)), (4, .int (nI b))]) hx hb dX12_lacks_60 rfl hl (by decide) rfl (fun ls hl => ?_)
                  refine lv_iinc (v := (nI (b + 1))) (lv' := [(4, .int (nI (b + 1))), (2, .int (v2 + (nI 1))), (0, .ref (za G 77)), (1, .int w), (3, .int (nI i))]) hx hb dX12_lacks_61 hl (k := 4) rfl (zinc b) (by decide) rfl (fun ls hl => ?_)
                  refine lv_goto (tgt := 29) hx hb dX12_lacks_64 (by decide) ?_
                  exact ih29 (b + 1) (k4 + 1) (v2 + (nI 1)) (by omega) (by omega) (zsum_t2 g2 (by rw [← g0]; exact if_pos c_51)) (by omega) _ _ hI ls (lv_sub hl [2, 3, 1, 4, 0] rfl)
                · skip
                  refine lv_iconst (v := (nI 0)) hx hb dX12_lacks_54 rfl ?_
                  refine lv_goto (tgt := 59) hx hb dX12_lacks_55 (by decide) ?_
                  refine lv_iadd hx hb dX12_lacks_59 ?_
                  refine lv_istore_n (lv' := [(2, .int (v2 + (nI 0))), (0, .ref (za G 77)), (1, .int w), (3, .int (nI i)), (4, .int (nI b))]) hx hb dX12_lacks_60 rfl hl (by decide) rfl (fun ls hl => ?_)
                  refine lv_iinc (v := (nI (b + 1))) (lv' := [(4, .int (nI (b + 1))), (2, .int (v2 + (nI 0))), (0, .ref (za G 77)), (1, .int w), (3, .int (nI i))]) hx hb dX12_lacks_61 hl (k := 4) rfl (zinc b) (by decide) rfl (fun ls hl => ?_)
                  refine lv_goto (tgt := 29) hx hb dX12_lacks_64 (by decide) ?_
                  exact ih29 (b + 1) (k4 + 1) (v2 + (nI 0)) (by omega) (by omega) (zsum_t2 g2 (by rw [← g0]; exact if_neg c_51)) (by omega) _ _ hI ls (lv_sub hl [2, 3, 1, 4, 0] rfl)
          exact L29 (N + 1) (i + 1) 0 v (by omega) (by omega) (Int32.add_zero _).symm (by omega) _ _ hI ls (lv_sub hl [1, 2, 3, 4, 0] rfl)
    exact L16 (N + 1) 0 (nI 0) (by omega) rfl (by omega) _ _ hI ls (lv_sub hl [2, 3, 1, 0] rfl)
  · skip
    rw [zb_0] at c_7
    refine lv_iconst (v := (-1)) hx hb dX12_lacks_10 rfl ?_
    exact z_iret hx hb hr hlocks hI (⟨rfl, if_neg c_7⟩) dX12_lacks_11
