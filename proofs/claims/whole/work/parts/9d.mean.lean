set_option maxHeartbeats 1000000 in
set_option maxRecDepth 100000 in
theorem c_X12_mean (l : Launch) {G : zG} (hG : zOK G) (x : zX) (N F C : Nat) (k : Int32) (hr0 : zRef x N) (hcs : zCls x F C) (hkd : zKd x N) : zMl l yX12_mean wsX12_mean { frames := 4, cells := 0, slots := 0, locals := 104 } G [.ref (za G 77), .int k] x (fun (r : Int64) (u : zX) => (¬ (¬ k < nI 0 ∧ ¬ nI 1 < k) ∧ x = u ∧ (-9223372036854775808) = r) ∨ ((¬ k < nI 0 ∧ ¬ nI 1 < k) ∧ zQ97 x u ∧ (if k = 0 then zamR x N F C / (zgcd 16 (if zamR x N F C < 0 then -(zamR x N F C) else zamR x N F C) 14) else 14 / (zgcd 16 (if zamR x N F C < 0 then -(zamR x N F C) else zamR x N F C) 14)) = r)) := by
  intro A
  refine zBody (cc := cX12_mean) (maxL := 7) (ret := (some .long)) (by decide) rfl (Nat.le_of_ble_eq_true rfl) ?_
  intro p e s m below meth c hx hb hml hown hts hr hlocks hK hN hI ls hl
  have hown : s.vm.findClass RX12 = some m.cls := hown
  have hl : lv_has ls 7 [(0, .ref (za G 77)), (1, .int k)] := hl
  have hin12 : ∀ w ∈ wsX120, w ∈ wsX12_mean := (fun _ h => List.mem_cons_of_mem _ (List.mem_append_right _ (h)))
  have wF7 := hts (.fieldLink RX12 7 "WhoSitsByModel" "pupils" "I") (z_mem 2 rfl)
  have wK324 := hts (.constantLong RX12 324 (14)) (z_mem 3 rfl)
  have wK322 := hts (.constantLong RX12 322 (-9223372036854775808)) (z_mem 1 rfl)
  have h8 := hr0.1
  refine lv_aload_n hx hb dX12_mean_0 rfl (lv_at hl 0 rfl) ?_
  refine lv_iload_n hx hb dX12_mean_1 rfl (lv_at hl 1 rfl) ?_
  refine lv_iconst (v := (nI 0)) hx hb dX12_mean_2 rfl ?_
  refine lv_iconst (v := (nI 1)) hx hb dX12_mean_3 rfl ?_
  refine z_calli (va_runV (As := [.int k, .int (nI 0), .int (nI 1)]) (rest := []) ⟨hx, hb, hml, hown, hts⟩ ((c_X12_in l hG x k (nI 0) (nI 1)) A) (cwV 3 hts gX12_mean_X12_in rfl rfl rfl (by decide +kernel) ⟨Nat.le_of_ble_eq_true rfl, Nat.le_of_ble_eq_true rfl⟩) (z_pV hI hK hN (z_recv hK hI (zo77 hG) rfl)) rfl rfl hl.1 rfl (lv_room (Nat.le_of_ble_eq_true rfl)) dX12_mean_4 ⟨Nat.zero_le _, Nat.zero_le _⟩) hI (fun r_4 u H locs hw hI => ?_)
  obtain ⟨rfl, rfl⟩ := hw
  refine lv_if_ne (tgt := 14) hx hb dX12_mean_7 (by decide) (fun c_7 => ?_) (fun c_7 => ?_)
  · skip
    rw [zb_0, Classical.not_not] at c_7
    refine lv_lconst (v := 0) hx hb dX12_mean_14 rfl ?_
    refine lv_lstore_n (lv' := [(2, .long 0), (0, .ref (za G 77)), (1, .int k)]) hx hb dX12_mean_15 rfl hl (by decide) rfl (fun ls hl => ?_)
    refine lv_iconst (v := (nI 0)) hx hb dX12_mean_16 rfl ?_
    refine lv_istore (lv' := [(4, .int (nI 0)), (2, .long 0), (0, .ref (za G 77)), (1, .int k)]) hx hb dX12_mean_17 hl (by decide) rfl (fun ls hl => ?_)
    have L19 : ∀ (f : Nat) (a : Nat) (v : Int64) (y : zX), (a ≤ N) → (v = zsml (fun aa => zsml (fun bb => zsml (fun rr => if aa = bb then 0 else (zpwR x N F C aa bb (nI rr)).toInt64) 2) N) a) → (zQ97 x y) → N + 1 ≤ a + f → ∀ (H : Heap) (locs : List Loc), zI G y A s.heap H locs → ∀ ls : Array Slot, lv_has ls 7 [(0, .ref (za G 77)), (1, .int k), (2, .long v), (4, .int (nI a))] → W p l e { frames := 4, cells := 0, slots := 0, locals := 104 } s m ([.ref (za G 77), .int k] : List Value).toArray below meth c H locs 0 0 (MQ below (va_Ql (fun (r : Int64) (u : zX) => (¬ (¬ k < nI 0 ∧ ¬ nI 1 < k) ∧ x = u ∧ (-9223372036854775808) = r) ∨ ((¬ k < nI 0 ∧ ¬ nI 1 < k) ∧ zQ97 x u ∧ (if k = 0 then zamR x N F C / (zgcd 16 (if zamR x N F C < 0 then -(zamR x N F C) else zamR x N F C) 14) else 14 / (zgcd 16 (if zamR x N F C < 0 then -(zamR x N F C) else zamR x N F C) 14)) = r)) (fun u t => zJ G u A t.heap) A) ([.ref (za G 77), .int k] : List Value).toArray s 0 0 A) (F0 m 19 ls []) := by
      intro f
      induction f with
      | zero =>
        intro a v y h1 h2 hQ hf
        exact absurd hf (by omega)
      | succ f ih =>
        intro a v y h1 h2 hQ hf H locs hI ls hl
        have hn0 : y.1 77 0 = nI N := (zRef_q hQ.q9 hr0).2.1
        have ih19 := ih
        refine lv_iload hx hb dX12_mean_19 (lv_at hl 3 rfl) ?_
        refine lv_aload_n hx hb dX12_mean_21 rfl (lv_at hl 0 rfl) ?_
        refine z_get (C := RX12) (T := TX12) (N := 51) (ci := 12) (v := .int (nI N)) hx hb hts hin12 hown hK hI (zo77 hG) rfl 0 (by decide) wF7 (fun _ h9 => h9) (congrArg (fun q => some (Value.int q)) hn0) dX12_mean_22 ?_
        refine lv_icmp_ge (tgt := 88) hx hb dX12_mean_25 (by decide) (fun c_25 => ?_) (fun c_25 => ?_)
        · skip
          rw [zqG (by omega) (by omega)] at c_25
          rw [show a = N by omega] at h2
          refine lv_aload_n hx hb dX12_mean_88 rfl (lv_at hl 0 rfl) ?_
          refine lv_lload_n hx hb dX12_mean_89 rfl (lv_at hl 2 rfl) ?_
          refine lv_ldc2 (v := (14)) hx hb hown wK324 dX12_mean_90 ?_
          refine z_calll (va_runV (As := [.long v, .long (14)]) (rest := []) ⟨hx, hb, hml, hown, hts⟩ ((c_X12_divisor l hG y v (zabs_ok (by rw [h2]; exact zamR_b h8))) A) (cwV 2 hts gX12_mean_X12_divisor rfl rfl rfl (by decide +kernel) ⟨Nat.le_of_ble_eq_true rfl, Nat.le_of_ble_eq_true rfl⟩) (z_pV hI hK hN (z_recv hK hI (zo77 hG) rfl)) rfl rfl hl.1 rfl (lv_room (Nat.le_of_ble_eq_true rfl)) dX12_mean_93 ⟨Nat.zero_le _, Nat.zero_le _⟩) hI (fun r_93 u H locs hw hI => ?_)
          obtain ⟨rfl, hd9, hd0⟩ := hw
          have hdn : ¬ r_93 = 0 := fun e9 => by rw [e9, Int64.toInt_zero] at hd0; exact absurd hd0 (by decide)
          refine lv_lstore (lv' := [(4, .long r_93), (0, .ref (za G 77)), (1, .int k), (2, .long v)]) hx hb dX12_mean_96 hl (by decide) rfl (fun ls hl => ?_)
          refine lv_iload_n hx hb dX12_mean_98 rfl (lv_at hl 2 rfl) ?_
          refine lv_if_ne (tgt := 109) hx hb dX12_mean_99 (by decide) (fun c_99 => ?_) (fun c_99 => ?_)
          · skip
            refine lv_ldc2 (v := (14)) hx hb hown wK324 dX12_mean_109 ?_
            refine lv_lload hx hb dX12_mean_112 (lv_at hl 0 rfl) ?_
            refine lv_ldiv hx hb dX12_mean_114 hdn ?_
            exact z_lret hx hb hr hlocks hI (Or.inr ⟨c_7, hQ, by rw [← hd9, h2] ; exact if_neg c_99⟩) dX12_mean_115
          · skip
            refine lv_lload_n hx hb dX12_mean_102 rfl (lv_at hl 3 rfl) ?_
            refine lv_lload hx hb dX12_mean_103 (lv_at hl 0 rfl) ?_
            refine lv_ldiv hx hb dX12_mean_105 hdn ?_
            refine lv_goto (tgt := 115) hx hb dX12_mean_106 (by decide) ?_
            exact z_lret hx hb hr hlocks hI (Or.inr ⟨c_7, hQ, by rw [← hd9, h2] ; exact if_pos c_99⟩) dX12_mean_115
        · skip
          rw [zqG (by omega) (by omega)] at c_25
          refine lv_iconst (v := (nI 0)) hx hb dX12_mean_28 rfl ?_
          refine lv_istore (lv' := [(5, .int (nI 0)), (0, .ref (za G 77)), (1, .int k), (2, .long v), (4, .int (nI a))]) hx hb dX12_mean_29 hl (by decide) rfl (fun ls hl => ?_)
          have L31 : ∀ (f : Nat) (b : Nat) (v2 : Int64) (y2 : zX), (b ≤ N) → (v2 = v + zsml (fun bb => zsml (fun rr => if a = bb then 0 else (zpwR x N F C a bb (nI rr)).toInt64) 2) b) → (zQ97 x y2) → N + 1 ≤ b + f → ∀ (H : Heap) (locs : List Loc), zI G y2 A s.heap H locs → ∀ ls : Array Slot, lv_has ls 7 [(0, .ref (za G 77)), (1, .int k), (2, .long v2), (4, .int (nI a)), (5, .int (nI b))] → W p l e { frames := 4, cells := 0, slots := 0, locals := 104 } s m ([.ref (za G 77), .int k] : List Value).toArray below meth c H locs 0 0 (MQ below (va_Ql (fun (r : Int64) (u : zX) => (¬ (¬ k < nI 0 ∧ ¬ nI 1 < k) ∧ x = u ∧ (-9223372036854775808) = r) ∨ ((¬ k < nI 0 ∧ ¬ nI 1 < k) ∧ zQ97 x u ∧ (if k = 0 then zamR x N F C / (zgcd 16 (if zamR x N F C < 0 then -(zamR x N F C) else zamR x N F C) 14) else 14 / (zgcd 16 (if zamR x N F C < 0 then -(zamR x N F C) else zamR x N F C) 14)) = r)) (fun u t => zJ G u A t.heap) A) ([.ref (za G 77), .int k] : List Value).toArray s 0 0 A) (F0 m 31 ls []) := by
            intro f
            induction f with
            | zero =>
              intro b v2 y2 g1 g2 gQ hf
              exact absurd hf (by omega)
            | succ f ih =>
              intro b v2 y2 g1 g2 gQ hf H locs hI ls hl
              have hn1 : y2.1 77 0 = nI N := (zRef_q gQ.q9 hr0).2.1
              have ih31 := ih
              refine lv_iload hx hb dX12_mean_31 (lv_at hl 4 rfl) ?_
              refine lv_aload_n hx hb dX12_mean_33 rfl (lv_at hl 0 rfl) ?_
              refine z_get (C := RX12) (T := TX12) (N := 51) (ci := 12) (v := .int (nI N)) hx hb hts hin12 hown hK hI (zo77 hG) rfl 0 (by decide) wF7 (fun _ h9 => h9) (congrArg (fun q => some (Value.int q)) hn1) dX12_mean_34 ?_
              refine lv_icmp_ge (tgt := 82) hx hb dX12_mean_37 (by decide) (fun c_37 => ?_) (fun c_37 => ?_)
              · skip
                rw [zqG (by omega) (by omega)] at c_37
                refine lv_iinc (v := (nI (a + 1))) (lv' := [(4, .int (nI (a + 1))), (0, .ref (za G 77)), (1, .int k), (2, .long v2), (5, .int (nI b))]) hx hb dX12_mean_82 hl (k := 3) rfl (zinc a) (by decide) rfl (fun ls hl => ?_)
                refine lv_goto (tgt := 19) hx hb dX12_mean_85 (by decide) ?_
                exact ih19 (a + 1) v2 y2 (by omega) (by rw [g2, h2, show b = N by omega]; rfl) gQ (by omega) _ _ hI ls (lv_sub hl [1, 2, 3, 0] rfl)
              · skip
                rw [zqG (by omega) (by omega)] at c_37
                refine lv_iconst (v := (nI 0)) hx hb dX12_mean_40 rfl ?_
                refine lv_istore (lv' := [(6, .int (nI 0)), (0, .ref (za G 77)), (1, .int k), (2, .long v2), (4, .int (nI a)), (5, .int (nI b))]) hx hb dX12_mean_41 hl (by decide) rfl (fun ls hl => ?_)
                have L43 : ∀ (f : Nat) (r : Nat) (v3 : Int64) (y3 : zX), (r ≤ 2) → (v3 = v2 + zsml (fun rr => if a = b then 0 else (zpwR x N F C a b (nI rr)).toInt64) r) → (zQ97 x y3) → 3 ≤ r + f → ∀ (H : Heap) (locs : List Loc), zI G y3 A s.heap H locs → ∀ ls : Array Slot, lv_has ls 7 [(0, .ref (za G 77)), (1, .int k), (2, .long v3), (4, .int (nI a)), (5, .int (nI b)), (6, .int (nI r))] → W p l e { frames := 4, cells := 0, slots := 0, locals := 104 } s m ([.ref (za G 77), .int k] : List Value).toArray below meth c H locs 0 0 (MQ below (va_Ql (fun (r : Int64) (u : zX) => (¬ (¬ k < nI 0 ∧ ¬ nI 1 < k) ∧ x = u ∧ (-9223372036854775808) = r) ∨ ((¬ k < nI 0 ∧ ¬ nI 1 < k) ∧ zQ97 x u ∧ (if k = 0 then zamR x N F C / (zgcd 16 (if zamR x N F C < 0 then -(zamR x N F C) else zamR x N F C) 14) else 14 / (zgcd 16 (if zamR x N F C < 0 then -(zamR x N F C) else zamR x N F C) 14)) = r)) (fun u t => zJ G u A t.heap) A) ([.ref (za G 77), .int k] : List Value).toArray s 0 0 A) (F0 m 43 ls []) := by
                  intro f
                  induction f with
                  | zero =>
                    intro r v3 y3 k1 k2 kQ hf
                    exact absurd hf (by omega)
                  | succ f ih =>
                    intro r v3 y3 k1 k2 kQ hf H locs hI ls hl
                    have ih43 := ih
                    refine lv_iload hx hb dX12_mean_43 (lv_at hl 5 rfl) ?_
                    refine lv_iconst (v := (nI 2)) hx hb dX12_mean_45 rfl ?_
                    refine lv_icmp_ge (tgt := 76) hx hb dX12_mean_46 (by decide) (fun c_46 => ?_) (fun c_46 => ?_)
                    · skip
                      rw [zqG (by omega) (by omega)] at c_46
                      refine lv_iinc (v := (nI (b + 1))) (lv' := [(5, .int (nI (b + 1))), (0, .ref (za G 77)), (1, .int k), (2, .long v3), (4, .int (nI a)), (6, .int (nI r))]) hx hb dX12_mean_76 hl (k := 4) rfl (zinc b) (by decide) rfl (fun ls hl => ?_)
                      refine lv_goto (tgt := 31) hx hb dX12_mean_79 (by decide) ?_
                      exact ih31 (b + 1) v3 y3 (by omega) (by rw [k2, g2, zsml, Int64.add_assoc]; exact congrArg (fun q => v + (zsml (fun bb => zsml (fun rr => if a = bb then 0 else (zpwR x N F C a bb (nI rr)).toInt64) 2) b + q)) (by rw [show r = 2 by omega])) kQ (by omega) _ _ hI ls (lv_sub hl [1, 2, 3, 4, 0] rfl)
                    · skip
                      rw [zqG (by omega) (by omega)] at c_46
                      refine lv_iload hx hb dX12_mean_49 (lv_at hl 3 rfl) ?_
                      refine lv_iload hx hb dX12_mean_51 (lv_at hl 4 rfl) ?_
                      refine lv_icmp_eq (tgt := 76) hx hb dX12_mean_53 (by decide) (fun c_53 => ?_) (fun c_53 => ?_)
                      · skip
                        rw [zqE (by omega) (by omega)] at c_53
                        refine lv_iinc (v := (nI (b + 1))) (lv' := [(5, .int (nI (b + 1))), (0, .ref (za G 77)), (1, .int k), (2, .long v3), (4, .int (nI a)), (6, .int (nI r))]) hx hb dX12_mean_76 hl (k := 4) rfl (zinc b) (by decide) rfl (fun ls hl => ?_)
                        refine lv_goto (tgt := 31) hx hb dX12_mean_79 (by decide) ?_
                        exact ih31 (b + 1) v3 y3 (by omega) (by rw [k2, g2, zsml, Int64.add_assoc]; exact congrArg (fun q => v + (zsml (fun bb => zsml (fun rr => if a = bb then 0 else (zpwR x N F C a bb (nI rr)).toInt64) 2) b + q)) (by rw [zsml_z c_53, zsml_z c_53])) kQ (by omega) _ _ hI ls (lv_sub hl [1, 2, 3, 4, 0] rfl)
                      · skip
                        rw [zqE (by omega) (by omega)] at c_53
                        refine lv_lload_n hx hb dX12_mean_56 rfl (lv_at hl 2 rfl) ?_
                        refine lv_aload_n hx hb dX12_mean_57 rfl (lv_at hl 0 rfl) ?_
                        refine lv_iload hx hb dX12_mean_58 (lv_at hl 3 rfl) ?_
                        refine lv_iload hx hb dX12_mean_60 (lv_at hl 4 rfl) ?_
                        refine lv_iload hx hb dX12_mean_62 (lv_at hl 5 rfl) ?_
                        refine z_calli (va_runV (As := [.int (nI a), .int (nI b), .int (nI r)]) (rest := [.long v3]) ⟨hx, hb, hml, hown, hts⟩ ((c_X12_plainWorth l hG y3 N F C a b (nI r) (zRef_q kQ.q9 hr0) (zCls_q kQ.q9 hcs) (by omega) (by omega) (by rw [kQ.1 78 (by decide)]; exact hkd a (by omega))) A) (cwV 3 hts gX12_mean_X12_plainWorth rfl rfl rfl (by decide +kernel) ⟨Nat.le_of_ble_eq_true rfl, Nat.le_of_ble_eq_true rfl⟩) (z_pV hI hK hN (z_recv hK hI (zo77 hG) rfl)) rfl rfl hl.1 rfl (lv_room (Nat.le_of_ble_eq_true rfl)) dX12_mean_64 ⟨Nat.zero_le _, Nat.zero_le _⟩) hI (fun r_64 u H locs hw hI => ?_)
                        obtain ⟨hq1, rfl⟩ := hw
                        rw [zpwR_q kQ.q9]
                        have kQ2 : zQ97 x u := kQ.t hq1
                        refine lv_i2l hx hb dX12_mean_67 rfl ?_
                        refine lv_ladd hx hb dX12_mean_68 ?_
                        refine lv_lstore_n (lv' := [(2, .long (v3 + ((zpwR x N F C a b (nI r)).toInt64))), (0, .ref (za G 77)), (1, .int k), (4, .int (nI a)), (5, .int (nI b)), (6, .int (nI r))]) hx hb dX12_mean_69 rfl hl (by decide) rfl (fun ls hl => ?_)
                        refine lv_iinc (v := (nI (r + 1))) (lv' := [(6, .int (nI (r + 1))), (2, .long (v3 + ((zpwR x N F C a b (nI r)).toInt64))), (0, .ref (za G 77)), (1, .int k), (4, .int (nI a)), (5, .int (nI b))]) hx hb dX12_mean_70 hl (k := 5) rfl (zinc r) (by decide) rfl (fun ls hl => ?_)
                        refine lv_goto (tgt := 43) hx hb dX12_mean_73 (by decide) ?_
                        exact ih43 (r + 1) (v3 + ((zpwR x N F C a b (nI r)).toInt64)) u (by omega) (zsml_t k2 (if_neg c_53)) kQ2 (by omega) _ _ hI ls (lv_sub hl [2, 3, 1, 4, 5, 0] rfl)
                exact L43 (3) 0 v2 y2 (by omega) (Int64.add_zero _).symm gQ (by omega) _ _ hI ls (lv_sub hl [1, 2, 3, 4, 5, 0] rfl)
          exact L31 (N + 1) 0 v y (by omega) (Int64.add_zero _).symm hQ (by omega) _ _ hI ls (lv_sub hl [1, 2, 3, 4, 0] rfl)
    exact L19 (N + 1) 0 0 x (by omega) rfl zQ97.r (by omega) _ _ hI ls (lv_sub hl [2, 3, 1, 0] rfl)
  · skip
    rw [zb_0] at c_7
    refine lv_ldc2 (v := (-9223372036854775808)) hx hb hown wK322 dX12_mean_10 ?_
    exact z_lret hx hb hr hlocks hI (Or.inl ⟨c_7, rfl, rfl⟩) dX12_mean_13
