set_option maxHeartbeats 1000000 in
set_option maxRecDepth 100000 in
theorem c_X12_next_ (l : Launch) {G : zG} (hG : zOK G) (x : zX) (N : Nat) (q : Int32) (hr0 : zRef x N) : zMi l yX12_next_ wsX12_next_ { frames := 1, cells := 0, slots := 0, locals := 24 } G [.ref (za G 77), .int q] x (fun (r : Int32) (u : zX) => (¬ (¬ q < (-1) ∧ ¬ (nI N - nI 1) < q) ∧ x = u ∧ -100001 = r) ∨ ((¬ q < (-1) ∧ ¬ (nI N - nI 1) < q) ∧ 6 < N ∧ x = u ∧ -9 = r) ∨ ((¬ q < (-1) ∧ ¬ (nI N - nI 1) < q) ∧ N ≤ 6 ∧ (znfd N (x, -1) (8 ^ N)).1 = u ∧ (if q < 0 then (znfd N (x, -1) (8 ^ N)).2 else u.1 101 q.toNatClampNeg) = r)) := by
  intro A
  refine zBody (cc := cX12_next_) (maxL := 6) (ret := (some .int)) (by decide) rfl (Nat.le_of_ble_eq_true rfl) ?_
  intro p e s m below meth c hx hb hml hown hts hr hlocks hK hN hI ls hl
  have hown : s.vm.findClass RX12 = some m.cls := hown
  have hl : lv_has ls 6 [(0, .ref (za G 77)), (1, .int q)] := hl
  have hin12 : ∀ w ∈ wsX120, w ∈ wsX12_next_ := (fun _ h => List.mem_cons_of_mem _ (List.mem_append_right _ (h)))
  have wF7 := hts (.fieldLink RX12 7 "WhoSitsByModel" "pupils" "I") (z_mem 1 rfl)
  have wF111 := hts (.fieldLink RX12 111 "WhoSitsByModel" "foundSeat" "[I") (z_mem 5 rfl)
  have wF108 := hts (.fieldLink RX12 108 "WhoSitsByModel" "there" "[I") (z_mem 3 rfl)
  have wF45 := hts (.fieldLink RX12 45 "WhoSitsByModel" "isDown" "[Z") (z_mem 4 rfl)
  have wK258 := hts (.constant RX12 258 (-100001)) (z_mem 2 rfl)
  have h8 := hr0.1
  refine lv_aload_n hx hb dX12_next__0 rfl (lv_at hl 0 rfl) ?_
  refine lv_iload_n hx hb dX12_next__1 rfl (lv_at hl 1 rfl) ?_
  refine lv_iconst (v := (-1)) hx hb dX12_next__2 rfl ?_
  refine lv_aload_n hx hb dX12_next__3 rfl (lv_at hl 0 rfl) ?_
  refine z_get (C := RX12) (T := TX12) (N := 51) (ci := 12) (v := .int (nI N)) hx hb hts hin12 hown hK hI (zo77 hG) rfl 0 (by decide) wF7 (fun _ h9 => h9) (congrArg (fun q => some (Value.int q)) hr0.2.1) dX12_next__4 ?_
  refine lv_iconst (v := (nI 1)) hx hb dX12_next__7 rfl ?_
  refine z_isub (v := (nI N - nI 1)) hx hb rfl dX12_next__8 ?_
  refine z_calli (va_runV (As := [.int q, .int (-1), .int (nI N - nI 1)]) (rest := []) ⟨hx, hb, hml, hown, hts⟩ ((c_X12_in l hG x q (-1) (nI N - nI 1)) A) (cwV 3 hts gX12_next__X12_in rfl rfl rfl (by decide +kernel) ⟨Nat.le_of_ble_eq_true rfl, Nat.le_of_ble_eq_true rfl⟩) (z_pV hI hK hN (z_recv hK hI (zo77 hG) rfl)) rfl rfl hl.1 rfl (lv_room (Nat.le_of_ble_eq_true rfl)) dX12_next__9 ⟨Nat.zero_le _, Nat.zero_le _⟩) hI (fun r_9 u H locs hw hI => ?_)
  obtain ⟨rfl, rfl⟩ := hw
  refine lv_if_ne (tgt := 19) hx hb dX12_next__12 (by decide) (fun c_12 => ?_) (fun c_12 => ?_)
  · skip
    rw [zb_0, Classical.not_not] at c_12
    refine lv_aload_n hx hb dX12_next__19 rfl (lv_at hl 0 rfl) ?_
    refine z_get (C := RX12) (T := TX12) (N := 51) (ci := 12) (v := .int (nI N)) hx hb hts hin12 hown hK hI (zo77 hG) rfl 0 (by decide) wF7 (fun _ h9 => h9) (congrArg (fun q => some (Value.int q)) hr0.2.1) dX12_next__20 ?_
    refine lv_bipush (v := (nI 6)) hx hb dX12_next__23 rfl ?_
    refine lv_icmp_le (tgt := 31) hx hb dX12_next__25 (by decide) (fun c_25 => ?_) (fun c_25 => ?_)
    · skip
      rw [zqG (by omega) (by omega)] at c_25
      have hN6 : N ≤ 6 := by omega
      have hpw := z_pw hN6
      refine lv_iconst (v := (-1)) hx hb dX12_next__31 rfl ?_
      refine lv_istore_n (lv' := [(2, .int (-1)), (0, .ref (za G 77)), (1, .int q)]) hx hb dX12_next__32 rfl hl (by decide) rfl (fun ls hl => ?_)
      refine lv_iconst (v := (nI 0)) hx hb dX12_next__33 rfl ?_
      refine lv_istore_n (lv' := [(3, .int (nI 0)), (2, .int (-1)), (0, .ref (za G 77)), (1, .int q)]) hx hb dX12_next__34 rfl hl (by decide) rfl (fun ls hl => ?_)
      have L35 : ∀ (f : Nat) (c1 : Nat) (m1 : Int32) (u : zX), (c1 ≤ 8 ^ N) → (znfd N (x, -1) c1 = (u, m1)) → (zOnR x u) → 8 ^ N + 1 ≤ c1 + f → ∀ (H : Heap) (locs : List Loc), zI G u A s.heap H locs → ∀ ls : Array Slot, lv_has ls 6 [(0, .ref (za G 77)), (1, .int q), (2, .int m1), (3, .int (nI c1))] → W p l e { frames := 1, cells := 0, slots := 0, locals := 24 } s m ([.ref (za G 77), .int q] : List Value).toArray below meth c H locs 0 0 (MQ below (va_Qi (fun (r : Int32) (u : zX) => (¬ (¬ q < (-1) ∧ ¬ (nI N - nI 1) < q) ∧ x = u ∧ -100001 = r) ∨ ((¬ q < (-1) ∧ ¬ (nI N - nI 1) < q) ∧ 6 < N ∧ x = u ∧ -9 = r) ∨ ((¬ q < (-1) ∧ ¬ (nI N - nI 1) < q) ∧ N ≤ 6 ∧ (znfd N (x, -1) (8 ^ N)).1 = u ∧ (if q < 0 then (znfd N (x, -1) (8 ^ N)).2 else u.1 101 q.toNatClampNeg) = r)) (fun u t => zJ G u A t.heap) A) ([.ref (za G 77), .int q] : List Value).toArray s 0 0 A) (F0 m 35 ls []) := by
        intro f
        induction f with
        | zero =>
          intro c1 m1 u h1 hst ho hf
          exact absurd hf (by omega)
        | succ f ih =>
          intro c1 m1 u h1 hst ho hf H locs hI ls hl
          have ih35 := ih
          refine lv_iload_n hx hb dX12_next__35 rfl (lv_at hl 3 rfl) ?_
          refine lv_aload_n hx hb dX12_next__36 rfl (lv_at hl 0 rfl) ?_
          refine z_calli (va_runV (As := []) (rest := [.int (nI c1)]) ⟨hx, hb, hml, hown, hts⟩ ((c_X12_codes l hG u N (zRef_o ho hr0) hN6) A) (cwV 0 hts gX12_next__X12_codes rfl rfl rfl (by decide +kernel) ⟨Nat.le_of_ble_eq_true rfl, Nat.le_of_ble_eq_true rfl⟩) (z_pV hI hK hN (z_recv hK hI (zo77 hG) rfl)) rfl rfl hl.1 rfl (lv_room (Nat.le_of_ble_eq_true rfl)) dX12_next__37 ⟨Nat.zero_le _, Nat.zero_le _⟩) hI (fun r_37 u H locs hw hI => ?_)
          obtain ⟨rfl, rfl⟩ := hw
          refine lv_icmp_ge (tgt := 155) hx hb dX12_next__40 (by decide) (fun c_40 => ?_) (fun c_40 => ?_)
          · skip
            rw [zqG (by omega) (by omega)] at c_40
            refine lv_iload_n hx hb dX12_next__155 rfl (lv_at hl 1 rfl) ?_
            refine lv_if_ge (tgt := 163) hx hb dX12_next__156 (by decide) (fun c_156 => ?_) (fun c_156 => ?_)
            · skip
              obtain ⟨k, hk, rfl⟩ := z_ix (n := N) (z_nle c_156) (fun h => c_12.2 (by obtain ⟨k2, hk2, rfl⟩ := z_nat (z_nle c_156); rw [Int32.le_iff_toInt_le, nI_toInt (by omega), nI_toInt hk2] at h; rw [Int32.lt_iff_toInt_lt, nI_toInt hk2, show (nI N - nI 1).toInt = (N : Int) - 1 from pk_sub_toInt (by omega) (by omega)]; omega)) (by omega)
              refine lv_aload_n hx hb dX12_next__163 rfl (lv_at hl 0 rfl) ?_
              refine z_get (C := RX12) (T := TX12) (N := 51) (ci := 12) (v := .ref (za G 101)) hx hb hts hin12 hown hK hI (zo77 hG) rfl 33 (by decide) wF111 (fun _ h9 => h9) rfl dX12_next__164 ?_
              refine lv_iload_n hx hb dX12_next__167 rfl (lv_at hl 1 rfl) ?_
              refine z_iald (v := (u.1 101 k)) hx hb hK hI (zo101 hG) k rfl (by omega) (by decide) rfl dX12_next__168 ?_
              exact z_iret hx hb hr hlocks hI (Or.inr (Or.inr ⟨c_12, by omega, by rw [show 8 ^ N = c1 by omega, hst], by rw [show 8 ^ N = c1 by omega, hst]; exact (if_neg (z_nle c_156)).trans (by rw [nI_clamp (by omega)])⟩)) dX12_next__169
            · skip
              refine lv_iload_n hx hb dX12_next__159 rfl (lv_at hl 2 rfl) ?_
              refine lv_goto (tgt := 169) hx hb dX12_next__160 (by decide) ?_
              exact z_iret hx hb hr hlocks hI (Or.inr (Or.inr ⟨c_12, by omega, by rw [show 8 ^ N = c1 by omega, hst], by rw [show 8 ^ N = c1 by omega, hst]; exact if_pos (z_le c_156)⟩)) dX12_next__169
          · skip
            rw [zqG (by omega) (by omega)] at c_40
            refine lv_aload_n hx hb dX12_next__43 rfl (lv_at hl 0 rfl) ?_
            refine lv_iload_n hx hb dX12_next__44 rfl (lv_at hl 3 rfl) ?_
            refine z_calli (va_runV (As := [.int (nI c1)]) (rest := []) ⟨hx, hb, hml, hown, hts⟩ ((c_X12_layRow l hG u N c1 (zRef_o ho hr0) hN6 (by omega)) A) (cwV 1 hts gX12_next__X12_layRow rfl rfl rfl (by decide +kernel) ⟨Nat.le_of_ble_eq_true rfl, Nat.le_of_ble_eq_true rfl⟩) (z_pV hI hK hN (z_recv hK hI (zo77 hG) rfl)) rfl rfl hl.1 rfl (lv_room (Nat.le_of_ble_eq_true rfl)) dX12_next__45 ⟨Nat.zero_le _, Nat.zero_le _⟩) hI (fun r_45 u H locs hw hI => ?_)
            obtain ⟨rfl, rfl⟩ := hw
            refine lv_if_ne (tgt := 54) hx hb dX12_next__48 (by decide) (fun c_48 => ?_) (fun c_48 => ?_)
            · skip
              rw [zb_0, Classical.not_not] at c_48
              have hrw1 : zrow ((zsrI u 100 (zlay u N c1).1).1 100) := by rw [zsrI_u]; exact zlay_row h8
              refine lv_iconst (v := (nI 0)) hx hb dX12_next__54 rfl ?_
              refine lv_istore (lv' := [(4, .int (nI 0)), (0, .ref (za G 77)), (1, .int q), (2, .int m1), (3, .int (nI c1))]) hx hb dX12_next__55 hl (by decide) rfl (fun ls hl => ?_)
              refine lv_iconst (v := (nI 0)) hx hb dX12_next__57 rfl ?_
              refine lv_istore (lv' := [(5, .int (nI 0)), (4, .int (nI 0)), (0, .ref (za G 77)), (1, .int q), (2, .int m1), (3, .int (nI c1))]) hx hb dX12_next__58 hl (by decide) rfl (fun ls hl => ?_)
              have L60 : ∀ (f : Nat) (j : Nat) (d : Nat) (a : Int32), (j = 2 * d) → (d ≤ 4) → (a = zsum (fun d => if znp (zsrI u 100 (zlay u N c1).1) d then nI 1 else nI 0) d) → 5 ≤ d + f → ∀ (H : Heap) (locs : List Loc), zI G (zsrI u 100 (zlay u N c1).1) A s.heap H locs → ∀ ls : Array Slot, lv_has ls 6 [(0, .ref (za G 77)), (1, .int q), (2, .int m1), (3, .int (nI c1)), (4, .int a), (5, .int (nI j))] → W p l e { frames := 1, cells := 0, slots := 0, locals := 24 } s m ([.ref (za G 77), .int q] : List Value).toArray below meth c H locs 0 0 (MQ below (va_Qi (fun (r : Int32) (u : zX) => (¬ (¬ q < (-1) ∧ ¬ (nI N - nI 1) < q) ∧ x = u ∧ -100001 = r) ∨ ((¬ q < (-1) ∧ ¬ (nI N - nI 1) < q) ∧ 6 < N ∧ x = u ∧ -9 = r) ∨ ((¬ q < (-1) ∧ ¬ (nI N - nI 1) < q) ∧ N ≤ 6 ∧ (znfd N (x, -1) (8 ^ N)).1 = u ∧ (if q < 0 then (znfd N (x, -1) (8 ^ N)).2 else u.1 101 q.toNatClampNeg) = r)) (fun u t => zJ G u A t.heap) A) ([.ref (za G 77), .int q] : List Value).toArray s 0 0 A) (F0 m 60 ls []) := by
                intro f
                induction f with
                | zero =>
                  intro j d a g0 g1 g2 hf
                  exact absurd hf (by omega)
                | succ f ih =>
                  intro j d a g0 g1 g2 hf H locs hI ls hl
                  subst g0
                  have ih60 := ih
                  refine lv_iload hx hb dX12_next__60 (lv_at hl 5 rfl) ?_
                  refine lv_bipush (v := (nI 8)) hx hb dX12_next__62 rfl ?_
                  refine lv_icmp_ge (tgt := 133) hx hb dX12_next__64 (by decide) (fun c_64 => ?_) (fun c_64 => ?_)
                  · skip
                    rw [zqG (by omega) (by omega)] at c_64
                    refine lv_iload hx hb dX12_next__133 (lv_at hl 4 rfl) ?_
                    refine lv_iload_n hx hb dX12_next__135 rfl (lv_at hl 2 rfl) ?_
                    refine lv_icmp_gt (tgt := 142) hx hb dX12_next__136 (by decide) (fun c_136 => ?_) (fun c_136 => ?_)
                    · skip
                      refine lv_iload hx hb dX12_next__142 (lv_at hl 4 rfl) ?_
                      refine lv_istore_n (lv' := [(2, .int a), (0, .ref (za G 77)), (1, .int q), (3, .int (nI c1)), (4, .int a), (5, .int (nI (2 * d)))]) hx hb dX12_next__144 rfl hl (by decide) rfl (fun ls hl => ?_)
                      refine lv_aload_n hx hb dX12_next__145 rfl (lv_at hl 1 rfl) ?_
                      refine z_callv (va_runV (As := []) (rest := []) ⟨hx, hb, hml, hown, hts⟩ ((c_X12_keepRow l hG (zsrI u 100 (zlay u N c1).1) hrw1) A) (cwV 0 hts gX12_next__X12_keepRow rfl rfl rfl (by decide +kernel) ⟨Nat.le_of_ble_eq_true rfl, Nat.le_of_ble_eq_true rfl⟩) (z_pV hI hK hN (z_recv hK hI (zo77 hG) rfl)) rfl rfl hl.1 rfl (lv_room (Nat.le_of_ble_eq_true rfl)) dX12_next__146 ⟨Nat.zero_le _, Nat.zero_le _⟩) hI (fun u H locs hw hI => ?_)
                      obtain rfl := hw
                      refine lv_iinc (v := (nI (c1 + 1))) (lv' := [(3, .int (nI (c1 + 1))), (2, .int a), (0, .ref (za G 77)), (1, .int q), (4, .int a), (5, .int (nI (2 * d)))]) hx hb dX12_next__149 hl (k := 3) rfl (zinc c1) (by decide) rfl (fun ls hl => ?_)
                      refine lv_goto (tgt := 35) hx hb dX12_next__152 (by decide) ?_
                      exact ih35 (c1 + 1) a (zkpR (zsrI u 100 (zlay u N c1).1)) (by omega) (by rw [znfd, hst, znst_b c_48 (by rw [show znw (zsrI u 100 (zlay u N c1).1) = zsum _ 4 from rfl, ← show d = 4 by omega, ← g2]; exact c_136)]; rw [show znw (zsrI u 100 (zlay u N c1).1) = zsum _ 4 from rfl, ← show d = 4 by omega, ← g2]) ho.a.b (by omega) _ _ hI ls (lv_sub hl [2, 3, 1, 0] rfl)
                    · skip
                      refine lv_goto (tgt := 149) hx hb dX12_next__139 (by decide) ?_
                      refine lv_iinc (v := (nI (c1 + 1))) (lv' := [(3, .int (nI (c1 + 1))), (0, .ref (za G 77)), (1, .int q), (2, .int m1), (4, .int a), (5, .int (nI (2 * d)))]) hx hb dX12_next__149 hl (k := 3) rfl (zinc c1) (by decide) rfl (fun ls hl => ?_)
                      refine lv_goto (tgt := 35) hx hb dX12_next__152 (by decide) ?_
                      exact ih35 (c1 + 1) m1 (zsrI u 100 (zlay u N c1).1) (by omega) (by rw [znfd, hst, znst_w c_48 (by rw [show znw (zsrI u 100 (zlay u N c1).1) = zsum _ 4 from rfl, ← show d = 4 by omega, ← g2]; exact c_136)]) ho.a (by omega) _ _ hI ls (lv_sub hl [1, 2, 3, 0] rfl)
                  · skip
                    rw [zqG (by omega) (by omega)] at c_64
                    rcases hrw1 (2 * d) (by omega) with hA | ⟨qa, hqa, hA⟩
                    · skip
                      refine lv_iload hx hb dX12_next__67 (lv_at hl 4 rfl) ?_
                      have J69 : ∀ (jv : Int32), jv = (if znp (zsrI u 100 (zlay u N c1).1) d then nI 1 else nI 0) → ∀ (H : Heap) (locs : List Loc), zI G (zsrI u 100 (zlay u N c1).1) A s.heap H locs → W p l e { frames := 1, cells := 0, slots := 0, locals := 24 } s m ([.ref (za G 77), .int q] : List Value).toArray below meth c H locs 0 0 (MQ below (va_Qi (fun (r : Int32) (u : zX) => (¬ (¬ q < (-1) ∧ ¬ (nI N - nI 1) < q) ∧ x = u ∧ -100001 = r) ∨ ((¬ q < (-1) ∧ ¬ (nI N - nI 1) < q) ∧ 6 < N ∧ x = u ∧ -9 = r) ∨ ((¬ q < (-1) ∧ ¬ (nI N - nI 1) < q) ∧ N ≤ 6 ∧ (znfd N (x, -1) (8 ^ N)).1 = u ∧ (if q < 0 then (znfd N (x, -1) (8 ^ N)).2 else u.1 101 q.toNatClampNeg) = r)) (fun u t => zJ G u A t.heap) A) ([.ref (za G 77), .int q] : List Value).toArray s 0 0 A) (F0 m 124 ls [.int jv, .int a]) := by
                        intro jv hjv H locs hI
                        subst hjv
                        refine lv_iadd hx hb dX12_next__124 ?_
                        refine lv_istore (lv' := [(4, .int (a + (if znp (zsrI u 100 (zlay u N c1).1) d then nI 1 else nI 0))), (0, .ref (za G 77)), (1, .int q), (2, .int m1), (3, .int (nI c1)), (5, .int (nI (2 * d)))]) hx hb dX12_next__125 hl (by decide) rfl (fun ls hl => ?_)
                        refine lv_iinc (v := (nI ((2 * d) + 2))) (lv' := [(5, .int (nI ((2 * d) + 2))), (4, .int (a + (if znp (zsrI u 100 (zlay u N c1).1) d then nI 1 else nI 0))), (0, .ref (za G 77)), (1, .int q), (2, .int m1), (3, .int (nI c1))]) hx hb dX12_next__127 hl (k := 5) rfl (zincN (2 * d) 2) (by decide) rfl (fun ls hl => ?_)
                        refine lv_goto (tgt := 60) hx hb dX12_next__130 (by decide) ?_
                        exact ih60 ((2 * d) + 2) (d + 1) (a + (if znp (zsrI u 100 (zlay u N c1).1) d then nI 1 else nI 0)) (by omega) (by omega) (zsum_t g2 rfl) (by omega) _ _ hI ls (lv_sub hl [2, 3, 4, 5, 1, 0] rfl)
                      refine lv_aload_n hx hb dX12_next__69 rfl (lv_at hl 0 rfl) ?_
                      refine z_get (C := RX12) (T := TX12) (N := 51) (ci := 12) (v := .ref (za G 100)) hx hb hts hin12 hown hK hI (zo77 hG) rfl 32 (by decide) wF108 (fun _ h9 => h9) rfl dX12_next__70 ?_
                      refine lv_iload hx hb dX12_next__73 (lv_at hl 5 rfl) ?_
                      refine z_iald (v := (-1)) hx hb hK hI (zo100 hG) (2 * d) rfl (by omega) (by decide) hA dX12_next__75 ?_
                      refine lv_if_lt (tgt := 123) hx hb dX12_next__76 (by decide) (fun c_76 => ?_) (fun c_76 => ?_)
                      · skip
                        refine lv_iconst (v := (nI 0)) hx hb dX12_next__123 rfl ?_
                        exact J69 _ (if_neg (fun h : znp (zsrI u 100 (zlay u N c1).1) d => h.1 (by rw [hA]; decide))).symm _ _ hI
                      · skip
                        exact absurd (by decide) c_76
                    · skip
                      refine lv_iload hx hb dX12_next__67 (lv_at hl 4 rfl) ?_
                      have J69 : ∀ (jv : Int32), jv = (if znp (zsrI u 100 (zlay u N c1).1) d then nI 1 else nI 0) → ∀ (H : Heap) (locs : List Loc), zI G (zsrI u 100 (zlay u N c1).1) A s.heap H locs → W p l e { frames := 1, cells := 0, slots := 0, locals := 24 } s m ([.ref (za G 77), .int q] : List Value).toArray below meth c H locs 0 0 (MQ below (va_Qi (fun (r : Int32) (u : zX) => (¬ (¬ q < (-1) ∧ ¬ (nI N - nI 1) < q) ∧ x = u ∧ -100001 = r) ∨ ((¬ q < (-1) ∧ ¬ (nI N - nI 1) < q) ∧ 6 < N ∧ x = u ∧ -9 = r) ∨ ((¬ q < (-1) ∧ ¬ (nI N - nI 1) < q) ∧ N ≤ 6 ∧ (znfd N (x, -1) (8 ^ N)).1 = u ∧ (if q < 0 then (znfd N (x, -1) (8 ^ N)).2 else u.1 101 q.toNatClampNeg) = r)) (fun u t => zJ G u A t.heap) A) ([.ref (za G 77), .int q] : List Value).toArray s 0 0 A) (F0 m 124 ls [.int jv, .int a]) := by
                        intro jv hjv H locs hI
                        subst hjv
                        refine lv_iadd hx hb dX12_next__124 ?_
                        refine lv_istore (lv' := [(4, .int (a + (if znp (zsrI u 100 (zlay u N c1).1) d then nI 1 else nI 0))), (0, .ref (za G 77)), (1, .int q), (2, .int m1), (3, .int (nI c1)), (5, .int (nI (2 * d)))]) hx hb dX12_next__125 hl (by decide) rfl (fun ls hl => ?_)
                        refine lv_iinc (v := (nI ((2 * d) + 2))) (lv' := [(5, .int (nI ((2 * d) + 2))), (4, .int (a + (if znp (zsrI u 100 (zlay u N c1).1) d then nI 1 else nI 0))), (0, .ref (za G 77)), (1, .int q), (2, .int m1), (3, .int (nI c1))]) hx hb dX12_next__127 hl (k := 5) rfl (zincN (2 * d) 2) (by decide) rfl (fun ls hl => ?_)
                        refine lv_goto (tgt := 60) hx hb dX12_next__130 (by decide) ?_
                        exact ih60 ((2 * d) + 2) (d + 1) (a + (if znp (zsrI u 100 (zlay u N c1).1) d then nI 1 else nI 0)) (by omega) (by omega) (zsum_t g2 rfl) (by omega) _ _ hI ls (lv_sub hl [2, 3, 4, 5, 1, 0] rfl)
                      refine lv_aload_n hx hb dX12_next__69 rfl (lv_at hl 0 rfl) ?_
                      refine z_get (C := RX12) (T := TX12) (N := 51) (ci := 12) (v := .ref (za G 100)) hx hb hts hin12 hown hK hI (zo77 hG) rfl 32 (by decide) wF108 (fun _ h9 => h9) rfl dX12_next__70 ?_
                      refine lv_iload hx hb dX12_next__73 (lv_at hl 5 rfl) ?_
                      refine z_iald (v := (nI qa)) hx hb hK hI (zo100 hG) (2 * d) rfl (by omega) (by decide) hA dX12_next__75 ?_
                      refine lv_if_lt (tgt := 123) hx hb dX12_next__76 (by decide) (fun c_76 => ?_) (fun c_76 => ?_)
                      · skip
                        rw [show (0 : Int32) = nI 0 from rfl] at c_76; rw [zqL (by omega) (by omega)] at c_76
                        exact absurd c_76 (by omega)
                      · skip
                        rw [show (0 : Int32) = nI 0 from rfl] at c_76; rw [zqL (by omega) (by omega)] at c_76
                        rcases hrw1 (2 * d + 1) (by omega) with hB | ⟨qb, hqb, hB⟩
                        · skip
                          refine lv_aload_n hx hb dX12_next__79 rfl (lv_at hl 0 rfl) ?_
                          refine z_get (C := RX12) (T := TX12) (N := 51) (ci := 12) (v := .ref (za G 100)) hx hb hts hin12 hown hK hI (zo77 hG) rfl 32 (by decide) wF108 (fun _ h9 => h9) rfl dX12_next__80 ?_
                          refine lv_iload hx hb dX12_next__83 (lv_at hl 5 rfl) ?_
                          refine lv_iconst (v := (nI 1)) hx hb dX12_next__85 rfl ?_
                          refine z_iadd (v := (nI ((2 * d) + 1))) hx hb (nI_add _ _) dX12_next__86 ?_
                          refine z_iald (v := (-1)) hx hb hK hI (zo100 hG) ((2 * d) + 1) rfl (by omega) (by decide) hB dX12_next__87 ?_
                          refine lv_if_lt (tgt := 123) hx hb dX12_next__88 (by decide) (fun c_88 => ?_) (fun c_88 => ?_)
                          · skip
                            refine lv_iconst (v := (nI 0)) hx hb dX12_next__123 rfl ?_
                            exact J69 _ (if_neg (fun h : znp (zsrI u 100 (zlay u N c1).1) d => h.2.1 (by rw [hB]; decide))).symm _ _ hI
                          · skip
                            exact absurd (by decide) c_88
                        · skip
                          refine lv_aload_n hx hb dX12_next__79 rfl (lv_at hl 0 rfl) ?_
                          refine z_get (C := RX12) (T := TX12) (N := 51) (ci := 12) (v := .ref (za G 100)) hx hb hts hin12 hown hK hI (zo77 hG) rfl 32 (by decide) wF108 (fun _ h9 => h9) rfl dX12_next__80 ?_
                          refine lv_iload hx hb dX12_next__83 (lv_at hl 5 rfl) ?_
                          refine lv_iconst (v := (nI 1)) hx hb dX12_next__85 rfl ?_
                          refine z_iadd (v := (nI ((2 * d) + 1))) hx hb (nI_add _ _) dX12_next__86 ?_
                          refine z_iald (v := (nI qb)) hx hb hK hI (zo100 hG) ((2 * d) + 1) rfl (by omega) (by decide) hB dX12_next__87 ?_
                          refine lv_if_lt (tgt := 123) hx hb dX12_next__88 (by decide) (fun c_88 => ?_) (fun c_88 => ?_)
                          · skip
                            rw [show (0 : Int32) = nI 0 from rfl] at c_88; rw [zqL (by omega) (by omega)] at c_88
                            exact absurd c_88 (by omega)
                          · skip
                            rw [show (0 : Int32) = nI 0 from rfl] at c_88; rw [zqL (by omega) (by omega)] at c_88
                            refine lv_aload_n hx hb dX12_next__91 rfl (lv_at hl 0 rfl) ?_
                            refine z_get (C := RX12) (T := TX12) (N := 51) (ci := 12) (v := .ref (za G 87)) hx hb hts hin12 hown hK hI (zo77 hG) rfl 11 (by decide) wF45 (fun _ h9 => h9) rfl dX12_next__92 ?_
                            refine lv_aload_n hx hb dX12_next__95 rfl (lv_at hl 0 rfl) ?_
                            refine lv_aload_n hx hb dX12_next__96 rfl (lv_at hl 0 rfl) ?_
                            refine z_get (C := RX12) (T := TX12) (N := 51) (ci := 12) (v := .ref (za G 100)) hx hb hts hin12 hown hK hI (zo77 hG) rfl 32 (by decide) wF108 (fun _ h9 => h9) rfl dX12_next__97 ?_
                            refine lv_iload hx hb dX12_next__100 (lv_at hl 5 rfl) ?_
                            refine z_iald (v := (nI qa)) hx hb hK hI (zo100 hG) (2 * d) rfl (by omega) (by decide) hA dX12_next__102 ?_
                            refine lv_aload_n hx hb dX12_next__103 rfl (lv_at hl 0 rfl) ?_
                            refine z_get (C := RX12) (T := TX12) (N := 51) (ci := 12) (v := .ref (za G 100)) hx hb hts hin12 hown hK hI (zo77 hG) rfl 32 (by decide) wF108 (fun _ h9 => h9) rfl dX12_next__104 ?_
                            refine lv_iload hx hb dX12_next__107 (lv_at hl 5 rfl) ?_
                            refine lv_iconst (v := (nI 1)) hx hb dX12_next__109 rfl ?_
                            refine z_iadd (v := (nI ((2 * d) + 1))) hx hb (nI_add _ _) dX12_next__110 ?_
                            refine z_iald (v := (nI qb)) hx hb hK hI (zo100 hG) ((2 * d) + 1) rfl (by omega) (by decide) hB dX12_next__111 ?_
                            refine z_calli (va_runV (As := [.int (nI qa), .int (nI qb)]) (rest := [.ref (za G 87), .int a]) ⟨hx, hb, hml, hown, hts⟩ ((c_X12_pairOf l hG (zsrI u 100 (zlay u N c1).1) qa qb (by omega) (by omega)) A) (cwV 2 hts gX12_next__X12_pairOf rfl rfl rfl (by decide +kernel) ⟨Nat.le_of_ble_eq_true rfl, Nat.le_of_ble_eq_true rfl⟩) (z_pV hI hK hN (z_recv hK hI (zo77 hG) rfl)) rfl rfl hl.1 rfl (lv_room (Nat.le_of_ble_eq_true rfl)) dX12_next__112 ⟨Nat.zero_le _, Nat.zero_le _⟩) hI (fun r_112 u H locs hw hI => ?_)
                            obtain ⟨rfl, rfl⟩ := hw
                            refine z_zald (v := ((zsrI u 100 (zlay u N c1).1).1 87 (zpo qa qb))) hx hb hK hI (zo87 hG) (zpo qa qb) rfl (zpo_b hqa hqb) (by decide) rfl dX12_next__115 ?_
                            refine lv_if_ne (tgt := 123) hx hb dX12_next__116 (by decide) (fun c_116 => ?_) (fun c_116 => ?_)
                            · skip
                              refine lv_iconst (v := (nI 0)) hx hb dX12_next__123 rfl ?_
                              exact J69 _ (if_neg (fun h : znp (zsrI u 100 (zlay u N c1).1) d => c_116 (by have h9 := h.2.2; rw [hA, hB, nI_clamp (by omega), nI_clamp (by omega)] at h9; exact h9))).symm _ _ hI
                            · skip
                              refine lv_iconst (v := (nI 1)) hx hb dX12_next__119 rfl ?_
                              refine lv_goto (tgt := 124) hx hb dX12_next__120 (by decide) ?_
                              exact J69 _ (if_pos (show znp (zsrI u 100 (zlay u N c1).1) d from ⟨by rw [hA]; exact nI_pos (by omega), by rw [hB]; exact nI_pos (by omega), by rw [hA, hB, nI_clamp (by omega), nI_clamp (by omega)]; exact c_116⟩)).symm _ _ hI
              exact L60 (5) 0 0 (nI 0) (by omega) (by omega) rfl (by omega) _ _ hI ls (lv_sub hl [2, 3, 4, 5, 1, 0] rfl)
            · skip
              rw [zb_0] at c_48
              refine lv_goto (tgt := 149) hx hb dX12_next__51 (by decide) ?_
              refine lv_iinc (v := (nI (c1 + 1))) (lv' := [(3, .int (nI (c1 + 1))), (0, .ref (za G 77)), (1, .int q), (2, .int m1)]) hx hb dX12_next__149 hl (k := 3) rfl (zinc c1) (by decide) rfl (fun ls hl => ?_)
              refine lv_goto (tgt := 35) hx hb dX12_next__152 (by decide) ?_
              exact ih35 (c1 + 1) m1 (zsrI u 100 (zlay u N c1).1) (by omega) (by rw [znfd, hst, znst_n c_48]) ho.a (by omega) _ _ hI ls (lv_sub hl [1, 2, 3, 0] rfl)
      exact L35 (8 ^ N + 1) 0 (-1) x (Nat.zero_le _) rfl zOnR.r (by rw [Nat.zero_add]; exact Nat.le_refl _) _ _ hI ls (lv_sub hl [2, 3, 1, 0] rfl)
    · skip
      rw [zqG (by omega) (by omega)] at c_25
      refine lv_bipush (v := (-9)) hx hb dX12_next__28 rfl ?_
      exact z_iret hx hb hr hlocks hI (Or.inr (Or.inl ⟨c_12, by omega, rfl, rfl⟩)) dX12_next__30
  · skip
    rw [zb_0] at c_12
    refine lv_ldcw (v := (-100001)) hx hb hown wK258 dX12_next__15 ?_
    exact z_iret hx hb hr hlocks hI (Or.inl ⟨c_12, rfl, rfl⟩) dX12_next__18
