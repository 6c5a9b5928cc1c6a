set_option maxHeartbeats 1000000 in
set_option maxRecDepth 100000 in
theorem c_X5_takeOneOf (l : Launch) {G : zG} (hG : zOK G) (aK aV : Nat → Nat) (x : zX) (b L p1 i : Nat) (hb0 : zRm b) (hL : x.1 b 8 = nI L) (hL9 : L ≤ 100) (htx : zTx x b) (hat : x.1 b 9 = nI p1) (hp1 : p1 ≤ 100) (hi : i < 6) : zMiS l yX5_takeOneOf wsX5_takeOneOf { frames := 4, cells := 0, slots := 0, locals := 106 } G aK aV [.ref (za G b), .ref (aK i)] x (fun (r : Int32) (u : zX) => (¬ zone i (zby x b L p1) < 0 ∧ zsI x b 9 (nI (p1 + 1)) = u ∧ zone i (zby x b L p1) = r) ∨ (zone i (zby x b L p1) < 0 ∧ x = u ∧ zone i (zby x b L p1) = r)) := by
  intro A
  refine zBodyS (cc := cX5_takeOneOf) (maxL := 4) (ret := (some .int)) (by decide) rfl (Nat.le_of_ble_eq_true rfl) ?_
  intro p e s m below meth c hx hb hml hown hts hr hlocks hK hN hSS hI ls hl
  have hown : s.vm.findClass RX5 = some m.cls := hown
  have hl : lv_has ls 4 [(0, .ref (za G b)), (1, .ref (aK i))] := hl
  have hin5 : ∀ w ∈ wsX50, w ∈ wsX5_takeOneOf := (fun _ h => List.mem_cons_of_mem _ (List.mem_append_right _ (h)))
  have wF53 := hts (.fieldLink RX5 53 "WhoSitsBy$Room" "at" "I") (z_mem 1 rfl)
  refine lv_aload_n hx hb dX5_takeOneOf_0 rfl (lv_at hl 0 rfl) ?_
  refine lv_aload_n hx hb dX5_takeOneOf_1 rfl (lv_at hl 0 rfl) ?_
  refine z_get (C := RX5) (T := TX5) (N := 11) (ci := 5) (v := .int (nI p1)) hx hb hts hin5 hown hK hI (zor hG hb0) rfl 9 (by decide) wF53 (fun _ h9 => h9) (congrArg (fun q => some (Value.int q)) hat) dX5_takeOneOf_2 ?_
  refine z_calli (va_runV (As := [.int (nI p1)]) (rest := []) ⟨hx, hb, hml, hown, hts⟩ ((c_X5_byteAt l hG x b L p1 hb0 hL hL9 (by omega)) A) (cwV 1 hts gX5_takeOneOf_X5_byteAt rfl rfl rfl (by decide +kernel) ⟨Nat.le_of_ble_eq_true rfl, Nat.le_of_ble_eq_true rfl⟩) (z_pV hI hK hN (z_recv hK hI (zor hG hb0) rfl)) rfl rfl hl.1 rfl (lv_room (Nat.le_of_ble_eq_true rfl)) dX5_takeOneOf_5 ⟨Nat.zero_le _, Nat.zero_le _⟩) hI (fun r_5 u H locs hw hI => ?_)
  obtain ⟨rfl, rfl⟩ := hw
  refine lv_istore_n (lv' := [(2, .int (zby x b L p1)), (0, .ref (za G b)), (1, .ref (aK i))]) hx hb dX5_takeOneOf_8 rfl hl (by decide) rfl (fun ls hl => ?_)
  refine lv_iload_n hx hb dX5_takeOneOf_9 rfl (lv_at hl 0 rfl) ?_
  refine lv_if_ge (tgt := 17) hx hb dX5_takeOneOf_10 (by decide) (fun c_10 => ?_) (fun c_10 => ?_)
  · skip
    obtain ⟨q9, hq9, hqz⟩ := zby_q htx hL9 c_10
    have hzz : zone i (zby x b L p1) = zfind (fun k => (zSbyt.getD i []).getD k 0) (nI q9) 0 (zSlen.getD i 0) := by rw [hqz]; exact if_neg (nI_pos (by omega))
    rw [hqz] at hl
    refine lv_aload_n hx hb dX5_takeOneOf_17 rfl (lv_at hl 2 rfl) ?_
    refine lv_iload_n hx hb dX5_takeOneOf_18 rfl (lv_at hl 0 rfl) ?_
    refine lv_i2c (v := (nI q9)) hx hb dX5_takeOneOf_19 (zi2c hq9) ?_
    refine z_calli (va_runV (As := [.int (nI q9)]) (rest := []) ⟨hx, hb, hml, hown, hts⟩ ((c_J0_indexOf_0f7a4 l hG aK aV x i q9 hi (by omega)) A) (cwV 1 hts gX5_takeOneOf_J0_indexOf_0f7a4 rfl rfl rfl (by decide +kernel) ⟨Nat.le_of_ble_eq_true rfl, Nat.le_of_ble_eq_true rfl⟩) (z_pVS hI hK hN hSS (vk_recv hSS.2.1 hi hI.2)) rfl rfl hl.1 rfl (lv_room (Nat.le_of_ble_eq_true rfl)) dX5_takeOneOf_20 ⟨Nat.zero_le _, Nat.zero_le _⟩) hI (fun r_20 u H locs hw hI => ?_)
    obtain ⟨rfl, rfl⟩ := hw
    refine lv_istore_n (lv' := [(3, .int (zfind (fun k => (zSbyt.getD i []).getD k 0) (nI q9) 0 (zSlen.getD i 0))), (2, .int (nI q9)), (0, .ref (za G b)), (1, .ref (aK i))]) hx hb dX5_takeOneOf_23 rfl hl (by decide) rfl (fun ls hl => ?_)
    refine lv_iload_n hx hb dX5_takeOneOf_24 rfl (lv_at hl 0 rfl) ?_
    refine lv_if_lt (tgt := 38) hx hb dX5_takeOneOf_25 (by decide) (fun c_25 => ?_) (fun c_25 => ?_)
    · skip
      refine lv_iload_n hx hb dX5_takeOneOf_38 rfl (lv_at hl 0 rfl) ?_
      exact z_iret hx hb hr hlocks hI (Or.inr ⟨by rw [hzz]; exact c_25, rfl, hzz⟩) dX5_takeOneOf_39
    · skip
      refine lv_aload_n hx hb dX5_takeOneOf_28 rfl (lv_at hl 2 rfl) ?_
      refine lv_dup hx hb dX5_takeOneOf_29 rfl ?_
      refine z_get (C := RX5) (T := TX5) (N := 11) (ci := 5) (v := .int (nI p1)) hx hb hts hin5 hown hK hI (zor hG hb0) rfl 9 (by decide) wF53 (fun _ h9 => h9) (congrArg (fun q => some (Value.int q)) hat) dX5_takeOneOf_30 ?_
      refine lv_iconst (v := (nI 1)) hx hb dX5_takeOneOf_33 rfl ?_
      refine z_iadd (v := (nI (p1 + 1))) hx hb (nI_add _ _) dX5_takeOneOf_34 ?_
      refine z_putI (C := RX5) (T := TX5) (N := 11) (ci := 5) (ty := .int) hx hb hts hin5 tyX5 tyX5_ok nmX5 hown hK hI (zor hG hb0) rfl 9 (by decide) wF53 (fun _ h9 => h9) rfl (fun _ _ => rfl) (by decide +kernel) rfl rfl (fun _ _ => Nat.le_of_ble_eq_true rfl) dX5_takeOneOf_35 (fun H locs hI => ?_)
      refine lv_iload_n hx hb dX5_takeOneOf_38 rfl (lv_at hl 0 rfl) ?_
      exact z_iret hx hb hr hlocks hI (Or.inl ⟨by rw [hzz]; exact c_25, rfl, hzz⟩) dX5_takeOneOf_39
  · skip
    refine lv_iconst (v := (-1)) hx hb dX5_takeOneOf_13 rfl ?_
    refine lv_goto (tgt := 23) hx hb dX5_takeOneOf_14 (by decide) ?_
    refine lv_istore_n (lv' := [(3, .int (-1)), (2, .int (zby x b L p1)), (0, .ref (za G b)), (1, .ref (aK i))]) hx hb dX5_takeOneOf_23 rfl hl (by decide) rfl (fun ls hl => ?_)
    refine lv_iload_n hx hb dX5_takeOneOf_24 rfl (lv_at hl 0 rfl) ?_
    refine lv_if_lt (tgt := 38) hx hb dX5_takeOneOf_25 (by decide) (fun c_25 => ?_) (fun c_25 => ?_)
    · skip
      refine lv_iload_n hx hb dX5_takeOneOf_38 rfl (lv_at hl 0 rfl) ?_
      exact z_iret hx hb hr hlocks hI (have hzz : zone i (zby x b L p1) = -1 := if_pos (Int32.not_le.mp c_10); Or.inr ⟨by rw [hzz]; decide, rfl, hzz⟩) dX5_takeOneOf_39
    · skip
      exact absurd (by decide) c_25
set_option maxHeartbeats 1000000 in
set_option maxRecDepth 100000 in
theorem c_X5_spelled (l : Launch) {G : zG} (hG : zOK G) (aK aV : Nat → Nat) (x : zX) (w : Int32)  : zMaS l yX5_spelled wsX5_spelled { frames := 0, cells := 0, slots := 0, locals := 0 } G aK aV [.int w] x (fun (u : zX × Nat) => (x, aK (zsp w)) = u) := by
  intro A
  refine zBodyS (cc := cX5_spelled) (maxL := 1) (ret := (some (.object "java/lang/String"))) (by decide) rfl (Nat.le_of_ble_eq_true rfl) ?_
  intro p e s m below meth c hx hb hml hown hts hr hlocks hK hN hSS hI ls hl
  have hown : s.vm.findClass RX5 = some m.cls := hown
  have hl : lv_has ls 1 [(0, .int w)] := hl
  refine lv_iload_n hx hb dX5_spelled_0 rfl (lv_at hl 0 rfl) ?_
  by_cases q1_0 : w = (nI 0)
  · skip
    refine lv_tableIn (off := 27) (tgt := 28) hx hb dX5_spelled_1 (by rw [q1_0]; decide) (by rw [q1_0]; decide) (by rw [q1_0]; rfl) (by decide) ?_
    refine va_ldcS hx hb hown (hSS.1 0 (97, "learn") rfl) dX5_spelled_28 ?_
    exact z_aret hx hb hr (Or.inl ⟨_, rfl⟩) hlocks hI (congrArg (fun q => (x, aK q)) (show zsp w = _ from by unfold zsp; rw [if_pos q1_0])) dX5_spelled_30
  by_cases q1_1 : w = (nI 1)
  · skip
    refine lv_tableIn (off := 30) (tgt := 31) hx hb dX5_spelled_1 (by rw [q1_1]; decide) (by rw [q1_1]; decide) (by rw [q1_1]; rfl) (by decide) ?_
    refine va_ldcS hx hb hown (hSS.1 1 (99, "loud") rfl) dX5_spelled_31 ?_
    exact z_aret hx hb hr (Or.inl ⟨_, rfl⟩) hlocks hI (congrArg (fun q => (x, aK q)) (show zsp w = _ from by unfold zsp; rw [if_neg q1_0, if_pos q1_1])) dX5_spelled_33
  by_cases q1_2 : w = (nI 2)
  · skip
    refine lv_tableIn (off := 33) (tgt := 34) hx hb dX5_spelled_1 (by rw [q1_2]; decide) (by rw [q1_2]; decide) (by rw [q1_2]; rfl) (by decide) ?_
    refine va_ldcS hx hb hown (hSS.1 2 (101, "bar") rfl) dX5_spelled_34 ?_
    exact z_aret hx hb hr (Or.inl ⟨_, rfl⟩) hlocks hI (congrArg (fun q => (x, aK q)) (show zsp w = _ from by unfold zsp; rw [if_neg q1_0, if_neg q1_1, if_pos q1_2])) dX5_spelled_36
  refine lv_tableOut (tgt := 37) hx hb dX5_spelled_1 (by have := lv_neT (a := 0) q1_0 rfl; have := lv_neT (a := 1) q1_1 rfl; have := lv_neT (a := 2) q1_2 rfl; omega) (by decide) ?_
  refine va_ldcS hx hb hown (hSS.1 3 (103, "hush") rfl) dX5_spelled_37 ?_
  exact z_aret hx hb hr (Or.inl ⟨_, rfl⟩) hlocks hI (congrArg (fun q => (x, aK q)) (show zsp w = _ from by unfold zsp; rw [if_neg q1_0, if_neg q1_1, if_neg q1_2])) dX5_spelled_39
set_option maxHeartbeats 1000000 in
set_option maxRecDepth 100000 in
theorem c_X5_takesAll (l : Launch) {G : zG} (hG : zOK G) (aK aV : Nat → Nat) (x : zX) (b L p1 : Nat) (cs : List Int32) (i : Nat) (hb0 : zRm b) (hL : x.1 b 8 = nI L) (hL9 : L ≤ 100) (htx : zTx x b) (hpL : p1 ≤ L) (hcs : cs.length ≤ 100) (hi : i < 6) : zMiS l yX5_takesAll wsX5_takesAll { frames := 4, cells := 0, slots := 0, locals := 85 } G aK aV [.ref (za G b), .ref (aK i)] (zpz x b p1 cs) (fun (r : Int32) (u : zX) => zr3 x b (zwd (zby x b L) i p1 cs) r u) := by
  intro A
  refine zBodyS (cc := cX5_takesAll) (maxL := 3) (ret := (some .boolean)) (by decide) rfl (Nat.le_of_ble_eq_true rfl) ?_
  intro p e s m below meth c hx hb hml hown hts hr hlocks hK hN hSS hI ls hl
  have hown : s.vm.findClass RX5 = some m.cls := hown
  have hl : lv_has ls 3 [(0, .ref (za G b)), (1, .ref (aK i))] := hl
  have hlt := zsl_lt hi
  refine lv_iconst (v := (nI 0)) hx hb dX5_takesAll_0 rfl ?_
  refine lv_istore_n (lv' := [(2, .int (nI 0)), (0, .ref (za G b)), (1, .ref (aK i))]) hx hb dX5_takesAll_1 rfl hl (by decide) rfl (fun ls hl => ?_)
  have L2 : ∀ (f : Nat) (k : Nat), (k ≤ zSlen.getD i 0) → (zwm (zby x b L) i p1 k = k) → zSlen.getD i 0 + 1 ≤ k + f → ∀ (H : Heap) (locs : List Loc), zI G (zpz x b (p1 + k) cs) A s.heap H locs → ∀ ls : Array Slot, lv_has ls 3 [(0, .ref (za G b)), (1, .ref (aK i)), (2, .int (nI k))] → W p l e { frames := 4, cells := 0, slots := 0, locals := 85 } s m ([.ref (za G b), .ref (aK i)] : List Value).toArray below meth c H locs 0 0 (MQ below (va_Qi (fun (r : Int32) (u : zX) => zr3 x b (zwd (zby x b L) i p1 cs) r u) (fun u t => zJ G u A t.heap) A) ([.ref (za G b), .ref (aK i)] : List Value).toArray s 0 0 A) (F0 m 2 ls []) := by
    intro f
    induction f with
    | zero =>
      intro k h1 h2 hf
      exact absurd hf (by omega)
    | succ f ih =>
      intro k h1 h2 hf H locs hI ls hl
      have ih2 := ih
      refine lv_iload_n hx hb dX5_takesAll_2 rfl (lv_at hl 2 rfl) ?_
      refine lv_aload_n hx hb dX5_takesAll_3 rfl (lv_at hl 1 rfl) ?_
      refine z_calli (va_runV (As := []) (rest := [.int (nI k)]) ⟨hx, hb, hml, hown, hts⟩ ((c_J0_length_8abf5 l hG aK aV (zpz x b (p1 + k) cs) i hi) A) (cwV 0 hts gX5_takesAll_J0_length_8abf5 rfl rfl rfl (by decide +kernel) ⟨Nat.le_of_ble_eq_true rfl, Nat.le_of_ble_eq_true rfl⟩) (z_pVS hI hK hN hSS (vk_recv hSS.2.1 hi hI.2)) rfl rfl hl.1 rfl (lv_room (Nat.le_of_ble_eq_true rfl)) dX5_takesAll_4 ⟨Nat.zero_le _, Nat.zero_le _⟩) hI (fun r_4 u H locs hw hI => ?_)
      obtain ⟨rfl, rfl⟩ := hw
      refine lv_icmp_ge (tgt := 30) hx hb dX5_takesAll_7 (by decide) (fun c_7 => ?_) (fun c_7 => ?_)
      · skip
        rw [zqG (by omega) (by omega)] at c_7
        have hw0 : zwm (zby x b L) i p1 (zSlen.getD i 0) = zSlen.getD i 0 := by rw [show zSlen.getD i 0 = k by omega]; exact h2
        refine lv_iconst (v := (nI 1)) hx hb dX5_takesAll_30 rfl ?_
        exact z_zret hx hb hr hlocks hI (Or.inr rfl) (⟨by unfold zwd; rw [hw0, show k = zSlen.getD i 0 by omega], by unfold zwd; rw [hw0]; exact if_pos (decide_eq_true rfl)⟩) dX5_takesAll_31
      · skip
        rw [zqG (by omega) (by omega)] at c_7
        refine lv_aload_n hx hb dX5_takesAll_10 rfl (lv_at hl 0 rfl) ?_
        refine lv_aload_n hx hb dX5_takesAll_11 rfl (lv_at hl 1 rfl) ?_
        refine lv_iload_n hx hb dX5_takesAll_12 rfl (lv_at hl 2 rfl) ?_
        have hpk : p1 + k ≤ L := by have h9 := zwm_in (T := zby x b L) zby_e hi hpL k (by omega); rw [h2] at h9; exact h9
        refine z_calli (va_runV (As := [.int (nI k)]) (rest := [.ref (za G b)]) ⟨hx, hb, hml, hown, hts⟩ ((c_J0_charAt_5068e l hG aK aV (zpz x b (p1 + k) cs) i k hi (by omega)) A) (cwV 1 hts gX5_takesAll_J0_charAt_5068e rfl rfl rfl (by decide +kernel) ⟨Nat.le_of_ble_eq_true rfl, Nat.le_of_ble_eq_true rfl⟩) (z_pVS hI hK hN hSS (vk_recv hSS.2.1 hi hI.2)) rfl rfl hl.1 rfl (lv_room (Nat.le_of_ble_eq_true rfl)) dX5_takesAll_13 ⟨Nat.zero_le _, Nat.zero_le _⟩) hI (fun r_13 u H locs hw hI => ?_)
        obtain ⟨rfl, rfl⟩ := hw
        refine z_calli (va_runV (As := [.int ((zSbyt.getD i []).getD k 0)]) (rest := []) ⟨hx, hb, hml, hown, hts⟩ ((c_X5_takesZ l hG x b L (p1 + k) cs ((zSbyt.getD i []).getD k 0) hb0 hL hL9 hpk) A) (cwV 1 hts gX5_takesAll_X5_takes rfl rfl rfl (by decide +kernel) ⟨Nat.le_of_ble_eq_true rfl, Nat.le_of_ble_eq_true rfl⟩) (z_pV hI hK hN (z_recv hK hI (zor hG hb0) rfl)) rfl rfl hl.1 rfl (lv_room (Nat.le_of_ble_eq_true rfl)) dX5_takesAll_16 ⟨Nat.zero_le _, Nat.zero_le _⟩) hI (fun r_16 u H locs hw hI => ?_)
        obtain ⟨rfl, rfl⟩ := hw
        have hin_16 : zIn L (ztke (zby x b L) ((zSbyt.getD i []).getD k 0) (p1 + k) cs) := ztke_in zby_e (zsb_ne ⟨i, hi⟩ ⟨k, by omega⟩) hpk hcs
        refine lv_if_ne (tgt := 24) hx hb dX5_takesAll_19 (by decide) (fun c_19 => ?_) (fun c_19 => ?_)
        · skip
          rw [zb_0, Classical.not_not] at c_19
          have hI : zI G (zpz x b (p1 + (k + 1)) cs) A s.heap H locs := by rw [ztke_p c_19] at hI; exact hI
          refine lv_iinc (v := (nI (k + 1))) (lv' := [(2, .int (nI (k + 1))), (0, .ref (za G b)), (1, .ref (aK i))]) hx hb dX5_takesAll_24 hl (k := 2) rfl (zinc k) (by decide) rfl (fun ls hl => ?_)
          refine lv_goto (tgt := 2) hx hb dX5_takesAll_27 (by decide) ?_
          exact ih2 (k + 1) (by omega) (zwm_s h2 (ztke_c c_19)) (by omega) _ _ hI ls (lv_sub hl [1, 2, 0] rfl)
        · skip
          rw [zb_0] at c_19
          have hI : zI G (zpz x b (p1 + k) cs) A s.heap H locs := by rw [ztke_f c_19] at hI; exact hI
          have hw0 : zwm (zby x b L) i p1 (zSlen.getD i 0) = k := by rw [show zSlen.getD i 0 = k + 1 + (zSlen.getD i 0 - (k + 1)) by omega]; exact zwm_x h2 (ztke_d c_19) _
          refine lv_iconst (v := (nI 0)) hx hb dX5_takesAll_22 rfl ?_
          exact z_zret hx hb hr hlocks hI (Or.inl rfl) (⟨by unfold zwd; rw [hw0], by unfold zwd; rw [hw0]; exact if_neg (fun h9 => absurd (of_decide_eq_true h9) (by omega))⟩) dX5_takesAll_23
  exact L2 (zSlen.getD i 0 + 1) 0 (by omega) rfl (by omega) _ _ hI ls (lv_sub hl [1, 2, 0] rfl)
theorem c_X5_takeOneOfZ (l : Launch) {G : zG} (hG : zOK G) (aK aV : Nat → Nat) (x : zX) (b L p i : Nat) (cs : List Int32) (hb0 : zRm b) (hL : x.1 b 8 = nI L) (hL9 : L ≤ 100) (htx : zTx x b) (hi : i < 6) (hp : p ≤ L) : zMiS l yX5_takeOneOf wsX5_takeOneOf { frames := 4, cells := 0, slots := 0, locals := 106 } G aK aV [.ref (za G b), .ref (aK i)] (zpz x b p cs) (fun r u => zpz x b (if zone i (zby x b L p) < 0 then p else p + 1) cs = u ∧ zone i (zby x b L p) = r) :=
  zMiS_mono (c_X5_takeOneOf l hG aK aV (zpz x b p cs) b L p i hb0 (by rw [zpz_k (by decide) (by decide)]; exact hL) hL9 (zTx_z htx) zpz_at (by omega) hi) (fun r u h => by
    rw [zpz_by, zpz_9] at h
    rcases h with ⟨h1, rfl, rfl⟩ | ⟨h1, rfl, rfl⟩
    · rw [if_neg h1]; exact ⟨rfl, rfl⟩
    · rw [if_pos h1]; exact ⟨rfl, rfl⟩)
