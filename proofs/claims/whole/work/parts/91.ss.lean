theorem zTb_9 {G : zG} {x u : zX} {N b C : Nat} {v : Int32} (h : zTb G x N b C u) : zTb G x N b C (zsI u 0 9 v) := by
  unfold zTb
  rw [zsI_n (by decide), zsI_n (by decide), zsI_n (by decide)]
  exact h
/-- after the tables have been asked for -/
def zT7 (G : zG) (x : zX) (N b C : Nat) (u : zX) : Prop := zQ7 b x u ∧ zTb G x N b C u ∧ ¬ u.1 0 9 = 0
theorem zNow_row {G : zG} {x : zX} {N : Nat} (h : zNow G x N) : zrow (x.1 4) := by
  intro t ht
  rcases h.2.2.2.1 t ht with h1 | ⟨q, hq, h1⟩
  · exact Or.inl h1
  · exact Or.inr ⟨q, by have := h.1; omega, h1⟩
/-- how many sit at the other desk of a pupil's row -/
def zacr (x : zX) (k : Nat) : Int32 := zocc (x.1 4 (2 * (zst x k / 2 ^^^ 1))) + zocc (x.1 4 (2 * (zst x k / 2 ^^^ 1) + 1))
theorem zacr_l {x : zX} {b p q k : Nat} {row : Int32} (hb : zRm b) : zacr (zlook x b p q row) k = zacr x k := by
  have hr := zRm_b hb
  unfold zacr zst
  rw [zlook_n (by omega)]
theorem zSit_l {x : zX} {b p q N : Nat} {row : Int32} (hb : zRm b) (h : zSit x N) : zSit (zlook x b p q row) N := by
  have hr := zRm_b hb
  unfold zSit zst
  rw [zlook_n (by omega)]
  exact h
/-- the search of all sittings -/
def zsrch (u : zX) (N : Nat) (aim : Int32) : zX := zplc aim N 0 (zbg u (fun _ => -1))
/-- a fraction's terms with 2, and 7, divided out -/
def zm2 (s : Int64) : Int64 × Int64 := if lg_cmp (s - s / 2 * 2) 0 = 0 then (s / 2, 14 / 2) else (s, 14)
def zm7 (p : Int64 × Int64) : Int64 × Int64 := if lg_cmp (p.1 - p.1 / 7 * 7) 0 = 0 then (p.1 / 7, p.2 / 7) else p
theorem zm2_y {s : Int64} (h : lg_cmp (s - s / 2 * 2) 0 = 0) : zm2 s = (s / 2, 14 / 2) := if_pos h
theorem zm2_n {s : Int64} (h : ¬ lg_cmp (s - s / 2 * 2) 0 = 0) : zm2 s = (s, 14) := if_neg h
theorem zm7_y {a b : Int64} (h : lg_cmp (a - a / 7 * 7) 0 = 0) : zm7 (a, b) = (a / 7, b / 7) := if_pos h
theorem zm7_n {a b : Int64} (h : ¬ lg_cmp (a - a / 7 * 7) 0 = 0) : zm7 (a, b) = (a, b) := if_neg h
theorem zmk_y {k : Int32} {a b : Int64} (h : k = 0) : (if k = 0 then (a, b).1 else (a, b).2) = a := if_pos h
theorem zmk_n {k : Int32} {a b : Int64} (h : ¬ k = 0) : (if k = 0 then (a, b).1 else (a, b).2) = b := if_neg h
set_option maxHeartbeats 1000000 in
set_option maxRecDepth 100000 in
theorem c_X11_tables (l : Launch) {G : zG} (hG : zOK G) (x : zX) (N b C : Nat) (hn : zNow G x N) (hbz : zrix (x.1 1 6) = b) (hro : zRo x b C) (hct : ¬ x.1 0 9 = 0 → zTb G x N b C x) : zMq l yX11_tables wsX11_tables { frames := 5, cells := 0, slots := 0, locals := 141 } G [.ref (za G 0)] x (fun (o : Option Nat) (u : zX) => some 11 = o ∧ zT7 G x N b C u) := by
  intro A
  refine zBody (cc := cX11_tables) (maxL := 1) (ret := (some (.object "WhoSitsBy$Sittings"))) (by decide) rfl (Nat.le_of_ble_eq_true rfl) ?_
  intro p e s m below meth c hx hb hml hown hts hr hlocks hK hN hI ls hl
  have hown : s.vm.findClass RX11 = some m.cls := hown
  have hl : lv_has ls 1 [(0, .ref (za G 0))] := hl
  have hin7 : ∀ w ∈ wsX70, w ∈ wsX11_tables := (fun _ h => List.mem_cons_of_mem _ (List.mem_append_left _ (List.mem_append_left _ (List.mem_append_left _ (List.mem_append_left _ (List.mem_append_left _ (List.mem_append_left _ (List.mem_append_left _ (List.mem_append_left _ (List.mem_append_left _ (List.mem_append_right _ (h))))))))))))
  have hin11 : ∀ w ∈ wsX110, w ∈ wsX11_tables := (fun _ h => List.mem_cons_of_mem _ (List.mem_append_left _ (List.mem_append_left _ (List.mem_append_left _ (List.mem_append_left _ (List.mem_append_left _ (List.mem_append_left _ (List.mem_append_left _ (List.mem_append_left _ (List.mem_append_left _ (List.mem_append_left _ (List.mem_append_right _ (h)))))))))))))
  have wF78 := hts (.fieldLink RX11 78 "WhoSitsBy" "counted" "Z") (z_mem 1 rfl)
  have wF39 := hts (.fieldLink RX11 39 "WhoSitsBy" "sittings" "LWhoSitsBy$Sittings;") (z_mem 2 rfl)
  have wF12 := hts (.fieldLink RX11 12 "WhoSitsBy" "now" "LWhoSitsBy$Standing;") (z_mem 3 rfl)
  have wF150 := hts (.fieldLink RX11 150 "WhoSitsBy$Standing" "held" "I") (z_mem 4 rfl)
  have hb0 : zRm b := hbz ▸ zrix_ok _
  refine lv_aload_n hx hb dX11_tables_0 rfl (lv_at hl 0 rfl) ?_
  refine z_get (C := RX11) (T := TX11) (N := 14) (ci := 11) (v := .int (x.1 0 9)) hx hb hts hin11 hown hK hI (zo0 hG) rfl 9 (by decide) wF78 (fun _ h9 => h9) rfl dX11_tables_1 ?_
  refine lv_if_ne (tgt := 34) hx hb dX11_tables_4 (by decide) (fun c_4 => ?_) (fun c_4 => ?_)
  · skip
    refine lv_aload_n hx hb dX11_tables_34 rfl (lv_at hl 0 rfl) ?_
    refine z_get (C := RX11) (T := TX11) (N := 14) (ci := 11) (v := .ref (za G 11)) hx hb hts hin11 hown hK hI (zo0 hG) rfl 8 (by decide) wF39 (fun _ h9 => h9) rfl dX11_tables_35 ?_
    exact z_qret (o := (some 11)) hx hb hr (Or.inl ⟨_, rfl⟩) hlocks hI (⟨rfl, zQ7.r, hct c_4, c_4⟩) dX11_tables_38
  · skip
    refine lv_aload_n hx hb dX11_tables_7 rfl (lv_at hl 0 rfl) ?_
    refine z_get (C := RX11) (T := TX11) (N := 14) (ci := 11) (v := .ref (za G 11)) hx hb hts hin11 hown hK hI (zo0 hG) rfl 8 (by decide) wF39 (fun _ h9 => h9) rfl dX11_tables_8 ?_
    refine lv_aload_n hx hb dX11_tables_11 rfl (lv_at hl 0 rfl) ?_
    refine z_get (C := RX11) (T := TX11) (N := 14) (ci := 11) (v := .ref (za G 1)) hx hb hts hin11 hown hK hI (zo0 hG) rfl 0 (by decide) wF12 (fun _ h9 => h9) rfl dX11_tables_12 ?_
    refine lv_aload_n hx hb dX11_tables_15 rfl (lv_at hl 0 rfl) ?_
    refine lv_aload_n hx hb dX11_tables_16 rfl (lv_at hl 0 rfl) ?_
    refine z_get (C := RX11) (T := TX11) (N := 14) (ci := 11) (v := .ref (za G 1)) hx hb hts hin11 hown hK hI (zo0 hG) rfl 0 (by decide) wF12 (fun _ h9 => h9) rfl dX11_tables_17 ?_
    refine z_get (C := RX7) (T := TX7) (N := 7) (ci := 7) (v := .int (x.1 1 6)) hx hb hts hin7 hown hK hI (zo1 hG) rfl 6 (by decide) wF150 (fun _ h9 => h9) rfl dX11_tables_20 ?_
    refine z_callq (va_runV (As := [.int (x.1 1 6)]) (rest := [.ref (za G 1), .ref (za G 11)]) ⟨hx, hb, hml, hown, hts⟩ ((c_X11_roomAt l hG x (x.1 1 6)) A) (cwV 1 hts gX11_tables_X11_roomAt rfl rfl rfl (by decide +kernel) ⟨Nat.le_of_ble_eq_true rfl, Nat.le_of_ble_eq_true rfl⟩) (z_pV hI hK hN (z_recv hK hI (zo0 hG) rfl)) rfl rfl hl.1 rfl (lv_room (Nat.le_of_ble_eq_true rfl)) dX11_tables_23 ⟨Nat.zero_le _, Nat.zero_le _⟩) hI (fun r_23 u H locs hw hI => ?_)
    obtain ⟨rfl, rfl⟩ := hw
    rw [hbz]
    refine z_callv (va_runV (As := [.ref (za G 1), .ref (za G b)]) (rest := []) ⟨hx, hb, hml, hown, hts⟩ ((c_X6_fill l hG x N b C hn hb0 hro) A) (cwV 2 hts gX11_tables_X6_fill rfl rfl rfl (by decide +kernel) ⟨Nat.le_of_ble_eq_true rfl, Nat.le_of_ble_eq_true rfl⟩) (z_pV hI hK hN (z_recv hK hI (zo11 hG) rfl)) rfl rfl hl.1 rfl (lv_room (Nat.le_of_ble_eq_true rfl)) dX11_tables_26 ⟨Nat.zero_le _, Nat.zero_le _⟩) hI (fun u H locs hw hI => ?_)
    obtain ⟨hQ, hT⟩ := hw
    refine lv_aload_n hx hb dX11_tables_29 rfl (lv_at hl 0 rfl) ?_
    refine lv_iconst (v := (nI 1)) hx hb dX11_tables_30 rfl ?_
    refine z_putI (C := RX11) (T := TX11) (N := 14) (ci := 11) (ty := .boolean) hx hb hts hin11 tyX11 tyX11_ok nmX11 hown hK hI (zo0 hG) rfl 9 (by decide) wF78 (fun _ h9 => h9) rfl (fun _ _ => rfl) (by decide +kernel) rfl rfl (fun _ _ => Nat.le_of_ble_eq_true rfl) dX11_tables_31 (fun H locs hI => ?_)
    refine lv_aload_n hx hb dX11_tables_34 rfl (lv_at hl 0 rfl) ?_
    refine z_get (C := RX11) (T := TX11) (N := 14) (ci := 11) (v := .ref (za G 11)) hx hb hts hin11 hown hK hI (zo0 hG) rfl 8 (by decide) wF39 (fun _ h9 => h9) rfl dX11_tables_35 ?_
    exact z_qret (o := (some 11)) hx hb hr (Or.inl ⟨_, rfl⟩) hlocks hI (⟨rfl, hQ.q7 hb0, zTb_9 hT, by rw [zsI_u]; exact fun h9 => absurd (show nI 1 = 0 from h9) (by decide)⟩) dX11_tables_38
set_option maxHeartbeats 1000000 in
set_option maxRecDepth 100000 in
theorem c_X11_sitting (l : Launch) {G : zG} (hG : zOK G) (x : zX) (N b C : Nat) (w : Int32) (hn : zNow G x N) (hbz : zrix (x.1 1 6) = b) (hro : zRo x b C) (hct : ¬ x.1 0 9 = 0 → zTb G x N b C x) : zMi l yX11_sitting wsX11_sitting { frames := 6, cells := 0, slots := 0, locals := 161 } G [.ref (za G 0), .int w] x (fun (r : Int32) (u : zX) => (w = nI 0 ∧ zT7 G x N b C u ∧ zwor u (u.1 4) = r) ∨ (w = nI 1 ∧ zT7 G x N b C u ∧ zbrk u (u.1 4) (nI 2) = r) ∨ (w = nI 2 ∧ x = u ∧ x.1 b 6 = r) ∨ (¬ w = nI 0 ∧ ¬ w = nI 1 ∧ ¬ w = nI 2 ∧ x = u ∧ -100001 = r)) := by
  intro A
  refine zBody (cc := cX11_sitting) (maxL := 2) (ret := (some .int)) (by decide) rfl (Nat.le_of_ble_eq_true rfl) ?_
  intro p e s m below meth c hx hb hml hown hts hr hlocks hK hN hI ls hl
  have hown : s.vm.findClass RX11 = some m.cls := hown
  have hl : lv_has ls 2 [(0, .ref (za G 0)), (1, .int w)] := hl
  have hin7 : ∀ w ∈ wsX70, w ∈ wsX11_sitting := (fun _ h => List.mem_cons_of_mem _ (List.mem_append_left _ (List.mem_append_left _ (List.mem_append_left _ (List.mem_append_left _ (List.mem_append_left _ (List.mem_append_left _ (List.mem_append_left _ (List.mem_append_left _ (List.mem_append_left _ (List.mem_append_right _ (h))))))))))))
  have hin11 : ∀ w ∈ wsX110, w ∈ wsX11_sitting := (fun _ h => List.mem_cons_of_mem _ (List.mem_append_left _ (List.mem_append_left _ (List.mem_append_left _ (List.mem_append_left _ (List.mem_append_left _ (List.mem_append_left _ (List.mem_append_left _ (List.mem_append_left _ (List.mem_append_left _ (List.mem_append_left _ (List.mem_append_right _ (h)))))))))))))
  have wF12 := hts (.fieldLink RX11 12 "WhoSitsBy" "now" "LWhoSitsBy$Standing;") (z_mem 1 rfl)
  have wF114 := hts (.fieldLink RX11 114 "WhoSitsBy$Standing" "sitters" "[I") (z_mem 2 rfl)
  have wF150 := hts (.fieldLink RX11 150 "WhoSitsBy$Standing" "held" "I") (z_mem 3 rfl)
  have wK153 := hts (.constant RX11 153 (-100001)) (z_mem 4 rfl)
  have hb0 : zRm b := hbz ▸ zrix_ok _
  have h8 := hn.1
  have hrb := zRm_b hb0
  refine lv_iload_n hx hb dX11_sitting_0 rfl (lv_at hl 1 rfl) ?_
  by_cases q1_0 : w = (nI 0)
  · skip
    refine lv_tableIn (off := 27) (tgt := 28) hx hb dX11_sitting_1 (by rw [q1_0]; decide) (by rw [q1_0]; decide) (by rw [q1_0]; rfl) (by decide) ?_
    refine lv_aload_n hx hb dX11_sitting_28 rfl (lv_at hl 0 rfl) ?_
    refine z_callq (va_runV (As := []) (rest := []) ⟨hx, hb, hml, hown, hts⟩ ((c_X11_tables l hG x N b C hn hbz hro hct) A) (cwV 0 hts gX11_sitting_X11_tables rfl rfl rfl (by decide +kernel) ⟨Nat.le_of_ble_eq_true rfl, Nat.le_of_ble_eq_true rfl⟩) (z_pV hI hK hN (z_recv hK hI (zo0 hG) rfl)) rfl rfl hl.1 rfl (lv_room (Nat.le_of_ble_eq_true rfl)) dX11_sitting_29 ⟨Nat.zero_le _, Nat.zero_le _⟩) hI (fun r_29 u H locs hw hI => ?_)
    obtain ⟨rfl, hT7⟩ := hw
    have hnu := zNow_7 hT7.1 hb0 hn
    refine lv_aload_n hx hb dX11_sitting_32 rfl (lv_at hl 0 rfl) ?_
    refine z_get (C := RX11) (T := TX11) (N := 14) (ci := 11) (v := .ref (za G 1)) hx hb hts hin11 hown hK hI (zo0 hG) rfl 0 (by decide) wF12 (fun _ h9 => h9) rfl dX11_sitting_33 ?_
    refine z_get (C := RX7) (T := TX7) (N := 7) (ci := 7) (v := .ref (za G 4)) hx hb hts hin7 hown hK hI (zo1 hG) rfl 1 (by decide) wF114 (fun _ h9 => h9) rfl dX11_sitting_36 ?_
    refine z_calli (va_runV (As := [.ref (za G 4)]) (rest := []) ⟨hx, hb, hml, hown, hts⟩ ((c_X6_worthOf l hG u 4 (zo4 hG) (zNow_row hnu)) A) (cwV 1 hts gX11_sitting_X6_worthOf rfl rfl rfl (by decide +kernel) ⟨Nat.le_of_ble_eq_true rfl, Nat.le_of_ble_eq_true rfl⟩) (z_pV hI hK hN (z_recv hK hI (zo11 hG) rfl)) rfl rfl hl.1 rfl (lv_room (Nat.le_of_ble_eq_true rfl)) dX11_sitting_39 ⟨Nat.zero_le _, Nat.zero_le _⟩) hI (fun r_39 u H locs hw hI => ?_)
    obtain ⟨rfl, rfl⟩ := hw
    exact z_iret hx hb hr hlocks hI (Or.inl ⟨q1_0, hT7, rfl⟩) dX11_sitting_42
  by_cases q1_1 : w = (nI 1)
  · skip
    refine lv_tableIn (off := 42) (tgt := 43) hx hb dX11_sitting_1 (by rw [q1_1]; decide) (by rw [q1_1]; decide) (by rw [q1_1]; rfl) (by decide) ?_
    refine lv_aload_n hx hb dX11_sitting_43 rfl (lv_at hl 0 rfl) ?_
    refine z_callq (va_runV (As := []) (rest := []) ⟨hx, hb, hml, hown, hts⟩ ((c_X11_tables l hG x N b C hn hbz hro hct) A) (cwV 0 hts gX11_sitting_X11_tables rfl rfl rfl (by decide +kernel) ⟨Nat.le_of_ble_eq_true rfl, Nat.le_of_ble_eq_true rfl⟩) (z_pV hI hK hN (z_recv hK hI (zo0 hG) rfl)) rfl rfl hl.1 rfl (lv_room (Nat.le_of_ble_eq_true rfl)) dX11_sitting_44 ⟨Nat.zero_le _, Nat.zero_le _⟩) hI (fun r_44 u H locs hw hI => ?_)
    obtain ⟨rfl, hT7⟩ := hw
    have hnu := zNow_7 hT7.1 hb0 hn
    refine lv_aload_n hx hb dX11_sitting_47 rfl (lv_at hl 0 rfl) ?_
    refine z_get (C := RX11) (T := TX11) (N := 14) (ci := 11) (v := .ref (za G 1)) hx hb hts hin11 hown hK hI (zo0 hG) rfl 0 (by decide) wF12 (fun _ h9 => h9) rfl dX11_sitting_48 ?_
    refine z_get (C := RX7) (T := TX7) (N := 7) (ci := 7) (v := .ref (za G 4)) hx hb hts hin7 hown hK hI (zo1 hG) rfl 1 (by decide) wF114 (fun _ h9 => h9) rfl dX11_sitting_51 ?_
    refine lv_aload_n hx hb dX11_sitting_54 rfl (lv_at hl 0 rfl) ?_
    refine z_get (C := RX11) (T := TX11) (N := 14) (ci := 11) (v := .ref (za G 1)) hx hb hts hin11 hown hK hI (zo0 hG) rfl 0 (by decide) wF12 (fun _ h9 => h9) rfl dX11_sitting_55 ?_
    refine lv_iconst (v := (nI 2)) hx hb dX11_sitting_58 rfl ?_
    refine z_calli (va_runV (As := [.ref (za G 4), .ref (za G 1), .int (nI 2)]) (rest := []) ⟨hx, hb, hml, hown, hts⟩ ((c_X6_breaksOf l hG u 4 (nI 2) (zo4 hG)) A) (cwV 3 hts gX11_sitting_X6_breaksOf rfl rfl rfl (by decide +kernel) ⟨Nat.le_of_ble_eq_true rfl, Nat.le_of_ble_eq_true rfl⟩) (z_pV hI hK hN (z_recv hK hI (zo11 hG) rfl)) rfl rfl hl.1 rfl (lv_room (Nat.le_of_ble_eq_true rfl)) dX11_sitting_59 ⟨Nat.zero_le _, Nat.zero_le _⟩) hI (fun r_59 u H locs hw hI => ?_)
    obtain ⟨rfl, rfl⟩ := hw
    exact z_iret hx hb hr hlocks hI (Or.inr (Or.inl ⟨q1_1, hT7, rfl⟩)) dX11_sitting_62
  by_cases q1_2 : w = (nI 2)
  · skip
    refine lv_tableIn (off := 62) (tgt := 63) hx hb dX11_sitting_1 (by rw [q1_2]; decide) (by rw [q1_2]; decide) (by rw [q1_2]; rfl) (by decide) ?_
    refine lv_aload_n hx hb dX11_sitting_63 rfl (lv_at hl 0 rfl) ?_
    refine lv_aload_n hx hb dX11_sitting_64 rfl (lv_at hl 0 rfl) ?_
    refine z_get (C := RX11) (T := TX11) (N := 14) (ci := 11) (v := .ref (za G 1)) hx hb hts hin11 hown hK hI (zo0 hG) rfl 0 (by decide) wF12 (fun _ h9 => h9) rfl dX11_sitting_65 ?_
    refine z_get (C := RX7) (T := TX7) (N := 7) (ci := 7) (v := .int (x.1 1 6)) hx hb hts hin7 hown hK hI (zo1 hG) rfl 6 (by decide) wF150 (fun _ h9 => h9) rfl dX11_sitting_68 ?_
    refine z_callq (va_runV (As := [.int (x.1 1 6)]) (rest := []) ⟨hx, hb, hml, hown, hts⟩ ((c_X11_roomAt l hG x (x.1 1 6)) A) (cwV 1 hts gX11_sitting_X11_roomAt rfl rfl rfl (by decide +kernel) ⟨Nat.le_of_ble_eq_true rfl, Nat.le_of_ble_eq_true rfl⟩) (z_pV hI hK hN (z_recv hK hI (zo0 hG) rfl)) rfl rfl hl.1 rfl (lv_room (Nat.le_of_ble_eq_true rfl)) dX11_sitting_71 ⟨Nat.zero_le _, Nat.zero_le _⟩) hI (fun r_71 u H locs hw hI => ?_)
    obtain ⟨rfl, rfl⟩ := hw
    rw [hbz]
    refine z_calli (va_runV (As := []) (rest := []) ⟨hx, hb, hml, hown, hts⟩ ((c_X5_hush l hG x b hb0) A) (cwV 0 hts gX11_sitting_X5_hush rfl rfl rfl (by decide +kernel) ⟨Nat.le_of_ble_eq_true rfl, Nat.le_of_ble_eq_true rfl⟩) (z_pV hI hK hN (z_recv hK hI (zor hG hb0) rfl)) rfl rfl hl.1 rfl (lv_room (Nat.le_of_ble_eq_true rfl)) dX11_sitting_74 ⟨Nat.zero_le _, Nat.zero_le _⟩) hI (fun r_74 u H locs hw hI => ?_)
    obtain ⟨rfl, rfl⟩ := hw
    exact z_iret hx hb hr hlocks hI (Or.inr (Or.inr (Or.inl ⟨q1_2, rfl, rfl⟩))) dX11_sitting_77
  refine lv_tableOut (tgt := 78) hx hb dX11_sitting_1 (by have := lv_neT (a := 0) q1_0 rfl; have := lv_neT (a := 1) q1_1 rfl; have := lv_neT (a := 2) q1_2 rfl; omega) (by decide) ?_
  refine lv_ldc (v := (-100001)) hx hb hown wK153 dX11_sitting_78 ?_
  exact z_iret hx hb hr hlocks hI (Or.inr (Or.inr (Or.inr ⟨q1_0, q1_1, q1_2, rfl, rfl⟩))) dX11_sitting_80
set_option maxHeartbeats 1000000 in
set_option maxRecDepth 100000 in
theorem c_X11_swap (l : Launch) {G : zG} (hG : zOK G) (x : zX) (N b C : Nat) (hn : zNow G x N) (hbz : zrix (x.1 1 6) = b) (hro : zRo x b C) (hct : ¬ x.1 0 9 = 0 → zTb G x N b C x) : zMi l yX11_swap wsX11_swap { frames := 6, cells := 0, slots := 0, locals := 161 } G [.ref (za G 0)] x (fun (r : Int32) (u : zX) => ∃ v, zT7 G x N b C v ∧ (zxout 8 (zweigh (zbg v (v.1 4)) (nI 2), -5)) = (u, r)) := by
  intro A
  refine zBody (cc := cX11_swap) (maxL := 1) (ret := (some .int)) (by decide) rfl (Nat.le_of_ble_eq_true rfl) ?_
  intro p e s m below meth c hx hb hml hown hts hr hlocks hK hN hI ls hl
  have hown : s.vm.findClass RX11 = some m.cls := hown
  have hl : lv_has ls 1 [(0, .ref (za G 0))] := hl
  have hin11 : ∀ w ∈ wsX110, w ∈ wsX11_swap := (fun _ h => List.mem_cons_of_mem _ (List.mem_append_left _ (List.mem_append_left _ (List.mem_append_left _ (List.mem_append_left _ (List.mem_append_left _ (List.mem_append_left _ (List.mem_append_left _ (List.mem_append_left _ (List.mem_append_left _ (List.mem_append_left _ (List.mem_append_right _ (h)))))))))))))
  have wF12 := hts (.fieldLink RX11 12 "WhoSitsBy" "now" "LWhoSitsBy$Standing;") (z_mem 1 rfl)
  have hb0 : zRm b := hbz ▸ zrix_ok _
  have h8 := hn.1
  have hrb := zRm_b hb0
  refine lv_aload_n hx hb dX11_swap_0 rfl (lv_at hl 0 rfl) ?_
  refine z_callq (va_runV (As := []) (rest := []) ⟨hx, hb, hml, hown, hts⟩ ((c_X11_tables l hG x N b C hn hbz hro hct) A) (cwV 0 hts gX11_swap_X11_tables rfl rfl rfl (by decide +kernel) ⟨Nat.le_of_ble_eq_true rfl, Nat.le_of_ble_eq_true rfl⟩) (z_pV hI hK hN (z_recv hK hI (zo0 hG) rfl)) rfl rfl hl.1 rfl (lv_room (Nat.le_of_ble_eq_true rfl)) dX11_swap_1 ⟨Nat.zero_le _, Nat.zero_le _⟩) hI (fun r_1 u H locs hw hI => ?_)
  obtain ⟨rfl, hT7⟩ := hw
  have hnu := zNow_7 hT7.1 hb0 hn
  refine lv_aload_n hx hb dX11_swap_4 rfl (lv_at hl 0 rfl) ?_
  refine z_get (C := RX11) (T := TX11) (N := 14) (ci := 11) (v := .ref (za G 1)) hx hb hts hin11 hown hK hI (zo0 hG) rfl 0 (by decide) wF12 (fun _ h9 => h9) rfl dX11_swap_5 ?_
  have hw9 := hT7
  refine z_calli (va_runV (As := [.ref (za G 1)]) (rest := []) ⟨hx, hb, hml, hown, hts⟩ ((c_X6_bestExchange l hG u (zNow_row hnu)) A) (cwV 1 hts gX11_swap_X6_bestExchange rfl rfl rfl (by decide +kernel) ⟨Nat.le_of_ble_eq_true rfl, Nat.le_of_ble_eq_true rfl⟩) (z_pV hI hK hN (z_recv hK hI (zo11 hG) rfl)) rfl rfl hl.1 rfl (lv_room (Nat.le_of_ble_eq_true rfl)) dX11_swap_8 ⟨Nat.zero_le _, Nat.zero_le _⟩) hI (fun r_8 u H locs hw hI => ?_)
  exact z_iret hx hb hr hlocks hI (⟨_, hw9, hw⟩) dX11_swap_11
set_option maxHeartbeats 1000000 in
set_option maxRecDepth 100000 in
theorem c_X11_best (l : Launch) {G : zG} (hG : zOK G) (x : zX) (N b C : Nat) (k : Int32) (hn : zNow G x N) (hbz : zrix (x.1 1 6) = b) (hro : zRo x b C) (hct : ¬ x.1 0 9 = 0 → zTb G x N b C x) : zMi l yX11_best wsX11_best { frames := 12, cells := 0, slots := 0, locals := 300 } G [.ref (za G 0), .int k] x (fun (r : Int32) (u : zX) => (¬ (¬ k < -2 ∧ k < nI N) ∧ x = u ∧ -100001 = r) ∨ ((¬ k < -2 ∧ k < nI N) ∧ 5 < N ∧ x = u ∧ -9 = r) ∨ ((¬ k < -2 ∧ k < nI N) ∧ N ≤ 5 ∧ ∃ v, zT7 G x N b C v ∧ zsrch v N (nI 2) = u ∧ (if k = -2 then u.1 11 6 else if k = -1 then u.1 11 7 else zfind (u.1 16) k 0 8) = r)) := by
  intro A
  refine zBody (cc := cX11_best) (maxL := 3) (ret := (some .int)) (by decide) rfl (Nat.le_of_ble_eq_true rfl) ?_
  intro p e s m below meth c hx hb hml hown hts hr hlocks hK hN hI ls hl
  have hown : s.vm.findClass RX11 = some m.cls := hown
  have hl : lv_has ls 3 [(0, .ref (za G 0)), (1, .int k)] := hl
  have hin6 : ∀ w ∈ wsX60, w ∈ wsX11_best := (fun _ h => List.mem_cons_of_mem _ (List.mem_append_left _ (List.mem_append_left _ (List.mem_append_left _ (List.mem_append_left _ (List.mem_append_left _ (List.mem_append_left _ (List.mem_append_left _ (List.mem_append_left _ (List.mem_append_right _ (h)))))))))))
  have hin7 : ∀ w ∈ wsX70, w ∈ wsX11_best := (fun _ h => List.mem_cons_of_mem _ (List.mem_append_left _ (List.mem_append_left _ (List.mem_append_left _ (List.mem_append_left _ (List.mem_append_left _ (List.mem_append_left _ (List.mem_append_left _ (List.mem_append_left _ (List.mem_append_left _ (List.mem_append_right _ (h))))))))))))
  have hin11 : ∀ w ∈ wsX110, w ∈ wsX11_best := (fun _ h => List.mem_cons_of_mem _ (List.mem_append_left _ (List.mem_append_left _ (List.mem_append_left _ (List.mem_append_left _ (List.mem_append_left _ (List.mem_append_left _ (List.mem_append_left _ (List.mem_append_left _ (List.mem_append_left _ (List.mem_append_left _ (List.mem_append_right _ (h)))))))))))))
  have wK153 := hts (.constant RX11 153 (-100001)) (z_mem 3 rfl)
  have wF12 := hts (.fieldLink RX11 12 "WhoSitsBy" "now" "LWhoSitsBy$Standing;") (z_mem 1 rfl)
  have wF66 := hts (.fieldLink RX11 66 "WhoSitsBy$Standing" "size" "I") (z_mem 2 rfl)
  have wF204 := hts (.fieldLink RX11 204 "WhoSitsBy$Sittings" "found" "[I") (z_mem 6 rfl)
  have wF201 := hts (.fieldLink RX11 201 "WhoSitsBy$Sittings" "foundWorth" "I") (z_mem 5 rfl)
  have wF198 := hts (.fieldLink RX11 198 "WhoSitsBy$Sittings" "foundBreaks" "I") (z_mem 4 rfl)
  have hb0 : zRm b := hbz ▸ zrix_ok _
  have h8 := hn.1
  have hrb := zRm_b hb0
  refine lv_iload_n hx hb dX11_best_0 rfl (lv_at hl 1 rfl) ?_
  refine lv_bipush (v := (-2)) hx hb dX11_best_1 rfl ?_
  refine lv_icmp_lt (tgt := 17) hx hb dX11_best_3 (by decide) (fun c_3 => ?_) (fun c_3 => ?_)
  · skip
    refine lv_ldc (v := (-100001)) hx hb hown wK153 dX11_best_17 ?_
    exact z_iret hx hb hr hlocks hI (Or.inl ⟨fun h => h.1 c_3, rfl, rfl⟩) dX11_best_19
  · skip
    refine lv_iload_n hx hb dX11_best_6 rfl (lv_at hl 1 rfl) ?_
    refine lv_aload_n hx hb dX11_best_7 rfl (lv_at hl 0 rfl) ?_
    refine z_get (C := RX11) (T := TX11) (N := 14) (ci := 11) (v := .ref (za G 1)) hx hb hts hin11 hown hK hI (zo0 hG) rfl 0 (by decide) wF12 (fun _ h9 => h9) rfl dX11_best_8 ?_
    refine z_get (C := RX7) (T := TX7) (N := 7) (ci := 7) (v := .int (nI N)) hx hb hts hin7 hown hK hI (zo1 hG) rfl 3 (by decide) wF66 (fun _ h9 => h9) (congrArg (fun q => some (Value.int q)) hn.2.1) dX11_best_11 ?_
    refine lv_icmp_lt (tgt := 20) hx hb dX11_best_14 (by decide) (fun c_14 => ?_) (fun c_14 => ?_)
    · skip
      refine lv_aload_n hx hb dX11_best_20 rfl (lv_at hl 0 rfl) ?_
      refine z_get (C := RX11) (T := TX11) (N := 14) (ci := 11) (v := .ref (za G 1)) hx hb hts hin11 hown hK hI (zo0 hG) rfl 0 (by decide) wF12 (fun _ h9 => h9) rfl dX11_best_21 ?_
      refine z_get (C := RX7) (T := TX7) (N := 7) (ci := 7) (v := .int (nI N)) hx hb hts hin7 hown hK hI (zo1 hG) rfl 3 (by decide) wF66 (fun _ h9 => h9) (congrArg (fun q => some (Value.int q)) hn.2.1) dX11_best_24 ?_
      refine lv_iconst (v := (nI 5)) hx hb dX11_best_27 rfl ?_
      refine lv_icmp_le (tgt := 34) hx hb dX11_best_28 (by decide) (fun c_28 => ?_) (fun c_28 => ?_)
      · skip
        rw [zqG (by omega) (by omega)] at c_28
        refine lv_aload_n hx hb dX11_best_34 rfl (lv_at hl 0 rfl) ?_
        refine z_callq (va_runV (As := []) (rest := []) ⟨hx, hb, hml, hown, hts⟩ ((c_X11_tables l hG x N b C hn hbz hro hct) A) (cwV 0 hts gX11_best_X11_tables rfl rfl rfl (by decide +kernel) ⟨Nat.le_of_ble_eq_true rfl, Nat.le_of_ble_eq_true rfl⟩) (z_pV hI hK hN (z_recv hK hI (zo0 hG) rfl)) rfl rfl hl.1 rfl (lv_room (Nat.le_of_ble_eq_true rfl)) dX11_best_35 ⟨Nat.zero_le _, Nat.zero_le _⟩) hI (fun r_35 u H locs hw hI => ?_)
        obtain ⟨rfl, hT7⟩ := hw
        have hnu := zNow_7 hT7.1 hb0 hn
        refine lv_astore_n (lv' := [(2, .ref (za G 11)), (0, .ref (za G 0)), (1, .int k)]) hx hb dX11_best_38 rfl hl (by decide) rfl (fun ls hl => ?_)
        refine lv_aload_n hx hb dX11_best_39 rfl (lv_at hl 0 rfl) ?_
        refine lv_aload_n hx hb dX11_best_40 rfl (lv_at hl 1 rfl) ?_
        refine z_get (C := RX11) (T := TX11) (N := 14) (ci := 11) (v := .ref (za G 1)) hx hb hts hin11 hown hK hI (zo0 hG) rfl 0 (by decide) wF12 (fun _ h9 => h9) rfl dX11_best_41 ?_
        refine lv_iconst (v := (nI 2)) hx hb dX11_best_44 rfl ?_
        refine z_callv (va_runV (As := [.ref (za G 1), .int (nI 2)]) (rest := []) ⟨hx, hb, hml, hown, hts⟩ ((c_X6_search l hG u N (nI 2) (by omega) hnu.2.1) A) (cwV 2 hts gX11_best_X6_search rfl rfl rfl (by decide +kernel) ⟨Nat.le_of_ble_eq_true rfl, Nat.le_of_ble_eq_true rfl⟩) (z_pV hI hK hN (z_recv hK hI (zo11 hG) rfl)) rfl rfl hl.1 rfl (lv_room (Nat.le_of_ble_eq_true rfl)) dX11_best_45 ⟨Nat.zero_le _, Nat.zero_le _⟩) hI (fun u H locs hw hI => ?_)
        obtain rfl := hw
        have hI : zI G (zsrch u N (nI 2)) A s.heap H locs := by rw [if_neg (show ¬ 6 < N by omega)] at hI; exact hI
        refine lv_iload_n hx hb dX11_best_48 rfl (lv_at hl 2 rfl) ?_
        refine lv_bipush (v := (-2)) hx hb dX11_best_49 rfl ?_
        refine lv_icmp_ne (tgt := 59) hx hb dX11_best_51 (by decide) (fun c_51 => ?_) (fun c_51 => ?_)
        · skip
          refine lv_iload_n hx hb dX11_best_59 rfl (lv_at hl 2 rfl) ?_
          refine lv_iconst (v := (-1)) hx hb dX11_best_60 rfl ?_
          refine lv_icmp_ne (tgt := 71) hx hb dX11_best_61 (by decide) (fun c_61 => ?_) (fun c_61 => ?_)
          · skip
            refine lv_aload_n hx hb dX11_best_71 rfl (lv_at hl 0 rfl) ?_
            refine z_get (C := RX6) (T := TX6) (N := 8) (ci := 6) (v := .ref (za G 16)) hx hb hts hin6 hown hK hI (zo11 hG) rfl 4 (by decide) wF204 (fun _ h9 => h9) rfl dX11_best_72 ?_
            refine lv_iload_n hx hb dX11_best_75 rfl (lv_at hl 2 rfl) ?_
            refine z_calli (va_runS (As := [.ref (za G 16), .int k]) (rest := []) ⟨hx, hb, hml, hown, hts⟩ ((c_X11_seatIn l hG (zsrch u N (nI 2)) 16 k (zo16 hG)) A) (va_cwS 2 hts gX11_best_X11_seatIn rfl rfl rfl (by decide +kernel) ⟨Nat.le_of_ble_eq_true rfl, Nat.le_of_ble_eq_true rfl⟩) (z_pS hI hK hN) rfl rfl hl.1 rfl (lv_room (Nat.le_of_ble_eq_true rfl)) dX11_best_76 ⟨Nat.zero_le _, Nat.zero_le _⟩) hI (fun r_76 u H locs hw hI => ?_)
            obtain ⟨rfl, rfl⟩ := hw
            exact z_iret hx hb hr hlocks hI (Or.inr (Or.inr ⟨⟨c_3, c_14⟩, by omega, _, hT7, rfl, (if_neg c_51).trans (if_neg c_61)⟩)) dX11_best_79
          · skip
            refine lv_aload_n hx hb dX11_best_64 rfl (lv_at hl 0 rfl) ?_
            refine z_get (C := RX6) (T := TX6) (N := 8) (ci := 6) (v := .int ((zsrch u N (nI 2)).1 11 7)) hx hb hts hin6 hown hK hI (zo11 hG) rfl 7 (by decide) wF201 (fun _ h9 => h9) rfl dX11_best_65 ?_
            refine lv_goto (tgt := 79) hx hb dX11_best_68 (by decide) ?_
            exact z_iret hx hb hr hlocks hI (Or.inr (Or.inr ⟨⟨c_3, c_14⟩, by omega, _, hT7, rfl, (if_neg c_51).trans (if_pos c_61)⟩)) dX11_best_79
        · skip
          refine lv_aload_n hx hb dX11_best_54 rfl (lv_at hl 0 rfl) ?_
          refine z_get (C := RX6) (T := TX6) (N := 8) (ci := 6) (v := .int ((zsrch u N (nI 2)).1 11 6)) hx hb hts hin6 hown hK hI (zo11 hG) rfl 6 (by decide) wF198 (fun _ h9 => h9) rfl dX11_best_55 ?_
          exact z_iret hx hb hr hlocks hI (Or.inr (Or.inr ⟨⟨c_3, c_14⟩, by omega, _, hT7, rfl, if_pos c_51⟩)) dX11_best_58
      · skip
        rw [zqG (by omega) (by omega)] at c_28
        refine lv_bipush (v := (-9)) hx hb dX11_best_31 rfl ?_
        exact z_iret hx hb hr hlocks hI (Or.inr (Or.inl ⟨⟨c_3, c_14⟩, by omega, rfl, rfl⟩)) dX11_best_33
    · skip
      refine lv_ldc (v := (-100001)) hx hb hown wK153 dX11_best_17 ?_
      exact z_iret hx hb hr hlocks hI (Or.inl ⟨fun h => c_14 h.2, rfl, rfl⟩) dX11_best_19
set_option maxHeartbeats 1000000 in
set_option maxRecDepth 100000 in
theorem c_X11_cost (l : Launch) {G : zG} (hG : zOK G) (x : zX) (N b C : Nat) (k : Int32) (hn : zNow G x N) (hbz : zrix (x.1 1 6) = b) (hro : zRo x b C) (hct : ¬ x.1 0 9 = 0 → zTb G x N b C x) : zMi l yX11_cost wsX11_cost { frames := 12, cells := 0, slots := 0, locals := 300 } G [.ref (za G 0), .int k] x (fun (r : Int32) (u : zX) => (¬ (k = 0 ∨ k = nI 1) ∧ x = u ∧ -1 = r) ∨ ((k = 0 ∨ k = nI 1) ∧ 5 < N ∧ x = u ∧ -9 = r) ∨ ((k = 0 ∨ k = nI 1) ∧ N ≤ 5 ∧ ∃ v, zT7 G x N b C v ∧ zsrch (zsrch v N (nI 2)) N k = u ∧ u.1 11 7 - (zsrch v N (nI 2)).1 11 7 = r)) := by
  intro A
  refine zBody (cc := cX11_cost) (maxL := 4) (ret := (some .int)) (by decide) rfl (Nat.le_of_ble_eq_true rfl) ?_
  intro p e s m below meth c hx hb hml hown hts hr hlocks hK hN hI ls hl
  have hown : s.vm.findClass RX11 = some m.cls := hown
  have hl : lv_has ls 4 [(0, .ref (za G 0)), (1, .int k)] := hl
  have hin6 : ∀ w ∈ wsX60, w ∈ wsX11_cost := (fun _ h => List.mem_cons_of_mem _ (List.mem_append_left _ (List.mem_append_left _ (List.mem_append_left _ (List.mem_append_left _ (List.mem_append_left _ (List.mem_append_left _ (List.mem_append_left _ (List.mem_append_left _ (List.mem_append_right _ (h)))))))))))
  have hin7 : ∀ w ∈ wsX70, w ∈ wsX11_cost := (fun _ h => List.mem_cons_of_mem _ (List.mem_append_left _ (List.mem_append_left _ (List.mem_append_left _ (List.mem_append_left _ (List.mem_append_left _ (List.mem_append_left _ (List.mem_append_left _ (List.mem_append_left _ (List.mem_append_left _ (List.mem_append_right _ (h))))))))))))
  have hin11 : ∀ w ∈ wsX110, w ∈ wsX11_cost := (fun _ h => List.mem_cons_of_mem _ (List.mem_append_left _ (List.mem_append_left _ (List.mem_append_left _ (List.mem_append_left _ (List.mem_append_left _ (List.mem_append_left _ (List.mem_append_left _ (List.mem_append_left _ (List.mem_append_left _ (List.mem_append_left _ (List.mem_append_right _ (h)))))))))))))
  have wF12 := hts (.fieldLink RX11 12 "WhoSitsBy" "now" "LWhoSitsBy$Standing;") (z_mem 1 rfl)
  have wF66 := hts (.fieldLink RX11 66 "WhoSitsBy$Standing" "size" "I") (z_mem 2 rfl)
  have wF201 := hts (.fieldLink RX11 201 "WhoSitsBy$Sittings" "foundWorth" "I") (z_mem 3 rfl)
  have hb0 : zRm b := hbz ▸ zrix_ok _
  have h8 := hn.1
  have hrb := zRm_b hb0
  refine lv_iload_n hx hb dX11_cost_0 rfl (lv_at hl 1 rfl) ?_
  refine lv_if_eq (tgt := 11) hx hb dX11_cost_1 (by decide) (fun c_1 => ?_) (fun c_1 => ?_)
  · skip
    have hk9 : k = 0 ∨ k = nI 1 := Or.inl c_1
    refine lv_aload_n hx hb dX11_cost_11 rfl (lv_at hl 0 rfl) ?_
    refine z_get (C := RX11) (T := TX11) (N := 14) (ci := 11) (v := .ref (za G 1)) hx hb hts hin11 hown hK hI (zo0 hG) rfl 0 (by decide) wF12 (fun _ h9 => h9) rfl dX11_cost_12 ?_
    refine z_get (C := RX7) (T := TX7) (N := 7) (ci := 7) (v := .int (nI N)) hx hb hts hin7 hown hK hI (zo1 hG) rfl 3 (by decide) wF66 (fun _ h9 => h9) (congrArg (fun q => some (Value.int q)) hn.2.1) dX11_cost_15 ?_
    refine lv_iconst (v := (nI 5)) hx hb dX11_cost_18 rfl ?_
    refine lv_icmp_le (tgt := 25) hx hb dX11_cost_19 (by decide) (fun c_19 => ?_) (fun c_19 => ?_)
    · skip
      rw [zqG (by omega) (by omega)] at c_19
      refine lv_aload_n hx hb dX11_cost_25 rfl (lv_at hl 0 rfl) ?_
      refine z_callq (va_runV (As := []) (rest := []) ⟨hx, hb, hml, hown, hts⟩ ((c_X11_tables l hG x N b C hn hbz hro hct) A) (cwV 0 hts gX11_cost_X11_tables rfl rfl rfl (by decide +kernel) ⟨Nat.le_of_ble_eq_true rfl, Nat.le_of_ble_eq_true rfl⟩) (z_pV hI hK hN (z_recv hK hI (zo0 hG) rfl)) rfl rfl hl.1 rfl (lv_room (Nat.le_of_ble_eq_true rfl)) dX11_cost_26 ⟨Nat.zero_le _, Nat.zero_le _⟩) hI (fun r_26 u H locs hw hI => ?_)
      obtain ⟨rfl, hT7⟩ := hw
      have hnu := zNow_7 hT7.1 hb0 hn
      refine lv_astore_n (lv' := [(2, .ref (za G 11)), (0, .ref (za G 0)), (1, .int k)]) hx hb dX11_cost_29 rfl hl (by decide) rfl (fun ls hl => ?_)
      refine lv_aload_n hx hb dX11_cost_30 rfl (lv_at hl 0 rfl) ?_
      refine lv_aload_n hx hb dX11_cost_31 rfl (lv_at hl 1 rfl) ?_
      refine z_get (C := RX11) (T := TX11) (N := 14) (ci := 11) (v := .ref (za G 1)) hx hb hts hin11 hown hK hI (zo0 hG) rfl 0 (by decide) wF12 (fun _ h9 => h9) rfl dX11_cost_32 ?_
      refine lv_iconst (v := (nI 2)) hx hb dX11_cost_35 rfl ?_
      refine z_callv (va_runV (As := [.ref (za G 1), .int (nI 2)]) (rest := []) ⟨hx, hb, hml, hown, hts⟩ ((c_X6_search l hG u N (nI 2) (by omega) hnu.2.1) A) (cwV 2 hts gX11_cost_X6_search rfl rfl rfl (by decide +kernel) ⟨Nat.le_of_ble_eq_true rfl, Nat.le_of_ble_eq_true rfl⟩) (z_pV hI hK hN (z_recv hK hI (zo11 hG) rfl)) rfl rfl hl.1 rfl (lv_room (Nat.le_of_ble_eq_true rfl)) dX11_cost_36 ⟨Nat.zero_le _, Nat.zero_le _⟩) hI (fun u H locs hw hI => ?_)
      obtain rfl := hw
      have hI : zI G (zsrch u N (nI 2)) A s.heap H locs := by rw [if_neg (show ¬ 6 < N by omega)] at hI; exact hI
      refine lv_aload_n hx hb dX11_cost_39 rfl (lv_at hl 0 rfl) ?_
      refine z_get (C := RX6) (T := TX6) (N := 8) (ci := 6) (v := .int ((zsrch u N (nI 2)).1 11 7)) hx hb hts hin6 hown hK hI (zo11 hG) rfl 7 (by decide) wF201 (fun _ h9 => h9) rfl dX11_cost_40 ?_
      refine lv_istore_n (lv' := [(3, .int ((zsrch u N (nI 2)).1 11 7)), (2, .ref (za G 11)), (0, .ref (za G 0)), (1, .int k)]) hx hb dX11_cost_43 rfl hl (by decide) rfl (fun ls hl => ?_)
      refine lv_aload_n hx hb dX11_cost_44 rfl (lv_at hl 1 rfl) ?_
      refine lv_aload_n hx hb dX11_cost_45 rfl (lv_at hl 2 rfl) ?_
      refine z_get (C := RX11) (T := TX11) (N := 14) (ci := 11) (v := .ref (za G 1)) hx hb hts hin11 hown hK hI (zo0 hG) rfl 0 (by decide) wF12 (fun _ h9 => h9) rfl dX11_cost_46 ?_
      refine lv_iload_n hx hb dX11_cost_49 rfl (lv_at hl 3 rfl) ?_
      refine z_callv (va_runV (As := [.ref (za G 1), .int k]) (rest := []) ⟨hx, hb, hml, hown, hts⟩ ((c_X6_search l hG (zsrch u N (nI 2)) N k (by omega) ((congrFun ((zplc_o (nI 2) N 0 (zbg u (fun _ => -1))).2 1 (by decide) (by decide)) 3).trans hnu.2.1)) A) (cwV 2 hts gX11_cost_X6_search rfl rfl rfl (by decide +kernel) ⟨Nat.le_of_ble_eq_true rfl, Nat.le_of_ble_eq_true rfl⟩) (z_pV hI hK hN (z_recv hK hI (zo11 hG) rfl)) rfl rfl hl.1 rfl (lv_room (Nat.le_of_ble_eq_true rfl)) dX11_cost_50 ⟨Nat.zero_le _, Nat.zero_le _⟩) hI (fun u H locs hw hI => ?_)
      obtain rfl := hw
      have hI : zI G (zsrch (zsrch u N (nI 2)) N k) A s.heap H locs := by rw [if_neg (show ¬ 6 < N by omega)] at hI; exact hI
      refine lv_aload_n hx hb dX11_cost_53 rfl (lv_at hl 1 rfl) ?_
      refine z_get (C := RX6) (T := TX6) (N := 8) (ci := 6) (v := .int ((zsrch (zsrch u N (nI 2)) N k).1 11 7)) hx hb hts hin6 hown hK hI (zo11 hG) rfl 7 (by decide) wF201 (fun _ h9 => h9) rfl dX11_cost_54 ?_
      refine lv_iload_n hx hb dX11_cost_57 rfl (lv_at hl 0 rfl) ?_
      refine lv_isub hx hb dX11_cost_58 ?_
      exact z_iret hx hb hr hlocks hI (Or.inr (Or.inr ⟨hk9, by omega, _, hT7, rfl, rfl⟩)) dX11_cost_59
    · skip
      rw [zqG (by omega) (by omega)] at c_19
      refine lv_bipush (v := (-9)) hx hb dX11_cost_22 rfl ?_
      exact z_iret hx hb hr hlocks hI (Or.inr (Or.inl ⟨hk9, by omega, rfl, rfl⟩)) dX11_cost_24
  · skip
    refine lv_iload_n hx hb dX11_cost_4 rfl (lv_at hl 1 rfl) ?_
    refine lv_iconst (v := (nI 1)) hx hb dX11_cost_5 rfl ?_
    refine lv_icmp_eq (tgt := 11) hx hb dX11_cost_6 (by decide) (fun c_6 => ?_) (fun c_6 => ?_)
    · skip
      have hk9 : k = 0 ∨ k = nI 1 := Or.inr c_6
      refine lv_aload_n hx hb dX11_cost_11 rfl (lv_at hl 0 rfl) ?_
      refine z_get (C := RX11) (T := TX11) (N := 14) (ci := 11) (v := .ref (za G 1)) hx hb hts hin11 hown hK hI (zo0 hG) rfl 0 (by decide) wF12 (fun _ h9 => h9) rfl dX11_cost_12 ?_
      refine z_get (C := RX7) (T := TX7) (N := 7) (ci := 7) (v := .int (nI N)) hx hb hts hin7 hown hK hI (zo1 hG) rfl 3 (by decide) wF66 (fun _ h9 => h9) (congrArg (fun q => some (Value.int q)) hn.2.1) dX11_cost_15 ?_
      refine lv_iconst (v := (nI 5)) hx hb dX11_cost_18 rfl ?_
      refine lv_icmp_le (tgt := 25) hx hb dX11_cost_19 (by decide) (fun c_19 => ?_) (fun c_19 => ?_)
      · skip
        rw [zqG (by omega) (by omega)] at c_19
        refine lv_aload_n hx hb dX11_cost_25 rfl (lv_at hl 0 rfl) ?_
        refine z_callq (va_runV (As := []) (rest := []) ⟨hx, hb, hml, hown, hts⟩ ((c_X11_tables l hG x N b C hn hbz hro hct) A) (cwV 0 hts gX11_cost_X11_tables rfl rfl rfl (by decide +kernel) ⟨Nat.le_of_ble_eq_true rfl, Nat.le_of_ble_eq_true rfl⟩) (z_pV hI hK hN (z_recv hK hI (zo0 hG) rfl)) rfl rfl hl.1 rfl (lv_room (Nat.le_of_ble_eq_true rfl)) dX11_cost_26 ⟨Nat.zero_le _, Nat.zero_le _⟩) hI (fun r_26 u H locs hw hI => ?_)
        obtain ⟨rfl, hT7⟩ := hw
        have hnu := zNow_7 hT7.1 hb0 hn
        refine lv_astore_n (lv' := [(2, .ref (za G 11)), (0, .ref (za G 0)), (1, .int k)]) hx hb dX11_cost_29 rfl hl (by decide) rfl (fun ls hl => ?_)
        refine lv_aload_n hx hb dX11_cost_30 rfl (lv_at hl 0 rfl) ?_
        refine lv_aload_n hx hb dX11_cost_31 rfl (lv_at hl 1 rfl) ?_
        refine z_get (C := RX11) (T := TX11) (N := 14) (ci := 11) (v := .ref (za G 1)) hx hb hts hin11 hown hK hI (zo0 hG) rfl 0 (by decide) wF12 (fun _ h9 => h9) rfl dX11_cost_32 ?_
        refine lv_iconst (v := (nI 2)) hx hb dX11_cost_35 rfl ?_
        refine z_callv (va_runV (As := [.ref (za G 1), .int (nI 2)]) (rest := []) ⟨hx, hb, hml, hown, hts⟩ ((c_X6_search l hG u N (nI 2) (by omega) hnu.2.1) A) (cwV 2 hts gX11_cost_X6_search rfl rfl rfl (by decide +kernel) ⟨Nat.le_of_ble_eq_true rfl, Nat.le_of_ble_eq_true rfl⟩) (z_pV hI hK hN (z_recv hK hI (zo11 hG) rfl)) rfl rfl hl.1 rfl (lv_room (Nat.le_of_ble_eq_true rfl)) dX11_cost_36 ⟨Nat.zero_le _, Nat.zero_le _⟩) hI (fun u H locs hw hI => ?_)
        obtain rfl := hw
        have hI : zI G (zsrch u N (nI 2)) A s.heap H locs := by rw [if_neg (show ¬ 6 < N by omega)] at hI; exact hI
        refine lv_aload_n hx hb dX11_cost_39 rfl (lv_at hl 0 rfl) ?_
        refine z_get (C := RX6) (T := TX6) (N := 8) (ci := 6) (v := .int ((zsrch u N (nI 2)).1 11 7)) hx hb hts hin6 hown hK hI (zo11 hG) rfl 7 (by decide) wF201 (fun _ h9 => h9) rfl dX11_cost_40 ?_
        refine lv_istore_n (lv' := [(3, .int ((zsrch u N (nI 2)).1 11 7)), (2, .ref (za G 11)), (0, .ref (za G 0)), (1, .int k)]) hx hb dX11_cost_43 rfl hl (by decide) rfl (fun ls hl => ?_)
        refine lv_aload_n hx hb dX11_cost_44 rfl (lv_at hl 1 rfl) ?_
        refine lv_aload_n hx hb dX11_cost_45 rfl (lv_at hl 2 rfl) ?_
        refine z_get (C := RX11) (T := TX11) (N := 14) (ci := 11) (v := .ref (za G 1)) hx hb hts hin11 hown hK hI (zo0 hG) rfl 0 (by decide) wF12 (fun _ h9 => h9) rfl dX11_cost_46 ?_
        refine lv_iload_n hx hb dX11_cost_49 rfl (lv_at hl 3 rfl) ?_
        refine z_callv (va_runV (As := [.ref (za G 1), .int k]) (rest := []) ⟨hx, hb, hml, hown, hts⟩ ((c_X6_search l hG (zsrch u N (nI 2)) N k (by omega) ((congrFun ((zplc_o (nI 2) N 0 (zbg u (fun _ => -1))).2 1 (by decide) (by decide)) 3).trans hnu.2.1)) A) (cwV 2 hts gX11_cost_X6_search rfl rfl rfl (by decide +kernel) ⟨Nat.le_of_ble_eq_true rfl, Nat.le_of_ble_eq_true rfl⟩) (z_pV hI hK hN (z_recv hK hI (zo11 hG) rfl)) rfl rfl hl.1 rfl (lv_room (Nat.le_of_ble_eq_true rfl)) dX11_cost_50 ⟨Nat.zero_le _, Nat.zero_le _⟩) hI (fun u H locs hw hI => ?_)
        obtain rfl := hw
        have hI : zI G (zsrch (zsrch u N (nI 2)) N k) A s.heap H locs := by rw [if_neg (show ¬ 6 < N by omega)] at hI; exact hI
        refine lv_aload_n hx hb dX11_cost_53 rfl (lv_at hl 1 rfl) ?_
        refine z_get (C := RX6) (T := TX6) (N := 8) (ci := 6) (v := .int ((zsrch (zsrch u N (nI 2)) N k).1 11 7)) hx hb hts hin6 hown hK hI (zo11 hG) rfl 7 (by decide) wF201 (fun _ h9 => h9) rfl dX11_cost_54 ?_
        refine lv_iload_n hx hb dX11_cost_57 rfl (lv_at hl 0 rfl) ?_
        refine lv_isub hx hb dX11_cost_58 ?_
        exact z_iret hx hb hr hlocks hI (Or.inr (Or.inr ⟨hk9, by omega, _, hT7, rfl, rfl⟩)) dX11_cost_59
      · skip
        rw [zqG (by omega) (by omega)] at c_19
        refine lv_bipush (v := (-9)) hx hb dX11_cost_22 rfl ?_
        exact z_iret hx hb hr hlocks hI (Or.inr (Or.inl ⟨hk9, by omega, rfl, rfl⟩)) dX11_cost_24
    · skip
      refine lv_iconst (v := (-1)) hx hb dX11_cost_9 rfl ?_
      exact z_iret hx hb hr hlocks hI (Or.inl ⟨fun h => h.elim c_1 c_6, rfl, rfl⟩) dX11_cost_10
set_option maxHeartbeats 1000000 in
set_option maxRecDepth 100000 in
theorem c_X11_mean (l : Launch) {G : zG} (hG : zOK G) (x : zX) (N b C : Nat) (k : Int32) (hn : zNow G x N) (hbz : zrix (x.1 1 6) = b) (hro : zRo x b C) (hct : ¬ x.1 0 9 = 0 → zTb G x N b C x) : zMl l yX11_mean wsX11_mean { frames := 6, cells := 0, slots := 0, locals := 161 } G [.ref (za G 0), .int k] x (fun (r : Int64) (u : zX) => (¬ (k = 0 ∨ k = nI 1) ∧ x = u ∧ (-9223372036854775808) = r) ∨ ((k = 0 ∨ k = nI 1) ∧ zT7 G x N b C u ∧ (if k = 0 then (zm7 (zm2 (zall u N))).1 else (zm7 (zm2 (zall u N))).2) = r)) := by
  intro A
  refine zBody (cc := cX11_mean) (maxL := 6) (ret := (some .long)) (by decide) rfl (Nat.le_of_ble_eq_true rfl) ?_
  intro p e s m below meth c hx hb hml hown hts hr hlocks hK hN hI ls hl
  have hown : s.vm.findClass RX11 = some m.cls := hown
  have hl : lv_has ls 6 [(0, .ref (za G 0)), (1, .int k)] := hl
  have hin7 : ∀ w ∈ wsX70, w ∈ wsX11_mean := (fun _ h => List.mem_cons_of_mem _ (List.mem_append_left _ (List.mem_append_left _ (List.mem_append_left _ (List.mem_append_left _ (List.mem_append_left _ (List.mem_append_left _ (List.mem_append_left _ (List.mem_append_left _ (List.mem_append_left _ (List.mem_append_right _ (h))))))))))))
  have hin11 : ∀ w ∈ wsX110, w ∈ wsX11_mean := (fun _ h => List.mem_cons_of_mem _ (List.mem_append_left _ (List.mem_append_left _ (List.mem_append_left _ (List.mem_append_left _ (List.mem_append_left _ (List.mem_append_left _ (List.mem_append_left _ (List.mem_append_left _ (List.mem_append_left _ (List.mem_append_left _ (List.mem_append_right _ (h)))))))))))))
  have wF12 := hts (.fieldLink RX11 12 "WhoSitsBy" "now" "LWhoSitsBy$Standing;") (z_mem 2 rfl)
  have wF66 := hts (.fieldLink RX11 66 "WhoSitsBy$Standing" "size" "I") (z_mem 3 rfl)
  have wK250 := hts (.constantLong RX11 250 (14)) (z_mem 4 rfl)
  have wK252 := hts (.constantLong RX11 252 (2)) (z_mem 5 rfl)
  have wK254 := hts (.constantLong RX11 254 (7)) (z_mem 6 rfl)
  have wK244 := hts (.constantLong RX11 244 (-9223372036854775808)) (z_mem 1 rfl)
  have hb0 : zRm b := hbz ▸ zrix_ok _
  have h8 := hn.1
  have hrb := zRm_b hb0
  refine lv_iload_n hx hb dX11_mean_0 rfl (lv_at hl 1 rfl) ?_
  refine lv_if_eq (tgt := 13) hx hb dX11_mean_1 (by decide) (fun c_1 => ?_) (fun c_1 => ?_)
  · skip
    have hk9 : k = 0 ∨ k = nI 1 := Or.inl c_1
    refine lv_aload_n hx hb dX11_mean_13 rfl (lv_at hl 0 rfl) ?_
    refine z_callq (va_runV (As := []) (rest := []) ⟨hx, hb, hml, hown, hts⟩ ((c_X11_tables l hG x N b C hn hbz hro hct) A) (cwV 0 hts gX11_mean_X11_tables rfl rfl rfl (by decide +kernel) ⟨Nat.le_of_ble_eq_true rfl, Nat.le_of_ble_eq_true rfl⟩) (z_pV hI hK hN (z_recv hK hI (zo0 hG) rfl)) rfl rfl hl.1 rfl (lv_room (Nat.le_of_ble_eq_true rfl)) dX11_mean_14 ⟨Nat.zero_le _, Nat.zero_le _⟩) hI (fun r_14 u H locs hw hI => ?_)
    obtain ⟨rfl, hT7⟩ := hw
    have hnu := zNow_7 hT7.1 hb0 hn
    refine lv_aload_n hx hb dX11_mean_17 rfl (lv_at hl 0 rfl) ?_
    refine z_get (C := RX11) (T := TX11) (N := 14) (ci := 11) (v := .ref (za G 1)) hx hb hts hin11 hown hK hI (zo0 hG) rfl 0 (by decide) wF12 (fun _ h9 => h9) rfl dX11_mean_18 ?_
    refine z_get (C := RX7) (T := TX7) (N := 7) (ci := 7) (v := .int (nI N)) hx hb hts hin7 hown hK hI (zo1 hG) rfl 3 (by decide) wF66 (fun _ h9 => h9) (congrArg (fun q => some (Value.int q)) hnu.2.1) dX11_mean_21 ?_
    refine z_calll (va_runV (As := [.int (nI N)]) (rest := []) ⟨hx, hb, hml, hown, hts⟩ ((c_X6_worthOfAllPairs l hG u N (by omega)) A) (cwV 1 hts gX11_mean_X6_worthOfAllPairs rfl rfl rfl (by decide +kernel) ⟨Nat.le_of_ble_eq_true rfl, Nat.le_of_ble_eq_true rfl⟩) (z_pV hI hK hN (z_recv hK hI (zo11 hG) rfl)) rfl rfl hl.1 rfl (lv_room (Nat.le_of_ble_eq_true rfl)) dX11_mean_24 ⟨Nat.zero_le _, Nat.zero_le _⟩) hI (fun r_24 u H locs hw hI => ?_)
    obtain ⟨rfl, rfl⟩ := hw
    refine lv_lstore_n (lv' := [(2, .long (zall u N)), (0, .ref (za G 0)), (1, .int k)]) hx hb dX11_mean_27 rfl hl (by decide) rfl (fun ls hl => ?_)
    refine lv_ldc2 (v := (14)) hx hb hown wK250 dX11_mean_28 ?_
    refine lv_lstore (lv' := [(4, .long (14)), (2, .long (zall u N)), (0, .ref (za G 0)), (1, .int k)]) hx hb dX11_mean_31 hl (by decide) rfl (fun ls hl => ?_)
    refine lv_lload_n hx hb dX11_mean_33 rfl (lv_at hl 1 rfl) ?_
    refine lv_ldc2 (v := (2)) hx hb hown wK252 dX11_mean_34 ?_
    refine lv_lrem hx hb dX11_mean_37 (by decide) ?_
    refine lv_lconst (v := 0) hx hb dX11_mean_38 rfl ?_
    refine W.lcmp hx hb dX11_mean_39 ?_
    refine lv_if_ne (tgt := 57) hx hb dX11_mean_40 (by decide) (fun c_40 => ?_) (fun c_40 => ?_)
    · skip
      refine lv_lload_n hx hb dX11_mean_57 rfl (lv_at hl 1 rfl) ?_
      refine lv_ldc2 (v := (7)) hx hb hown wK254 dX11_mean_58 ?_
      refine lv_lrem hx hb dX11_mean_61 (by decide) ?_
      refine lv_lconst (v := 0) hx hb dX11_mean_62 rfl ?_
      refine W.lcmp hx hb dX11_mean_63 ?_
      refine lv_if_ne (tgt := 81) hx hb dX11_mean_64 (by decide) (fun c_64 => ?_) (fun c_64 => ?_)
      · skip
        refine lv_iload_n hx hb dX11_mean_81 rfl (lv_at hl 3 rfl) ?_
        refine lv_if_ne (tgt := 89) hx hb dX11_mean_82 (by decide) (fun c_82 => ?_) (fun c_82 => ?_)
        · skip
          refine lv_lload hx hb dX11_mean_89 (lv_at hl 0 rfl) ?_
          exact z_lret hx hb hr hlocks hI (Or.inr ⟨hk9, hT7, by rw [zm2_n c_40, zm7_n c_64, zmk_n c_82]⟩) dX11_mean_91
        · skip
          refine lv_lload_n hx hb dX11_mean_85 rfl (lv_at hl 1 rfl) ?_
          refine lv_goto (tgt := 91) hx hb dX11_mean_86 (by decide) ?_
          exact z_lret hx hb hr hlocks hI (Or.inr ⟨hk9, hT7, by rw [zm2_n c_40, zm7_n c_64, zmk_y c_82]⟩) dX11_mean_91
      · skip
        refine lv_lload_n hx hb dX11_mean_67 rfl (lv_at hl 1 rfl) ?_
        refine lv_ldc2 (v := (7)) hx hb hown wK254 dX11_mean_68 ?_
        refine lv_ldiv hx hb dX11_mean_71 (by decide) ?_
        refine lv_lstore_n (lv' := [(2, .long ((zall u N) / (7))), (4, .long (14)), (0, .ref (za G 0)), (1, .int k)]) hx hb dX11_mean_72 rfl hl (by decide) rfl (fun ls hl => ?_)
        refine lv_lload hx hb dX11_mean_73 (lv_at hl 1 rfl) ?_
        refine lv_ldc2 (v := (7)) hx hb hown wK254 dX11_mean_75 ?_
        refine lv_ldiv hx hb dX11_mean_78 (by decide) ?_
        refine lv_lstore (lv' := [(4, .long ((14) / (7))), (2, .long ((zall u N) / (7))), (0, .ref (za G 0)), (1, .int k)]) hx hb dX11_mean_79 hl (by decide) rfl (fun ls hl => ?_)
        refine lv_iload_n hx hb dX11_mean_81 rfl (lv_at hl 3 rfl) ?_
        refine lv_if_ne (tgt := 89) hx hb dX11_mean_82 (by decide) (fun c_82 => ?_) (fun c_82 => ?_)
        · skip
          refine lv_lload hx hb dX11_mean_89 (lv_at hl 0 rfl) ?_
          exact z_lret hx hb hr hlocks hI (Or.inr ⟨hk9, hT7, by rw [zm2_n c_40, zm7_y c_64, zmk_n c_82]⟩) dX11_mean_91
        · skip
          refine lv_lload_n hx hb dX11_mean_85 rfl (lv_at hl 1 rfl) ?_
          refine lv_goto (tgt := 91) hx hb dX11_mean_86 (by decide) ?_
          exact z_lret hx hb hr hlocks hI (Or.inr ⟨hk9, hT7, by rw [zm2_n c_40, zm7_y c_64, zmk_y c_82]⟩) dX11_mean_91
    · skip
      refine lv_lload_n hx hb dX11_mean_43 rfl (lv_at hl 1 rfl) ?_
      refine lv_ldc2 (v := (2)) hx hb hown wK252 dX11_mean_44 ?_
      refine lv_ldiv hx hb dX11_mean_47 (by decide) ?_
      refine lv_lstore_n (lv' := [(2, .long ((zall u N) / (2))), (4, .long (14)), (0, .ref (za G 0)), (1, .int k)]) hx hb dX11_mean_48 rfl hl (by decide) rfl (fun ls hl => ?_)
      refine lv_lload hx hb dX11_mean_49 (lv_at hl 1 rfl) ?_
      refine lv_ldc2 (v := (2)) hx hb hown wK252 dX11_mean_51 ?_
      refine lv_ldiv hx hb dX11_mean_54 (by decide) ?_
      refine lv_lstore (lv' := [(4, .long ((14) / (2))), (2, .long ((zall u N) / (2))), (0, .ref (za G 0)), (1, .int k)]) hx hb dX11_mean_55 hl (by decide) rfl (fun ls hl => ?_)
      refine lv_lload_n hx hb dX11_mean_57 rfl (lv_at hl 1 rfl) ?_
      refine lv_ldc2 (v := (7)) hx hb hown wK254 dX11_mean_58 ?_
      refine lv_lrem hx hb dX11_mean_61 (by decide) ?_
      refine lv_lconst (v := 0) hx hb dX11_mean_62 rfl ?_
      refine W.lcmp hx hb dX11_mean_63 ?_
      refine lv_if_ne (tgt := 81) hx hb dX11_mean_64 (by decide) (fun c_64 => ?_) (fun c_64 => ?_)
      · skip
        refine lv_iload_n hx hb dX11_mean_81 rfl (lv_at hl 3 rfl) ?_
        refine lv_if_ne (tgt := 89) hx hb dX11_mean_82 (by decide) (fun c_82 => ?_) (fun c_82 => ?_)
        · skip
          refine lv_lload hx hb dX11_mean_89 (lv_at hl 0 rfl) ?_
          exact z_lret hx hb hr hlocks hI (Or.inr ⟨hk9, hT7, by rw [zm2_y c_40, zm7_n c_64, zmk_n c_82]⟩) dX11_mean_91
        · skip
          refine lv_lload_n hx hb dX11_mean_85 rfl (lv_at hl 1 rfl) ?_
          refine lv_goto (tgt := 91) hx hb dX11_mean_86 (by decide) ?_
          exact z_lret hx hb hr hlocks hI (Or.inr ⟨hk9, hT7, by rw [zm2_y c_40, zm7_n c_64, zmk_y c_82]⟩) dX11_mean_91
      · skip
        refine lv_lload_n hx hb dX11_mean_67 rfl (lv_at hl 1 rfl) ?_
        refine lv_ldc2 (v := (7)) hx hb hown wK254 dX11_mean_68 ?_
        refine lv_ldiv hx hb dX11_mean_71 (by decide) ?_
        refine lv_lstore_n (lv' := [(2, .long (((zall u N) / (2)) / (7))), (4, .long ((14) / (2))), (0, .ref (za G 0)), (1, .int k)]) hx hb dX11_mean_72 rfl hl (by decide) rfl (fun ls hl => ?_)
        refine lv_lload hx hb dX11_mean_73 (lv_at hl 1 rfl) ?_
        refine lv_ldc2 (v := (7)) hx hb hown wK254 dX11_mean_75 ?_
        refine lv_ldiv hx hb dX11_mean_78 (by decide) ?_
        refine lv_lstore (lv' := [(4, .long (((14) / (2)) / (7))), (2, .long (((zall u N) / (2)) / (7))), (0, .ref (za G 0)), (1, .int k)]) hx hb dX11_mean_79 hl (by decide) rfl (fun ls hl => ?_)
        refine lv_iload_n hx hb dX11_mean_81 rfl (lv_at hl 3 rfl) ?_
        refine lv_if_ne (tgt := 89) hx hb dX11_mean_82 (by decide) (fun c_82 => ?_) (fun c_82 => ?_)
        · skip
          refine lv_lload hx hb dX11_mean_89 (lv_at hl 0 rfl) ?_
          exact z_lret hx hb hr hlocks hI (Or.inr ⟨hk9, hT7, by rw [zm2_y c_40, zm7_y c_64, zmk_n c_82]⟩) dX11_mean_91
        · skip
          refine lv_lload_n hx hb dX11_mean_85 rfl (lv_at hl 1 rfl) ?_
          refine lv_goto (tgt := 91) hx hb dX11_mean_86 (by decide) ?_
          exact z_lret hx hb hr hlocks hI (Or.inr ⟨hk9, hT7, by rw [zm2_y c_40, zm7_y c_64, zmk_y c_82]⟩) dX11_mean_91
  · skip
    refine lv_iload_n hx hb dX11_mean_4 rfl (lv_at hl 1 rfl) ?_
    refine lv_iconst (v := (nI 1)) hx hb dX11_mean_5 rfl ?_
    refine lv_icmp_eq (tgt := 13) hx hb dX11_mean_6 (by decide) (fun c_6 => ?_) (fun c_6 => ?_)
    · skip
      have hk9 : k = 0 ∨ k = nI 1 := Or.inr c_6
      refine lv_aload_n hx hb dX11_mean_13 rfl (lv_at hl 0 rfl) ?_
      refine z_callq (va_runV (As := []) (rest := []) ⟨hx, hb, hml, hown, hts⟩ ((c_X11_tables l hG x N b C hn hbz hro hct) A) (cwV 0 hts gX11_mean_X11_tables rfl rfl rfl (by decide +kernel) ⟨Nat.le_of_ble_eq_true rfl, Nat.le_of_ble_eq_true rfl⟩) (z_pV hI hK hN (z_recv hK hI (zo0 hG) rfl)) rfl rfl hl.1 rfl (lv_room (Nat.le_of_ble_eq_true rfl)) dX11_mean_14 ⟨Nat.zero_le _, Nat.zero_le _⟩) hI (fun r_14 u H locs hw hI => ?_)
      obtain ⟨rfl, hT7⟩ := hw
      have hnu := zNow_7 hT7.1 hb0 hn
      refine lv_aload_n hx hb dX11_mean_17 rfl (lv_at hl 0 rfl) ?_
      refine z_get (C := RX11) (T := TX11) (N := 14) (ci := 11) (v := .ref (za G 1)) hx hb hts hin11 hown hK hI (zo0 hG) rfl 0 (by decide) wF12 (fun _ h9 => h9) rfl dX11_mean_18 ?_
      refine z_get (C := RX7) (T := TX7) (N := 7) (ci := 7) (v := .int (nI N)) hx hb hts hin7 hown hK hI (zo1 hG) rfl 3 (by decide) wF66 (fun _ h9 => h9) (congrArg (fun q => some (Value.int q)) hnu.2.1) dX11_mean_21 ?_
      refine z_calll (va_runV (As := [.int (nI N)]) (rest := []) ⟨hx, hb, hml, hown, hts⟩ ((c_X6_worthOfAllPairs l hG u N (by omega)) A) (cwV 1 hts gX11_mean_X6_worthOfAllPairs rfl rfl rfl (by decide +kernel) ⟨Nat.le_of_ble_eq_true rfl, Nat.le_of_ble_eq_true rfl⟩) (z_pV hI hK hN (z_recv hK hI (zo11 hG) rfl)) rfl rfl hl.1 rfl (lv_room (Nat.le_of_ble_eq_true rfl)) dX11_mean_24 ⟨Nat.zero_le _, Nat.zero_le _⟩) hI (fun r_24 u H locs hw hI => ?_)
      obtain ⟨rfl, rfl⟩ := hw
      refine lv_lstore_n (lv' := [(2, .long (zall u N)), (0, .ref (za G 0)), (1, .int k)]) hx hb dX11_mean_27 rfl hl (by decide) rfl (fun ls hl => ?_)
      refine lv_ldc2 (v := (14)) hx hb hown wK250 dX11_mean_28 ?_
      refine lv_lstore (lv' := [(4, .long (14)), (2, .long (zall u N)), (0, .ref (za G 0)), (1, .int k)]) hx hb dX11_mean_31 hl (by decide) rfl (fun ls hl => ?_)
      refine lv_lload_n hx hb dX11_mean_33 rfl (lv_at hl 1 rfl) ?_
      refine lv_ldc2 (v := (2)) hx hb hown wK252 dX11_mean_34 ?_
      refine lv_lrem hx hb dX11_mean_37 (by decide) ?_
      refine lv_lconst (v := 0) hx hb dX11_mean_38 rfl ?_
      refine W.lcmp hx hb dX11_mean_39 ?_
      refine lv_if_ne (tgt := 57) hx hb dX11_mean_40 (by decide) (fun c_40 => ?_) (fun c_40 => ?_)
      · skip
        refine lv_lload_n hx hb dX11_mean_57 rfl (lv_at hl 1 rfl) ?_
        refine lv_ldc2 (v := (7)) hx hb hown wK254 dX11_mean_58 ?_
        refine lv_lrem hx hb dX11_mean_61 (by decide) ?_
        refine lv_lconst (v := 0) hx hb dX11_mean_62 rfl ?_
        refine W.lcmp hx hb dX11_mean_63 ?_
        refine lv_if_ne (tgt := 81) hx hb dX11_mean_64 (by decide) (fun c_64 => ?_) (fun c_64 => ?_)
        · skip
          refine lv_iload_n hx hb dX11_mean_81 rfl (lv_at hl 3 rfl) ?_
          refine lv_if_ne (tgt := 89) hx hb dX11_mean_82 (by decide) (fun c_82 => ?_) (fun c_82 => ?_)
          · skip
            refine lv_lload hx hb dX11_mean_89 (lv_at hl 0 rfl) ?_
            exact z_lret hx hb hr hlocks hI (Or.inr ⟨hk9, hT7, by rw [zm2_n c_40, zm7_n c_64, zmk_n c_82]⟩) dX11_mean_91
          · skip
            refine lv_lload_n hx hb dX11_mean_85 rfl (lv_at hl 1 rfl) ?_
            refine lv_goto (tgt := 91) hx hb dX11_mean_86 (by decide) ?_
            exact z_lret hx hb hr hlocks hI (Or.inr ⟨hk9, hT7, by rw [zm2_n c_40, zm7_n c_64, zmk_y c_82]⟩) dX11_mean_91
        · skip
          refine lv_lload_n hx hb dX11_mean_67 rfl (lv_at hl 1 rfl) ?_
          refine lv_ldc2 (v := (7)) hx hb hown wK254 dX11_mean_68 ?_
          refine lv_ldiv hx hb dX11_mean_71 (by decide) ?_
          refine lv_lstore_n (lv' := [(2, .long ((zall u N) / (7))), (4, .long (14)), (0, .ref (za G 0)), (1, .int k)]) hx hb dX11_mean_72 rfl hl (by decide) rfl (fun ls hl => ?_)
          refine lv_lload hx hb dX11_mean_73 (lv_at hl 1 rfl) ?_
          refine lv_ldc2 (v := (7)) hx hb hown wK254 dX11_mean_75 ?_
          refine lv_ldiv hx hb dX11_mean_78 (by decide) ?_
          refine lv_lstore (lv' := [(4, .long ((14) / (7))), (2, .long ((zall u N) / (7))), (0, .ref (za G 0)), (1, .int k)]) hx hb dX11_mean_79 hl (by decide) rfl (fun ls hl => ?_)
          refine lv_iload_n hx hb dX11_mean_81 rfl (lv_at hl 3 rfl) ?_
          refine lv_if_ne (tgt := 89) hx hb dX11_mean_82 (by decide) (fun c_82 => ?_) (fun c_82 => ?_)
          · skip
            refine lv_lload hx hb dX11_mean_89 (lv_at hl 0 rfl) ?_
            exact z_lret hx hb hr hlocks hI (Or.inr ⟨hk9, hT7, by rw [zm2_n c_40, zm7_y c_64, zmk_n c_82]⟩) dX11_mean_91
          · skip
            refine lv_lload_n hx hb dX11_mean_85 rfl (lv_at hl 1 rfl) ?_
            refine lv_goto (tgt := 91) hx hb dX11_mean_86 (by decide) ?_
            exact z_lret hx hb hr hlocks hI (Or.inr ⟨hk9, hT7, by rw [zm2_n c_40, zm7_y c_64, zmk_y c_82]⟩) dX11_mean_91
      · skip
        refine lv_lload_n hx hb dX11_mean_43 rfl (lv_at hl 1 rfl) ?_
        refine lv_ldc2 (v := (2)) hx hb hown wK252 dX11_mean_44 ?_
        refine lv_ldiv hx hb dX11_mean_47 (by decide) ?_
        refine lv_lstore_n (lv' := [(2, .long ((zall u N) / (2))), (4, .long (14)), (0, .ref (za G 0)), (1, .int k)]) hx hb dX11_mean_48 rfl hl (by decide) rfl (fun ls hl => ?_)
        refine lv_lload hx hb dX11_mean_49 (lv_at hl 1 rfl) ?_
        refine lv_ldc2 (v := (2)) hx hb hown wK252 dX11_mean_51 ?_
        refine lv_ldiv hx hb dX11_mean_54 (by decide) ?_
        refine lv_lstore (lv' := [(4, .long ((14) / (2))), (2, .long ((zall u N) / (2))), (0, .ref (za G 0)), (1, .int k)]) hx hb dX11_mean_55 hl (by decide) rfl (fun ls hl => ?_)
        refine lv_lload_n hx hb dX11_mean_57 rfl (lv_at hl 1 rfl) ?_
        refine lv_ldc2 (v := (7)) hx hb hown wK254 dX11_mean_58 ?_
        refine lv_lrem hx hb dX11_mean_61 (by decide) ?_
        refine lv_lconst (v := 0) hx hb dX11_mean_62 rfl ?_
        refine W.lcmp hx hb dX11_mean_63 ?_
        refine lv_if_ne (tgt := 81) hx hb dX11_mean_64 (by decide) (fun c_64 => ?_) (fun c_64 => ?_)
        · skip
          refine lv_iload_n hx hb dX11_mean_81 rfl (lv_at hl 3 rfl) ?_
          refine lv_if_ne (tgt := 89) hx hb dX11_mean_82 (by decide) (fun c_82 => ?_) (fun c_82 => ?_)
          · skip
            refine lv_lload hx hb dX11_mean_89 (lv_at hl 0 rfl) ?_
            exact z_lret hx hb hr hlocks hI (Or.inr ⟨hk9, hT7, by rw [zm2_y c_40, zm7_n c_64, zmk_n c_82]⟩) dX11_mean_91
          · skip
            refine lv_lload_n hx hb dX11_mean_85 rfl (lv_at hl 1 rfl) ?_
            refine lv_goto (tgt := 91) hx hb dX11_mean_86 (by decide) ?_
            exact z_lret hx hb hr hlocks hI (Or.inr ⟨hk9, hT7, by rw [zm2_y c_40, zm7_n c_64, zmk_y c_82]⟩) dX11_mean_91
        · skip
          refine lv_lload_n hx hb dX11_mean_67 rfl (lv_at hl 1 rfl) ?_
          refine lv_ldc2 (v := (7)) hx hb hown wK254 dX11_mean_68 ?_
          refine lv_ldiv hx hb dX11_mean_71 (by decide) ?_
          refine lv_lstore_n (lv' := [(2, .long (((zall u N) / (2)) / (7))), (4, .long ((14) / (2))), (0, .ref (za G 0)), (1, .int k)]) hx hb dX11_mean_72 rfl hl (by decide) rfl (fun ls hl => ?_)
          refine lv_lload hx hb dX11_mean_73 (lv_at hl 1 rfl) ?_
          refine lv_ldc2 (v := (7)) hx hb hown wK254 dX11_mean_75 ?_
          refine lv_ldiv hx hb dX11_mean_78 (by decide) ?_
          refine lv_lstore (lv' := [(4, .long (((14) / (2)) / (7))), (2, .long (((zall u N) / (2)) / (7))), (0, .ref (za G 0)), (1, .int k)]) hx hb dX11_mean_79 hl (by decide) rfl (fun ls hl => ?_)
          refine lv_iload_n hx hb dX11_mean_81 rfl (lv_at hl 3 rfl) ?_
          refine lv_if_ne (tgt := 89) hx hb dX11_mean_82 (by decide) (fun c_82 => ?_) (fun c_82 => ?_)
          · skip
            refine lv_lload hx hb dX11_mean_89 (lv_at hl 0 rfl) ?_
            exact z_lret hx hb hr hlocks hI (Or.inr ⟨hk9, hT7, by rw [zm2_y c_40, zm7_y c_64, zmk_n c_82]⟩) dX11_mean_91
          · skip
            refine lv_lload_n hx hb dX11_mean_85 rfl (lv_at hl 1 rfl) ?_
            refine lv_goto (tgt := 91) hx hb dX11_mean_86 (by decide) ?_
            exact z_lret hx hb hr hlocks hI (Or.inr ⟨hk9, hT7, by rw [zm2_y c_40, zm7_y c_64, zmk_y c_82]⟩) dX11_mean_91
    · skip
      refine lv_ldc2 (v := (-9223372036854775808)) hx hb hown wK244 dX11_mean_9 ?_
      exact z_lret hx hb hr hlocks hI (Or.inl ⟨fun h => h.elim c_1 c_6, rfl, rfl⟩) dX11_mean_12
