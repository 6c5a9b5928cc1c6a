/-! THE START of the law -/
set_option maxHeartbeats 8000000 in
set_option maxRecDepth 100000 in
theorem kL_start {p : Program} {l : Launch} {e : Env} {s : State} {m : MethodId} {below : List Frame} {meth : Method} {c : Code} {Q : State → Prop} {b Ln : Nat} {xs : Nat → Int32} (hx : p.tables.exec = Jvm.exec) (hb : c.code = cL_law) (hml : c.maxLocals = 4) (hown : s.vm.findClass RL = some m.cls) (hts : ∀ w ∈ lw_tbl, w.before #[.ref b] s = true) (hgv : (Jvm.Cond.and given_1 narrow_1).before #[.ref b] s = true) (hX : va_X b Ln xs s s.heap) (hbl : b < s.heap.size) (hLn : Ln ≤ 3072)
    (hend : ∀ (H : Heap) (locs : List Loc) (ls : Array Slot), va_S (fun q : Nat => s.heap.size ≤ q) s.heap H locs → W p l e room_1 s m #[.ref b] below meth c H locs 600000 7302250 Q (F0 m 1245 ls [.int 1])) (ls : Array Slot) (hl : lv_has ls 4 [(0, .ref b)]) : W p l e room_1 s m #[.ref b] below meth c s.heap [] 0 0 Q (F0 m 0 ls []) := by
  have hA : ∀ q : Nat, s.heap.size ≤ q → (fun q : Nat => s.heap.size ≤ q) q := fun _ h => h
  have hbA : ¬ (fun q : Nat => s.heap.size ≤ q) b := Nat.not_le.mpr hbl
  have hN := z_nets hts hgv
  obtain ⟨D, T, hK, hAs⟩ := z_known hts
  have htsL : ∀ w ∈ wsL_law, w.before #[.ref b] s = true := fun w h => hts w (wsL_law_in w h)
  have hS : va_S (fun q : Nat => s.heap.size ≤ q) s.heap s.heap [] := va_S.rf
  have hP : va_P D vwCl [] s.heap := fun k q h => by simp at h
  have hD : va_D (fun q : Nat => s.heap.size ≤ q) [] := ⟨fun i j p q h => by simp at h, fun k q h => by simp at h⟩
  have wC11 := htsL (.classLink RL 7 RX11) (z_mem 0 rfl)
  have wI11 := htsL (.instantiable RX11 14) (z_mem 1 rfl)
  have wZ11 := htsL (.initialized RX11) (z_mem 2 rfl)
  have wC12 := htsL (.classLink RL 10 RX12) (z_mem 3 rfl)
  have wI12 := htsL (.instantiable RX12 51) (z_mem 4 rfl)
  have wZ12 := htsL (.initialized RX12) (z_mem 5 rfl)
  have wL11 := htsL (.methodLink RL 9 yX11_init) (z_mem 7 rfl)
  have wY11 := htsL (.instanceMethod yX11_init) (z_mem 8 rfl)
  have wL12 := hts (.methodLink RL 12 yX12_init) (by decide +kernel)
  have wY12 := hts (.instanceMethod yX12_init) (by decide +kernel)
  refine zc_new (C := RX11) (TT := TX11) (N := 14) (ci := 11) (fs := [.null, .null, .int 0, .null, .int 0, .null, .null, .int 0, .null, .int 0, .null, .null, .null, .null]) hx hb hts t_wsX110 tyX11 tyX11_ok hown wC11 wI11 wZ11 hK hP hD hS hA rfl (fun j hj => by rcases (show j = 0 ∨ j = 1 ∨ j = 2 ∨ j = 3 ∨ j = 4 ∨ j = 5 ∨ j = 6 ∨ j = 7 ∨ j = 8 ∨ j = 9 ∨ j = 10 ∨ j = 11 ∨ j = 12 ∨ j = 13 by omega) with rfl | rfl | rfl | rfl | rfl | rfl | rfl | rfl | rfl | rfl | rfl | rfl | rfl | rfl <;> rfl) (Nat.le_of_ble_eq_true rfl) (Nat.le_of_ble_eq_true rfl) dL_law_0 (fun o1 H hP hD hS => ?_)
  refine lv_dup hx hb dL_law_3 rfl ?_
  refine zc_call (va_runI (As := []) (rest := [.ref o1]) ⟨hx, hb, hml, hown, htsL⟩ ((c_X11_init l D T o1) (fun q : Nat => s.heap.size ≤ q)) (cwI 0 htsL gL_law_X11_init rfl rfl rfl wZ11 wL11 wY11 rfl (by decide +kernel) ⟨Nat.le_of_ble_eq_true rfl, Nat.le_of_ble_eq_true rfl⟩) (z_pC hP hD hS hK hN hAs hA) rfl rfl hl.1 rfl (lv_room (Nat.le_of_ble_eq_true rfl)) dL_law_4 ⟨(Nat.le_of_ble_eq_true rfl), (Nat.le_of_ble_eq_true rfl)⟩) hS (fun f H locs hP hD hS => ?_)
  refine lv_astore_n (lv' := [(1, .ref o1), (0, .ref b)]) hx hb dL_law_7 rfl hl (by decide) rfl (fun ls hl => ?_)
  refine zc_new (C := RX12) (TT := TX12) (N := 51) (ci := 12) (fs := [.int 0, .int 0, .null, .null, .null, .null, .null, .null, .null, .null, .null, .null, .int 0, .int 0, .int 0, .int 0, .int 0, .null, .null, .null, .null, .null, .null, .null, .null, .int 0, .int 0, .int 0, .null, .null, .null, .null, .null, .null, .int 0, .int 0, .int 0, .int 0, .int 0, .int 0, .null, .null, .null, .null, .null, .int 0, .null, .null, .null, .null, .null]) hx hb hts t_wsX120 tyX12 tyX12_ok hown wC12 wI12 wZ12 hK hP hD hS hA rfl (fun j hj => by rcases (show j = 0 ∨ j = 1 ∨ j = 2 ∨ j = 3 ∨ j = 4 ∨ j = 5 ∨ j = 6 ∨ j = 7 ∨ j = 8 ∨ j = 9 ∨ j = 10 ∨ j = 11 ∨ j = 12 ∨ j = 13 ∨ j = 14 ∨ j = 15 ∨ j = 16 ∨ j = 17 ∨ j = 18 ∨ j = 19 ∨ j = 20 ∨ j = 21 ∨ j = 22 ∨ j = 23 ∨ j = 24 ∨ j = 25 ∨ j = 26 ∨ j = 27 ∨ j = 28 ∨ j = 29 ∨ j = 30 ∨ j = 31 ∨ j = 32 ∨ j = 33 ∨ j = 34 ∨ j = 35 ∨ j = 36 ∨ j = 37 ∨ j = 38 ∨ j = 39 ∨ j = 40 ∨ j = 41 ∨ j = 42 ∨ j = 43 ∨ j = 44 ∨ j = 45 ∨ j = 46 ∨ j = 47 ∨ j = 48 ∨ j = 49 ∨ j = 50 by omega) with rfl | rfl | rfl | rfl | rfl | rfl | rfl | rfl | rfl | rfl | rfl | rfl | rfl | rfl | rfl | rfl | rfl | rfl | rfl | rfl | rfl | rfl | rfl | rfl | rfl | rfl | rfl | rfl | rfl | rfl | rfl | rfl | rfl | rfl | rfl | rfl | rfl | rfl | rfl | rfl | rfl | rfl | rfl | rfl | rfl | rfl | rfl | rfl | rfl | rfl | rfl <;> rfl) (Nat.le_of_ble_eq_true rfl) (Nat.le_of_ble_eq_true rfl) dL_law_8 (fun o2 H hP hD hS => ?_)
  refine lv_dup hx hb dL_law_11 rfl ?_
  refine zc_call (va_runI (As := []) (rest := [.ref o2]) ⟨hx, hb, hml, hown, htsL⟩ ((c_X12_init l D T o2 _) (fun q : Nat => s.heap.size ≤ q)) (cwI 0 htsL gL_law_X12_init rfl rfl rfl wZ12 wL12 wY12 rfl (by decide +kernel) ⟨Nat.le_of_ble_eq_true rfl, Nat.le_of_ble_eq_true rfl⟩) (z_pC hP hD hS hK hN hAs hA) rfl rfl hl.1 rfl (lv_room (Nat.le_of_ble_eq_true rfl)) dL_law_12 ⟨(Nat.le_of_ble_eq_true rfl), (Nat.le_of_ble_eq_true rfl)⟩) hS (fun g H locs hP hD hS => ?_)
  have hJ := z_start (D := D) (T := T) (A := fun q : Nat => s.heap.size ≤ q) (o1 := o1) (o2 := o2) (f := f) (g := g) hP hD
  refine lv_astore_n (lv' := [(2, .ref o2), (1, .ref o1), (0, .ref b)]) hx hb dL_law_15 rfl hl (by decide) rfl (fun ls hl => ?_)
  refine lv_iconst (v := nI 0) hx hb dL_law_16 (by decide) ?_
  refine lv_istore_n (lv' := [(3, .int (nI 0)), (2, .ref o2), (1, .ref o1), (0, .ref b)]) hx hb dL_law_17 rfl hl (by decide) rfl (fun ls hl => ?_)
  exact kL_loop hx hb hml hown htsL hX hbl hbA hN hA hLn hend (Ln + 1) 0 (zG0 D T o1 o2 f g) zx0 0 0 0 _ _ H locs ls (by omega) (Nat.zero_le _) (Nat.le_of_ble_eq_true rfl) (Nat.le_of_ble_eq_true rfl) hK zRl_0 ⟨hJ, hS⟩ hl
