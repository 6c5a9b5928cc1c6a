/-! THE LAW'S CALLS: a stretch -/
set_option maxHeartbeats 2000000 in
set_option maxRecDepth 100000 in
theorem kL_of {p : Program} {l : Launch} {e : Env} {s : State} {m : MethodId} {below : List Frame} {meth : Method} {c : Code} {H : Heap} {locs : List Loc} {cells slots : Nat} {Q : State → Prop} {A : Nat → Prop} {G : zG} {x : zX} {N R L b Ln j : Nat} {xs : Nat → Int32} {ls : Array Slot} (hx : p.tables.exec = Jvm.exec) (hb : c.code = cL_law) (hml : c.maxLocals = 4) (hown : s.vm.findClass RL = some m.cls) (hts : ∀ w ∈ wsL_law, w.before #[.ref b] s = true) (hX : va_X b Ln xs s s.heap) (hbl : b < s.heap.size) (hbA : ¬ A b) (hN : zN A s) (hAll : ∀ q : Nat, s.heap.size ≤ q → A q) (hK : va_K G.1 vwCl (zT G) s) (HR : zRl G x N R L) (hI : zI G x A s.heap H locs) (hcl : cells + 1 ≤ room_1.cells) (hsl : slots + 5 ≤ room_1.slots) (hj : j + 6 ≤ Ln) (hLn : Ln ≤ 3072) (hl : lv_has ls 4 [(3, .int (nI j)), (2, .ref (za G 77)), (1, .ref (za G 0)), (0, .ref b)])
    (kk : ∀ (G2 : zG) (x2 : zX) (N2 R2 L2 : Nat) (H2 : Heap) (locs2 : List Loc), G2.1 = G.1 → zT G2 = zT G → za G2 0 = za G 0 → za G2 77 = za G 77 → zRl G2 x2 N2 R2 L2 → zI G2 x2 A s.heap H2 locs2 → W p l e room_1 s m #[.ref b] below meth c H2 locs2 (cells + 1) (slots + 5) Q (F0 m 1238 ls [])) : W p l e room_1 s m #[.ref b] below meth c H locs cells slots Q (F0 m 243 ls []) := by
  have hG := HR.ok
  refine lv_aload_n hx hb dL_law_243 rfl (lv_at hl 2 rfl) ?_
  refine z_arg hx hb hX hbl hbA hI.2 hl dL_law_244 dL_law_245 dL_law_246 dL_law_247 dL_law_248 (k := 1) rfl (by omega) hLn ?_
  refine z_arg hx hb hX hbl hbA hI.2 hl dL_law_249 dL_law_250 dL_law_251 dL_law_252 dL_law_253 (k := 2) rfl (by omega) hLn ?_
  refine z_calli (va_runV (As := [.int (xs (j + 1)), .int (xs (j + 2))]) (rest := []) ⟨hx, hb, hml, hown, hts⟩ ((c_X11_of l hG x N ((xs (j + 1))) ((xs (j + 2))) HR.now HR.sit) A) (cwV 2 hts gL_law_X11_of rfl rfl rfl (by decide +kernel) ⟨(Nat.le_of_ble_eq_true rfl), (Nat.le_of_ble_eq_true rfl)⟩) (z_pV hI hK hN (z_recv hK hI (zo0 hG) rfl)) rfl rfl hl.1 rfl (lv_room (Nat.le_of_ble_eq_true rfl)) dL_law_254 ⟨by omega, by omega⟩) hI (fun r1 u1 H locs hw hI => ?_)
  have K : zKs x u1 := by rw [← hw.1]; exact zKs.rf
  refine lv_aload_n hx hb dL_law_257 rfl (lv_at hl 1 rfl) ?_
  refine z_arg hx hb hX hbl hbA hI.2 hl dL_law_258 dL_law_259 dL_law_260 dL_law_261 dL_law_262 (k := 1) rfl (by omega) hLn ?_
  refine z_arg hx hb hX hbl hbA hI.2 hl dL_law_263 dL_law_264 dL_law_265 dL_law_266 dL_law_267 (k := 2) rfl (by omega) hLn ?_
  refine z_calli (va_runV (As := [.int (xs (j + 1)), .int (xs (j + 2))]) (rest := [.int r1]) ⟨hx, hb, hml, hown, hts⟩ ((c_X12_of l hG u1 N ((xs (j + 1))) ((xs (j + 2))) (K.ref HR.ref)) A) (cwV 2 hts gL_law_X12_of rfl rfl rfl (by decide +kernel) ⟨(Nat.le_of_ble_eq_true rfl), (Nat.le_of_ble_eq_true rfl)⟩) (z_pV hI hK hN (z_recv hK hI (zo77 hG) rfl)) rfl rfl hl.1 rfl (lv_room (Nat.le_of_ble_eq_true rfl)) dL_law_268 ⟨by omega, by omega⟩) hI (fun r2 u2 H locs hw2 hI => ?_)
  obtain ⟨he, hxu⟩ := e_of HR hw hw2
  have HR2 : zRl G u2 N R L := by rw [← hxu]; exact HR
  refine lv_icmp_eq (tgt := 1238) hx hb dL_law_271 (by decide) (fun _ => ?_) (fun hne => absurd he hne)
  exact zmore (by omega) (by omega) (kk G u2 N R L H locs rfl rfl rfl rfl HR2 hI)
set_option maxHeartbeats 2000000 in
set_option maxRecDepth 100000 in
theorem kL_name {p : Program} {l : Launch} {e : Env} {s : State} {m : MethodId} {below : List Frame} {meth : Method} {c : Code} {H : Heap} {locs : List Loc} {cells slots : Nat} {Q : State → Prop} {A : Nat → Prop} {G : zG} {x : zX} {N R L b Ln j : Nat} {xs : Nat → Int32} {ls : Array Slot} (hx : p.tables.exec = Jvm.exec) (hb : c.code = cL_law) (hml : c.maxLocals = 4) (hown : s.vm.findClass RL = some m.cls) (hts : ∀ w ∈ wsL_law, w.before #[.ref b] s = true) (hX : va_X b Ln xs s s.heap) (hbl : b < s.heap.size) (hbA : ¬ A b) (hN : zN A s) (hAll : ∀ q : Nat, s.heap.size ≤ q → A q) (hK : va_K G.1 vwCl (zT G) s) (HR : zRl G x N R L) (hI : zI G x A s.heap H locs) (hcl : cells + 1 ≤ room_1.cells) (hsl : slots + 5 ≤ room_1.slots) (hj : j + 6 ≤ Ln) (hLn : Ln ≤ 3072) (hl : lv_has ls 4 [(3, .int (nI j)), (2, .ref (za G 77)), (1, .ref (za G 0)), (0, .ref b)])
    (kk : ∀ (G2 : zG) (x2 : zX) (N2 R2 L2 : Nat) (H2 : Heap) (locs2 : List Loc), G2.1 = G.1 → zT G2 = zT G → za G2 0 = za G 0 → za G2 77 = za G 77 → zRl G2 x2 N2 R2 L2 → zI G2 x2 A s.heap H2 locs2 → W p l e room_1 s m #[.ref b] below meth c H2 locs2 (cells + 1) (slots + 5) Q (F0 m 1238 ls [])) : W p l e room_1 s m #[.ref b] below meth c H locs cells slots Q (F0 m 325 ls []) := by
  have hG := HR.ok
  refine lv_aload_n hx hb dL_law_325 rfl (lv_at hl 2 rfl) ?_
  refine z_arg hx hb hX hbl hbA hI.2 hl dL_law_326 dL_law_327 dL_law_328 dL_law_329 dL_law_330 (k := 1) rfl (by omega) hLn ?_
  refine z_arg hx hb hX hbl hbA hI.2 hl dL_law_331 dL_law_332 dL_law_333 dL_law_334 dL_law_335 (k := 2) rfl (by omega) hLn ?_
  refine z_calli (va_runV (As := [.int (xs (j + 1)), .int (xs (j + 2))]) (rest := []) ⟨hx, hb, hml, hown, hts⟩ ((c_X11_name l hG x N ((xs (j + 1))) ((xs (j + 2))) HR.now) A) (cwV 2 hts gL_law_X11_name rfl rfl rfl (by decide +kernel) ⟨(Nat.le_of_ble_eq_true rfl), (Nat.le_of_ble_eq_true rfl)⟩) (z_pV hI hK hN (z_recv hK hI (zo0 hG) rfl)) rfl rfl hl.1 rfl (lv_room (Nat.le_of_ble_eq_true rfl)) dL_law_336 ⟨by omega, by omega⟩) hI (fun r1 u1 H locs hw hI => ?_)
  have K : zKs x u1 := ks_name HR hw
  refine lv_aload_n hx hb dL_law_339 rfl (lv_at hl 1 rfl) ?_
  refine z_arg hx hb hX hbl hbA hI.2 hl dL_law_340 dL_law_341 dL_law_342 dL_law_343 dL_law_344 (k := 1) rfl (by omega) hLn ?_
  refine z_arg hx hb hX hbl hbA hI.2 hl dL_law_345 dL_law_346 dL_law_347 dL_law_348 dL_law_349 (k := 2) rfl (by omega) hLn ?_
  refine z_calli (va_runV (As := [.int (xs (j + 1)), .int (xs (j + 2))]) (rest := [.int r1]) ⟨hx, hb, hml, hown, hts⟩ ((c_X12_name l hG u1 N ((xs (j + 1))) ((xs (j + 2))) (K.ref HR.ref)) A) (cwV 2 hts gL_law_X12_name rfl rfl rfl (by decide +kernel) ⟨(Nat.le_of_ble_eq_true rfl), (Nat.le_of_ble_eq_true rfl)⟩) (z_pV hI hK hN (z_recv hK hI (zo77 hG) rfl)) rfl rfl hl.1 rfl (lv_room (Nat.le_of_ble_eq_true rfl)) dL_law_350 ⟨by omega, by omega⟩) hI (fun r2 u2 H locs hw2 hI => ?_)
  obtain ⟨he, N2, R2, L2, HR2⟩ := e_name HR hw hw2
  refine lv_icmp_eq (tgt := 1238) hx hb dL_law_353 (by decide) (fun _ => ?_) (fun hne => absurd he hne)
  exact zmore (by omega) (by omega) (kk G u2 N2 R2 L2 H locs rfl rfl rfl rfl HR2 hI)
set_option maxHeartbeats 2000000 in
set_option maxRecDepth 100000 in
theorem kL_sit {p : Program} {l : Launch} {e : Env} {s : State} {m : MethodId} {below : List Frame} {meth : Method} {c : Code} {H : Heap} {locs : List Loc} {cells slots : Nat} {Q : State → Prop} {A : Nat → Prop} {G : zG} {x : zX} {N R L b Ln j : Nat} {xs : Nat → Int32} {ls : Array Slot} (hx : p.tables.exec = Jvm.exec) (hb : c.code = cL_law) (hml : c.maxLocals = 4) (hown : s.vm.findClass RL = some m.cls) (hts : ∀ w ∈ wsL_law, w.before #[.ref b] s = true) (hX : va_X b Ln xs s s.heap) (hbl : b < s.heap.size) (hbA : ¬ A b) (hN : zN A s) (hAll : ∀ q : Nat, s.heap.size ≤ q → A q) (hK : va_K G.1 vwCl (zT G) s) (HR : zRl G x N R L) (hI : zI G x A s.heap H locs) (hcl : cells + 1 ≤ room_1.cells) (hsl : slots + 5 ≤ room_1.slots) (hj : j + 6 ≤ Ln) (hLn : Ln ≤ 3072) (hl : lv_has ls 4 [(3, .int (nI j)), (2, .ref (za G 77)), (1, .ref (za G 0)), (0, .ref b)])
    (kk : ∀ (G2 : zG) (x2 : zX) (N2 R2 L2 : Nat) (H2 : Heap) (locs2 : List Loc), G2.1 = G.1 → zT G2 = zT G → za G2 0 = za G 0 → za G2 77 = za G 77 → zRl G2 x2 N2 R2 L2 → zI G2 x2 A s.heap H2 locs2 → W p l e room_1 s m #[.ref b] below meth c H2 locs2 (cells + 1) (slots + 5) Q (F0 m 1238 ls [])) : W p l e room_1 s m #[.ref b] below meth c H locs cells slots Q (F0 m 358 ls []) := by
  have hG := HR.ok
  refine lv_aload_n hx hb dL_law_358 rfl (lv_at hl 2 rfl) ?_
  refine z_arg hx hb hX hbl hbA hI.2 hl dL_law_359 dL_law_360 dL_law_361 dL_law_362 dL_law_363 (k := 1) rfl (by omega) hLn ?_
  refine z_arg hx hb hX hbl hbA hI.2 hl dL_law_364 dL_law_365 dL_law_366 dL_law_367 dL_law_368 (k := 2) rfl (by omega) hLn ?_
  refine z_calli (va_runV (As := [.int (xs (j + 1)), .int (xs (j + 2))]) (rest := []) ⟨hx, hb, hml, hown, hts⟩ ((c_X11_sit l hG x N ((xs (j + 1))) ((xs (j + 2))) HR.now HR.sit) A) (cwV 2 hts gL_law_X11_sit rfl rfl rfl (by decide +kernel) ⟨(Nat.le_of_ble_eq_true rfl), (Nat.le_of_ble_eq_true rfl)⟩) (z_pV hI hK hN (z_recv hK hI (zo0 hG) rfl)) rfl rfl hl.1 rfl (lv_room (Nat.le_of_ble_eq_true rfl)) dL_law_369 ⟨by omega, by omega⟩) hI (fun r1 u1 H locs hw hI => ?_)
  have K : zKs x u1 := ks_sit HR hw
  refine lv_aload_n hx hb dL_law_372 rfl (lv_at hl 1 rfl) ?_
  refine z_arg hx hb hX hbl hbA hI.2 hl dL_law_373 dL_law_374 dL_law_375 dL_law_376 dL_law_377 (k := 1) rfl (by omega) hLn ?_
  refine z_arg hx hb hX hbl hbA hI.2 hl dL_law_378 dL_law_379 dL_law_380 dL_law_381 dL_law_382 (k := 2) rfl (by omega) hLn ?_
  refine z_calli (va_runV (As := [.int (xs (j + 1)), .int (xs (j + 2))]) (rest := [.int r1]) ⟨hx, hb, hml, hown, hts⟩ ((c_X12_sit l hG u1 N ((xs (j + 1))) ((xs (j + 2))) (K.ref HR.ref)) A) (cwV 2 hts gL_law_X12_sit rfl rfl rfl (by decide +kernel) ⟨(Nat.le_of_ble_eq_true rfl), (Nat.le_of_ble_eq_true rfl)⟩) (z_pV hI hK hN (z_recv hK hI (zo77 hG) rfl)) rfl rfl hl.1 rfl (lv_room (Nat.le_of_ble_eq_true rfl)) dL_law_383 ⟨by omega, by omega⟩) hI (fun r2 u2 H locs hw2 hI => ?_)
  obtain ⟨he, N2, R2, L2, HR2⟩ := e_sit HR hw hw2
  refine lv_icmp_eq (tgt := 1238) hx hb dL_law_386 (by decide) (fun _ => ?_) (fun hne => absurd he hne)
  exact zmore (by omega) (by omega) (kk G u2 N2 R2 L2 H locs rfl rfl rfl rfl HR2 hI)
set_option maxHeartbeats 2000000 in
set_option maxRecDepth 100000 in
theorem kL_feed {p : Program} {l : Launch} {e : Env} {s : State} {m : MethodId} {below : List Frame} {meth : Method} {c : Code} {H : Heap} {locs : List Loc} {cells slots : Nat} {Q : State → Prop} {A : Nat → Prop} {G : zG} {x : zX} {N R L b Ln j : Nat} {xs : Nat → Int32} {ls : Array Slot} (hx : p.tables.exec = Jvm.exec) (hb : c.code = cL_law) (hml : c.maxLocals = 4) (hown : s.vm.findClass RL = some m.cls) (hts : ∀ w ∈ wsL_law, w.before #[.ref b] s = true) (hX : va_X b Ln xs s s.heap) (hbl : b < s.heap.size) (hbA : ¬ A b) (hN : zN A s) (hAll : ∀ q : Nat, s.heap.size ≤ q → A q) (hK : va_K G.1 vwCl (zT G) s) (HR : zRl G x N R L) (hI : zI G x A s.heap H locs) (hcl : cells + 1 ≤ room_1.cells) (hsl : slots + 5 ≤ room_1.slots) (hj : j + 6 ≤ Ln) (hLn : Ln ≤ 3072) (hl : lv_has ls 4 [(3, .int (nI j)), (2, .ref (za G 77)), (1, .ref (za G 0)), (0, .ref b)])
    (kk : ∀ (G2 : zG) (x2 : zX) (N2 R2 L2 : Nat) (H2 : Heap) (locs2 : List Loc), G2.1 = G.1 → zT G2 = zT G → za G2 0 = za G 0 → za G2 77 = za G 77 → zRl G2 x2 N2 R2 L2 → zI G2 x2 A s.heap H2 locs2 → W p l e room_1 s m #[.ref b] below meth c H2 locs2 (cells + 1) (slots + 5) Q (F0 m 1238 ls [])) : W p l e room_1 s m #[.ref b] below meth c H locs cells slots Q (F0 m 391 ls []) := by
  have hG := HR.ok
  refine lv_aload_n hx hb dL_law_391 rfl (lv_at hl 2 rfl) ?_
  refine z_arg hx hb hX hbl hbA hI.2 hl dL_law_392 dL_law_393 dL_law_394 dL_law_395 dL_law_396 (k := 1) rfl (by omega) hLn ?_
  refine z_calli (va_runV (As := [.int (xs (j + 1))]) (rest := []) ⟨hx, hb, hml, hown, hts⟩ ((c_X11_feed l hG x L ((xs (j + 1))) HR.rf.1 HR.rf.2.1) A) (cwV 1 hts gL_law_X11_feed rfl rfl rfl (by decide +kernel) ⟨(Nat.le_of_ble_eq_true rfl), (Nat.le_of_ble_eq_true rfl)⟩) (z_pV hI hK hN (z_recv hK hI (zo0 hG) rfl)) rfl rfl hl.1 rfl (lv_room (Nat.le_of_ble_eq_true rfl)) dL_law_397 ⟨by omega, by omega⟩) hI (fun r1 u1 H locs hw hI => ?_)
  have K : zKs x u1 := ks_feed HR hw
  refine lv_aload_n hx hb dL_law_400 rfl (lv_at hl 1 rfl) ?_
  refine z_arg hx hb hX hbl hbA hI.2 hl dL_law_401 dL_law_402 dL_law_403 dL_law_404 dL_law_405 (k := 1) rfl (by omega) hLn ?_
  refine z_calli (va_runV (As := [.int (xs (j + 1))]) (rest := [.int r1]) ⟨hx, hb, hml, hown, hts⟩ ((c_X12_feed l hG u1 L ((xs (j + 1))) HR.rf.1 (by rw [K.1 77 (by omega) (by omega)]; exact HR.rf.2.2.1)) A) (cwV 1 hts gL_law_X12_feed rfl rfl rfl (by decide +kernel) ⟨(Nat.le_of_ble_eq_true rfl), (Nat.le_of_ble_eq_true rfl)⟩) (z_pV hI hK hN (z_recv hK hI (zo77 hG) rfl)) rfl rfl hl.1 rfl (lv_room (Nat.le_of_ble_eq_true rfl)) dL_law_406 ⟨by omega, by omega⟩) hI (fun r2 u2 H locs hw2 hI => ?_)
  obtain ⟨he, N2, R2, L2, HR2⟩ := f_feed HR hw hw2
  refine lv_icmp_eq (tgt := 1238) hx hb dL_law_409 (by decide) (fun _ => ?_) (fun hne => absurd he hne)
  exact zmore (by omega) (by omega) (kk G u2 N2 R2 L2 H locs rfl rfl rfl rfl HR2 hI)
set_option maxHeartbeats 2000000 in
set_option maxRecDepth 100000 in
theorem kL_room {p : Program} {l : Launch} {e : Env} {s : State} {m : MethodId} {below : List Frame} {meth : Method} {c : Code} {H : Heap} {locs : List Loc} {cells slots : Nat} {Q : State → Prop} {A : Nat → Prop} {G : zG} {x : zX} {N R L b Ln j : Nat} {xs : Nat → Int32} {ls : Array Slot} (hx : p.tables.exec = Jvm.exec) (hb : c.code = cL_law) (hml : c.maxLocals = 4) (hown : s.vm.findClass RL = some m.cls) (hts : ∀ w ∈ wsL_law, w.before #[.ref b] s = true) (hX : va_X b Ln xs s s.heap) (hbl : b < s.heap.size) (hbA : ¬ A b) (hN : zN A s) (hAll : ∀ q : Nat, s.heap.size ≤ q → A q) (hK : va_K G.1 vwCl (zT G) s) (HR : zRl G x N R L) (hI : zI G x A s.heap H locs) (hcl : cells + 1 ≤ room_1.cells) (hsl : slots + 5 ≤ room_1.slots) (hj : j + 6 ≤ Ln) (hLn : Ln ≤ 3072) (hl : lv_has ls 4 [(3, .int (nI j)), (2, .ref (za G 77)), (1, .ref (za G 0)), (0, .ref b)])
    (kk : ∀ (G2 : zG) (x2 : zX) (N2 R2 L2 : Nat) (H2 : Heap) (locs2 : List Loc), G2.1 = G.1 → zT G2 = zT G → za G2 0 = za G 0 → za G2 77 = za G 77 → zRl G2 x2 N2 R2 L2 → zI G2 x2 A s.heap H2 locs2 → W p l e room_1 s m #[.ref b] below meth c H2 locs2 (cells + 1) (slots + 5) Q (F0 m 1238 ls [])) : W p l e room_1 s m #[.ref b] below meth c H locs cells slots Q (F0 m 414 ls []) := by
  have hG := HR.ok
  obtain ⟨pa, hpa⟩ := HR.rz.2.2.1
  obtain ⟨sa, hsa⟩ := HR.rz.2.2.2.1
  obtain ⟨na, hna⟩ := HR.rz.2.2.2.2
  refine lv_aload_n hx hb dL_law_414 rfl (lv_at hl 2 rfl) ?_
  refine z_calli (va_runV (As := []) (rest := []) ⟨hx, hb, hml, hown, hts⟩ ((c_X11_room l hG x R L HR.rq.2.1 HR.rq.1 HR.rf.2.1 HR.rf.1 (HR.rz.1 R (by have := HR.rq.1; omega)) HR.rf.2.2.2.1) A) (cwV 0 hts gL_law_X11_room rfl rfl rfl (by decide +kernel) ⟨(Nat.le_of_ble_eq_true rfl), (Nat.le_of_ble_eq_true rfl)⟩) (z_pV hI hK hN (z_recv hK hI (zo0 hG) rfl)) rfl rfl hl.1 rfl (lv_room (Nat.le_of_ble_eq_true rfl)) dL_law_415 ⟨by omega, by omega⟩) hI (fun r1 u1 H locs hw hI => ?_)
  have K : zKs x u1 := ks_room HR hw
  have e77 : u1.1 77 = x.1 77 := K.1 77 (by omega) (by omega)
  refine lv_aload_n hx hb dL_law_418 rfl (lv_at hl 1 rfl) ?_
  refine z_calli (va_runV (As := []) (rest := [.int r1]) ⟨hx, hb, hml, hown, hts⟩ ((c_X12_room l hG u1 R pa sa na L (by rw [e77]; exact HR.rq.2.2.1) HR.rq.1 (by rw [e77]; exact hpa) (by rw [e77]; exact hsa) (by rw [e77]; exact hna) (by rw [e77]; exact HR.rf.2.2.1) HR.rf.1 (by rw [K.1 96 (by omega) (by omega)]; exact HR.let_)) A) (cwV 0 hts gL_law_X12_room rfl rfl rfl (by decide +kernel) ⟨(Nat.le_of_ble_eq_true rfl), (Nat.le_of_ble_eq_true rfl)⟩) (z_pV hI hK hN (z_recv hK hI (zo77 hG) rfl)) rfl rfl hl.1 rfl (lv_room (Nat.le_of_ble_eq_true rfl)) dL_law_419 ⟨by omega, by omega⟩) hI (fun r2 u2 H locs hw2 hI => ?_)
  obtain ⟨he, N2, R2, L2, HR2⟩ := e_room HR hw hw2
  refine lv_icmp_eq (tgt := 1238) hx hb dL_law_422 (by decide) (fun _ => ?_) (fun hne => absurd he hne)
  exact zmore (by omega) (by omega) (kk G u2 N2 R2 L2 H locs rfl rfl rfl rfl HR2 hI)
