/-! THE LAW'S CALLS: a stretch -/
set_option maxHeartbeats 2000000 in
set_option maxRecDepth 100000 in
theorem kL_pair {p : Program} {l : Launch} {e : Env} {s : State} {m : MethodId} {below : List Frame} {meth : Method} {c : Code} {H : Heap} {locs : List Loc} {cells slots : Nat} {Q : State → Prop} {A : Nat → Prop} {G : zG} {x : zX} {N R L b Ln j : Nat} {xs : Nat → Int32} {ls : Array Slot} (hx : p.tables.exec = Jvm.exec) (hb : c.code = cL_law) (hml : c.maxLocals = 4) (hown : s.vm.findClass RL = some m.cls) (hts : ∀ w ∈ wsL_law, w.before #[.ref b] s = true) (hX : va_X b Ln xs s s.heap) (hbl : b < s.heap.size) (hbA : ¬ A b) (hN : zN A s) (hAll : ∀ q : Nat, s.heap.size ≤ q → A q) (hK : va_K G.1 vwCl (zT G) s) (HR : zRl G x N R L) (hI : zI G x A s.heap H locs) (hcl : cells + 1 ≤ room_1.cells) (hsl : slots + 5 ≤ room_1.slots) (hj : j + 6 ≤ Ln) (hLn : Ln ≤ 3072) (hl : lv_has ls 4 [(3, .int (nI j)), (2, .ref (za G 77)), (1, .ref (za G 0)), (0, .ref b)])
    (kk : ∀ (G2 : zG) (x2 : zX) (N2 R2 L2 : Nat) (H2 : Heap) (locs2 : List Loc), G2.1 = G.1 → zT G2 = zT G → za G2 0 = za G 0 → za G2 77 = za G 77 → zRl G2 x2 N2 R2 L2 → zI G2 x2 A s.heap H2 locs2 → W p l e room_1 s m #[.ref b] below meth c H2 locs2 (cells + 1) (slots + 5) Q (F0 m 1238 ls [])) : W p l e room_1 s m #[.ref b] below meth c H locs cells slots Q (F0 m 427 ls []) := by
  have hG := HR.ok
  obtain ⟨b9, F9, C9, Q9⟩ := HR.hl
  refine lv_aload_n hx hb dL_law_427 rfl (lv_at hl 2 rfl) ?_
  refine z_arg hx hb hX hbl hbA hI.2 hl dL_law_428 dL_law_429 dL_law_430 dL_law_431 dL_law_432 (k := 1) rfl (by omega) hLn ?_
  refine z_arg hx hb hX hbl hbA hI.2 hl dL_law_433 dL_law_434 dL_law_435 dL_law_436 dL_law_437 (k := 2) rfl (by omega) hLn ?_
  refine z_arg hx hb hX hbl hbA hI.2 hl dL_law_438 dL_law_439 dL_law_440 dL_law_441 dL_law_442 (k := 3) rfl (by omega) hLn ?_
  refine z_arg hx hb hX hbl hbA hI.2 hl dL_law_443 dL_law_444 dL_law_445 dL_law_446 dL_law_447 (k := 4) rfl (by omega) hLn ?_
  refine z_calli (va_runV (As := [.int (xs (j + 1)), .int (xs (j + 2)), .int (xs (j + 3)), .int (xs (j + 4))]) (rest := []) ⟨hx, hb, hml, hown, hts⟩ ((c_X11_pairT l hG x N b9 C9 ((xs (j + 1))) ((xs (j + 2))) ((xs (j + 3))) ((xs (j + 4))) HR.now Q9.1 Q9.2.2.1 HR.sit) A) (cwV 4 hts gL_law_X11_pair rfl rfl rfl (by decide +kernel) ⟨(Nat.le_of_ble_eq_true rfl), (Nat.le_of_ble_eq_true rfl)⟩) (z_pV hI hK hN (z_recv hK hI (zo0 hG) rfl)) rfl rfl hl.1 rfl (lv_room (Nat.le_of_ble_eq_true rfl)) dL_law_448 ⟨by omega, by omega⟩) hI (fun r1 u1 H locs hw hI => ?_)
  have K : zKs x u1 := ks_pair HR Q9 hw
  refine lv_aload_n hx hb dL_law_451 rfl (lv_at hl 1 rfl) ?_
  refine z_arg hx hb hX hbl hbA hI.2 hl dL_law_452 dL_law_453 dL_law_454 dL_law_455 dL_law_456 (k := 1) rfl (by omega) hLn ?_
  refine z_arg hx hb hX hbl hbA hI.2 hl dL_law_457 dL_law_458 dL_law_459 dL_law_460 dL_law_461 (k := 2) rfl (by omega) hLn ?_
  refine z_arg hx hb hX hbl hbA hI.2 hl dL_law_462 dL_law_463 dL_law_464 dL_law_465 dL_law_466 (k := 3) rfl (by omega) hLn ?_
  refine z_arg hx hb hX hbl hbA hI.2 hl dL_law_467 dL_law_468 dL_law_469 dL_law_470 dL_law_471 (k := 4) rfl (by omega) hLn ?_
  refine z_calli (va_runV (As := [.int (xs (j + 1)), .int (xs (j + 2)), .int (xs (j + 3)), .int (xs (j + 4))]) (rest := [.int r1]) ⟨hx, hb, hml, hown, hts⟩ ((c_X12_pair l hG u1 N F9 C9 ((xs (j + 1))) ((xs (j + 2))) ((xs (j + 3))) ((xs (j + 4))) (K.ref HR.ref) (K.cls Q9.2.2.2.1) (K.kd HR.kdR)) A) (cwV 4 hts gL_law_X12_pair rfl rfl rfl (by decide +kernel) ⟨(Nat.le_of_ble_eq_true rfl), (Nat.le_of_ble_eq_true rfl)⟩) (z_pV hI hK hN (z_recv hK hI (zo77 hG) rfl)) rfl rfl hl.1 rfl (lv_room (Nat.le_of_ble_eq_true rfl)) dL_law_472 ⟨by omega, by omega⟩) hI (fun r2 u2 H locs hw2 hI => ?_)
  obtain ⟨he, N2, R2, L2, HR2⟩ := e_pair HR Q9 hw hw2
  refine lv_icmp_eq (tgt := 1238) hx hb dL_law_475 (by decide) (fun _ => ?_) (fun hne => absurd he hne)
  exact zmore (by omega) (by omega) (kk G u2 N2 R2 L2 H locs rfl rfl rfl rfl HR2 hI)
set_option maxHeartbeats 2000000 in
set_option maxRecDepth 100000 in
theorem kL_sitting {p : Program} {l : Launch} {e : Env} {s : State} {m : MethodId} {below : List Frame} {meth : Method} {c : Code} {H : Heap} {locs : List Loc} {cells slots : Nat} {Q : State → Prop} {A : Nat → Prop} {G : zG} {x : zX} {N R L b Ln j : Nat} {xs : Nat → Int32} {ls : Array Slot} (hx : p.tables.exec = Jvm.exec) (hb : c.code = cL_law) (hml : c.maxLocals = 4) (hown : s.vm.findClass RL = some m.cls) (hts : ∀ w ∈ wsL_law, w.before #[.ref b] s = true) (hX : va_X b Ln xs s s.heap) (hbl : b < s.heap.size) (hbA : ¬ A b) (hN : zN A s) (hAll : ∀ q : Nat, s.heap.size ≤ q → A q) (hK : va_K G.1 vwCl (zT G) s) (HR : zRl G x N R L) (hI : zI G x A s.heap H locs) (hcl : cells + 1 ≤ room_1.cells) (hsl : slots + 5 ≤ room_1.slots) (hj : j + 6 ≤ Ln) (hLn : Ln ≤ 3072) (hl : lv_has ls 4 [(3, .int (nI j)), (2, .ref (za G 77)), (1, .ref (za G 0)), (0, .ref b)])
    (kk : ∀ (G2 : zG) (x2 : zX) (N2 R2 L2 : Nat) (H2 : Heap) (locs2 : List Loc), G2.1 = G.1 → zT G2 = zT G → za G2 0 = za G 0 → za G2 77 = za G 77 → zRl G2 x2 N2 R2 L2 → zI G2 x2 A s.heap H2 locs2 → W p l e room_1 s m #[.ref b] below meth c H2 locs2 (cells + 1) (slots + 5) Q (F0 m 1238 ls [])) : W p l e room_1 s m #[.ref b] below meth c H locs cells slots Q (F0 m 480 ls []) := by
  have hG := HR.ok
  obtain ⟨b9, F9, C9, Q9⟩ := HR.hl
  refine lv_aload_n hx hb dL_law_480 rfl (lv_at hl 2 rfl) ?_
  refine z_arg hx hb hX hbl hbA hI.2 hl dL_law_481 dL_law_482 dL_law_483 dL_law_484 dL_law_485 (k := 1) rfl (by omega) hLn ?_
  refine z_calli (va_runV (As := [.int (xs (j + 1))]) (rest := []) ⟨hx, hb, hml, hown, hts⟩ ((c_X11_sitting l hG x N b9 C9 ((xs (j + 1))) HR.now Q9.1 Q9.2.2.1 (HR.ctT Q9)) A) (cwV 1 hts gL_law_X11_sitting rfl rfl rfl (by decide +kernel) ⟨(Nat.le_of_ble_eq_true rfl), (Nat.le_of_ble_eq_true rfl)⟩) (z_pV hI hK hN (z_recv hK hI (zo0 hG) rfl)) rfl rfl hl.1 rfl (lv_room (Nat.le_of_ble_eq_true rfl)) dL_law_486 ⟨by omega, by omega⟩) hI (fun r1 u1 H locs hw hI => ?_)
  have K : zKs x u1 := ks_sitting HR Q9 hw
  refine lv_aload_n hx hb dL_law_489 rfl (lv_at hl 1 rfl) ?_
  refine z_arg hx hb hX hbl hbA hI.2 hl dL_law_490 dL_law_491 dL_law_492 dL_law_493 dL_law_494 (k := 1) rfl (by omega) hLn ?_
  refine z_calli (va_runV (As := [.int (xs (j + 1))]) (rest := [.int r1]) ⟨hx, hb, hml, hown, hts⟩ ((c_X12_sitting l hG u1 N F9 C9 ((xs (j + 1))) (K.ref HR.ref) (K.cls Q9.2.2.2.1) (K.kd HR.kdR)) A) (cwV 1 hts gL_law_X12_sitting rfl rfl rfl (by decide +kernel) ⟨(Nat.le_of_ble_eq_true rfl), (Nat.le_of_ble_eq_true rfl)⟩) (z_pV hI hK hN (z_recv hK hI (zo77 hG) rfl)) rfl rfl hl.1 rfl (lv_room (Nat.le_of_ble_eq_true rfl)) dL_law_495 ⟨by omega, by omega⟩) hI (fun r2 u2 H locs hw2 hI => ?_)
  obtain ⟨he, N2, R2, L2, HR2⟩ := e_sitting HR Q9 hw hw2
  refine lv_icmp_eq (tgt := 1238) hx hb dL_law_498 (by decide) (fun _ => ?_) (fun hne => absurd he hne)
  exact zmore (by omega) (by omega) (kk G u2 N2 R2 L2 H locs rfl rfl rfl rfl HR2 hI)
set_option maxHeartbeats 2000000 in
set_option maxRecDepth 100000 in
theorem kL_swap {p : Program} {l : Launch} {e : Env} {s : State} {m : MethodId} {below : List Frame} {meth : Method} {c : Code} {H : Heap} {locs : List Loc} {cells slots : Nat} {Q : State → Prop} {A : Nat → Prop} {G : zG} {x : zX} {N R L b Ln j : Nat} {xs : Nat → Int32} {ls : Array Slot} (hx : p.tables.exec = Jvm.exec) (hb : c.code = cL_law) (hml : c.maxLocals = 4) (hown : s.vm.findClass RL = some m.cls) (hts : ∀ w ∈ wsL_law, w.before #[.ref b] s = true) (hX : va_X b Ln xs s s.heap) (hbl : b < s.heap.size) (hbA : ¬ A b) (hN : zN A s) (hAll : ∀ q : Nat, s.heap.size ≤ q → A q) (hK : va_K G.1 vwCl (zT G) s) (HR : zRl G x N R L) (hI : zI G x A s.heap H locs) (hcl : cells + 1 ≤ room_1.cells) (hsl : slots + 5 ≤ room_1.slots) (hj : j + 6 ≤ Ln) (hLn : Ln ≤ 3072) (hl : lv_has ls 4 [(3, .int (nI j)), (2, .ref (za G 77)), (1, .ref (za G 0)), (0, .ref b)])
    (kk : ∀ (G2 : zG) (x2 : zX) (N2 R2 L2 : Nat) (H2 : Heap) (locs2 : List Loc), G2.1 = G.1 → zT G2 = zT G → za G2 0 = za G 0 → za G2 77 = za G 77 → zRl G2 x2 N2 R2 L2 → zI G2 x2 A s.heap H2 locs2 → W p l e room_1 s m #[.ref b] below meth c H2 locs2 (cells + 1) (slots + 5) Q (F0 m 1238 ls [])) : W p l e room_1 s m #[.ref b] below meth c H locs cells slots Q (F0 m 503 ls []) := by
  have hG := HR.ok
  obtain ⟨b9, F9, C9, Q9⟩ := HR.hl
  refine lv_aload_n hx hb dL_law_503 rfl (lv_at hl 2 rfl) ?_
  refine z_calli (va_runV (As := []) (rest := []) ⟨hx, hb, hml, hown, hts⟩ ((c_X11_swap l hG x N b9 C9 HR.now Q9.1 Q9.2.2.1 (HR.ctT Q9)) A) (cwV 0 hts gL_law_X11_swap rfl rfl rfl (by decide +kernel) ⟨(Nat.le_of_ble_eq_true rfl), (Nat.le_of_ble_eq_true rfl)⟩) (z_pV hI hK hN (z_recv hK hI (zo0 hG) rfl)) rfl rfl hl.1 rfl (lv_room (Nat.le_of_ble_eq_true rfl)) dL_law_504 ⟨by omega, by omega⟩) hI (fun r1 u1 H locs hw hI => ?_)
  have K : zKs x u1 := ks_swap HR Q9 hw
  refine lv_aload_n hx hb dL_law_507 rfl (lv_at hl 1 rfl) ?_
  refine z_calli (va_runV (As := []) (rest := [.int r1]) ⟨hx, hb, hml, hown, hts⟩ ((c_X12_swap l hG u1 N F9 C9 (K.ref HR.ref) (K.cls Q9.2.2.2.1) (K.kd HR.kdR)) A) (cwV 0 hts gL_law_X12_swap rfl rfl rfl (by decide +kernel) ⟨(Nat.le_of_ble_eq_true rfl), (Nat.le_of_ble_eq_true rfl)⟩) (z_pV hI hK hN (z_recv hK hI (zo77 hG) rfl)) rfl rfl hl.1 rfl (lv_room (Nat.le_of_ble_eq_true rfl)) dL_law_508 ⟨by omega, by omega⟩) hI (fun r2 u2 H locs hw2 hI => ?_)
  obtain ⟨he, N2, R2, L2, HR2⟩ := e_swap HR Q9 hw hw2
  refine lv_icmp_eq (tgt := 1238) hx hb dL_law_511 (by decide) (fun _ => ?_) (fun hne => absurd he hne)
  exact zmore (by omega) (by omega) (kk G u2 N2 R2 L2 H locs rfl rfl rfl rfl HR2 hI)
set_option maxHeartbeats 2000000 in
set_option maxRecDepth 100000 in
theorem kL_best {p : Program} {l : Launch} {e : Env} {s : State} {m : MethodId} {below : List Frame} {meth : Method} {c : Code} {H : Heap} {locs : List Loc} {cells slots : Nat} {Q : State → Prop} {A : Nat → Prop} {G : zG} {x : zX} {N R L b Ln j : Nat} {xs : Nat → Int32} {ls : Array Slot} (hx : p.tables.exec = Jvm.exec) (hb : c.code = cL_law) (hml : c.maxLocals = 4) (hown : s.vm.findClass RL = some m.cls) (hts : ∀ w ∈ wsL_law, w.before #[.ref b] s = true) (hX : va_X b Ln xs s s.heap) (hbl : b < s.heap.size) (hbA : ¬ A b) (hN : zN A s) (hAll : ∀ q : Nat, s.heap.size ≤ q → A q) (hK : va_K G.1 vwCl (zT G) s) (HR : zRl G x N R L) (hI : zI G x A s.heap H locs) (hcl : cells + 1 ≤ room_1.cells) (hsl : slots + 5 ≤ room_1.slots) (hj : j + 6 ≤ Ln) (hLn : Ln ≤ 3072) (hl : lv_has ls 4 [(3, .int (nI j)), (2, .ref (za G 77)), (1, .ref (za G 0)), (0, .ref b)])
    (kk : ∀ (G2 : zG) (x2 : zX) (N2 R2 L2 : Nat) (H2 : Heap) (locs2 : List Loc), G2.1 = G.1 → zT G2 = zT G → za G2 0 = za G 0 → za G2 77 = za G 77 → zRl G2 x2 N2 R2 L2 → zI G2 x2 A s.heap H2 locs2 → W p l e room_1 s m #[.ref b] below meth c H2 locs2 (cells + 1) (slots + 5) Q (F0 m 1238 ls [])) : W p l e room_1 s m #[.ref b] below meth c H locs cells slots Q (F0 m 516 ls []) := by
  have hG := HR.ok
  obtain ⟨b9, F9, C9, Q9⟩ := HR.hl
  refine lv_aload_n hx hb dL_law_516 rfl (lv_at hl 2 rfl) ?_
  refine z_arg hx hb hX hbl hbA hI.2 hl dL_law_517 dL_law_518 dL_law_519 dL_law_520 dL_law_521 (k := 1) rfl (by omega) hLn ?_
  refine z_calli (va_runV (As := [.int (xs (j + 1))]) (rest := []) ⟨hx, hb, hml, hown, hts⟩ ((c_X11_best l hG x N b9 C9 ((xs (j + 1))) HR.now Q9.1 Q9.2.2.1 (HR.ctT Q9)) A) (cwV 1 hts gL_law_X11_best rfl rfl rfl (by decide +kernel) ⟨(Nat.le_of_ble_eq_true rfl), (Nat.le_of_ble_eq_true rfl)⟩) (z_pV hI hK hN (z_recv hK hI (zo0 hG) rfl)) rfl rfl hl.1 rfl (lv_room (Nat.le_of_ble_eq_true rfl)) dL_law_522 ⟨by omega, by omega⟩) hI (fun r1 u1 H locs hw hI => ?_)
  have K : zKs x u1 := ks_best HR Q9 hw
  refine lv_aload_n hx hb dL_law_525 rfl (lv_at hl 1 rfl) ?_
  refine z_arg hx hb hX hbl hbA hI.2 hl dL_law_526 dL_law_527 dL_law_528 dL_law_529 dL_law_530 (k := 1) rfl (by omega) hLn ?_
  refine z_calli (va_runV (As := [.int (xs (j + 1))]) (rest := [.int r1]) ⟨hx, hb, hml, hown, hts⟩ ((c_X12_best l hG u1 N F9 C9 ((xs (j + 1))) (K.ref HR.ref) (K.cls Q9.2.2.2.1) (K.kd HR.kdR)) A) (cwV 1 hts gL_law_X12_best rfl rfl rfl (by decide +kernel) ⟨(Nat.le_of_ble_eq_true rfl), (Nat.le_of_ble_eq_true rfl)⟩) (z_pV hI hK hN (z_recv hK hI (zo77 hG) rfl)) rfl rfl hl.1 rfl (lv_room (Nat.le_of_ble_eq_true rfl)) dL_law_531 ⟨by omega, by omega⟩) hI (fun r2 u2 H locs hw2 hI => ?_)
  obtain ⟨he, N2, R2, L2, HR2⟩ := e_best HR Q9 hw hw2
  refine lv_icmp_eq (tgt := 1238) hx hb dL_law_534 (by decide) (fun _ => ?_) (fun hne => absurd he hne)
  exact zmore (by omega) (by omega) (kk G u2 N2 R2 L2 H locs rfl rfl rfl rfl HR2 hI)
set_option maxHeartbeats 2000000 in
set_option maxRecDepth 100000 in
theorem kL_cost {p : Program} {l : Launch} {e : Env} {s : State} {m : MethodId} {below : List Frame} {meth : Method} {c : Code} {H : Heap} {locs : List Loc} {cells slots : Nat} {Q : State → Prop} {A : Nat → Prop} {G : zG} {x : zX} {N R L b Ln j : Nat} {xs : Nat → Int32} {ls : Array Slot} (hx : p.tables.exec = Jvm.exec) (hb : c.code = cL_law) (hml : c.maxLocals = 4) (hown : s.vm.findClass RL = some m.cls) (hts : ∀ w ∈ wsL_law, w.before #[.ref b] s = true) (hX : va_X b Ln xs s s.heap) (hbl : b < s.heap.size) (hbA : ¬ A b) (hN : zN A s) (hAll : ∀ q : Nat, s.heap.size ≤ q → A q) (hK : va_K G.1 vwCl (zT G) s) (HR : zRl G x N R L) (hI : zI G x A s.heap H locs) (hcl : cells + 1 ≤ room_1.cells) (hsl : slots + 5 ≤ room_1.slots) (hj : j + 6 ≤ Ln) (hLn : Ln ≤ 3072) (hl : lv_has ls 4 [(3, .int (nI j)), (2, .ref (za G 77)), (1, .ref (za G 0)), (0, .ref b)])
    (kk : ∀ (G2 : zG) (x2 : zX) (N2 R2 L2 : Nat) (H2 : Heap) (locs2 : List Loc), G2.1 = G.1 → zT G2 = zT G → za G2 0 = za G 0 → za G2 77 = za G 77 → zRl G2 x2 N2 R2 L2 → zI G2 x2 A s.heap H2 locs2 → W p l e room_1 s m #[.ref b] below meth c H2 locs2 (cells + 1) (slots + 5) Q (F0 m 1238 ls [])) : W p l e room_1 s m #[.ref b] below meth c H locs cells slots Q (F0 m 539 ls []) := by
  have hG := HR.ok
  obtain ⟨b9, F9, C9, Q9⟩ := HR.hl
  refine lv_aload_n hx hb dL_law_539 rfl (lv_at hl 2 rfl) ?_
  refine z_arg hx hb hX hbl hbA hI.2 hl dL_law_540 dL_law_541 dL_law_542 dL_law_543 dL_law_544 (k := 1) rfl (by omega) hLn ?_
  refine z_calli (va_runV (As := [.int (xs (j + 1))]) (rest := []) ⟨hx, hb, hml, hown, hts⟩ ((c_X11_cost l hG x N b9 C9 ((xs (j + 1))) HR.now Q9.1 Q9.2.2.1 (HR.ctT Q9)) A) (cwV 1 hts gL_law_X11_cost rfl rfl rfl (by decide +kernel) ⟨(Nat.le_of_ble_eq_true rfl), (Nat.le_of_ble_eq_true rfl)⟩) (z_pV hI hK hN (z_recv hK hI (zo0 hG) rfl)) rfl rfl hl.1 rfl (lv_room (Nat.le_of_ble_eq_true rfl)) dL_law_545 ⟨by omega, by omega⟩) hI (fun r1 u1 H locs hw hI => ?_)
  have K : zKs x u1 := ks_cost HR Q9 hw
  refine lv_aload_n hx hb dL_law_548 rfl (lv_at hl 1 rfl) ?_
  refine z_arg hx hb hX hbl hbA hI.2 hl dL_law_549 dL_law_550 dL_law_551 dL_law_552 dL_law_553 (k := 1) rfl (by omega) hLn ?_
  refine z_calli (va_runV (As := [.int (xs (j + 1))]) (rest := [.int r1]) ⟨hx, hb, hml, hown, hts⟩ ((c_X12_cost l hG u1 N F9 C9 ((xs (j + 1))) (K.ref HR.ref) (K.cls Q9.2.2.2.1) (K.kd HR.kdR)) A) (cwV 1 hts gL_law_X12_cost rfl rfl rfl (by decide +kernel) ⟨(Nat.le_of_ble_eq_true rfl), (Nat.le_of_ble_eq_true rfl)⟩) (z_pV hI hK hN (z_recv hK hI (zo77 hG) rfl)) rfl rfl hl.1 rfl (lv_room (Nat.le_of_ble_eq_true rfl)) dL_law_554 ⟨by omega, by omega⟩) hI (fun r2 u2 H locs hw2 hI => ?_)
  obtain ⟨he, N2, R2, L2, HR2⟩ := e_cost HR Q9 hw hw2
  refine lv_icmp_eq (tgt := 1238) hx hb dL_law_557 (by decide) (fun _ => ?_) (fun hne => absurd he hne)
  exact zmore (by omega) (by omega) (kk G u2 N2 R2 L2 H locs rfl rfl rfl rfl HR2 hI)
set_option maxHeartbeats 2000000 in
set_option maxRecDepth 100000 in
theorem kL_mean {p : Program} {l : Launch} {e : Env} {s : State} {m : MethodId} {below : List Frame} {meth : Method} {c : Code} {H : Heap} {locs : List Loc} {cells slots : Nat} {Q : State → Prop} {A : Nat → Prop} {G : zG} {x : zX} {N R L b Ln j : Nat} {xs : Nat → Int32} {ls : Array Slot} (hx : p.tables.exec = Jvm.exec) (hb : c.code = cL_law) (hml : c.maxLocals = 4) (hown : s.vm.findClass RL = some m.cls) (hts : ∀ w ∈ wsL_law, w.before #[.ref b] s = true) (hX : va_X b Ln xs s s.heap) (hbl : b < s.heap.size) (hbA : ¬ A b) (hN : zN A s) (hAll : ∀ q : Nat, s.heap.size ≤ q → A q) (hK : va_K G.1 vwCl (zT G) s) (HR : zRl G x N R L) (hI : zI G x A s.heap H locs) (hcl : cells + 1 ≤ room_1.cells) (hsl : slots + 5 ≤ room_1.slots) (hj : j + 6 ≤ Ln) (hLn : Ln ≤ 3072) (hl : lv_has ls 4 [(3, .int (nI j)), (2, .ref (za G 77)), (1, .ref (za G 0)), (0, .ref b)])
    (kk : ∀ (G2 : zG) (x2 : zX) (N2 R2 L2 : Nat) (H2 : Heap) (locs2 : List Loc), G2.1 = G.1 → zT G2 = zT G → za G2 0 = za G 0 → za G2 77 = za G 77 → zRl G2 x2 N2 R2 L2 → zI G2 x2 A s.heap H2 locs2 → W p l e room_1 s m #[.ref b] below meth c H2 locs2 (cells + 1) (slots + 5) Q (F0 m 1238 ls [])) : W p l e room_1 s m #[.ref b] below meth c H locs cells slots Q (F0 m 776 ls []) := by
  have hG := HR.ok
  obtain ⟨b9, F9, C9, Q9⟩ := HR.hl
  refine lv_aload_n hx hb dL_law_776 rfl (lv_at hl 2 rfl) ?_
  refine z_arg hx hb hX hbl hbA hI.2 hl dL_law_777 dL_law_778 dL_law_779 dL_law_780 dL_law_781 (k := 1) rfl (by omega) hLn ?_
  refine z_calll (va_runV (As := [.int (xs (j + 1))]) (rest := []) ⟨hx, hb, hml, hown, hts⟩ ((c_X11_mean l hG x N b9 C9 ((xs (j + 1))) HR.now Q9.1 Q9.2.2.1 (HR.ctT Q9)) A) (cwV 1 hts gL_law_X11_mean rfl rfl rfl (by decide +kernel) ⟨(Nat.le_of_ble_eq_true rfl), (Nat.le_of_ble_eq_true rfl)⟩) (z_pV hI hK hN (z_recv hK hI (zo0 hG) rfl)) rfl rfl hl.1 rfl (lv_room (Nat.le_of_ble_eq_true rfl)) dL_law_782 ⟨by omega, by omega⟩) hI (fun r1 u1 H locs hw hI => ?_)
  have K : zKs x u1 := ks_mean HR Q9 hw
  refine lv_aload_n hx hb dL_law_785 rfl (lv_at hl 1 rfl) ?_
  refine z_arg hx hb hX hbl hbA hI.2 hl dL_law_786 dL_law_787 dL_law_788 dL_law_789 dL_law_790 (k := 1) rfl (by omega) hLn ?_
  refine z_calll (va_runV (As := [.int (xs (j + 1))]) (rest := [.long r1]) ⟨hx, hb, hml, hown, hts⟩ ((c_X12_mean l hG u1 N F9 C9 ((xs (j + 1))) (K.ref HR.ref) (K.cls Q9.2.2.2.1) (K.kd HR.kdR)) A) (cwV 1 hts gL_law_X12_mean rfl rfl rfl (by decide +kernel) ⟨(Nat.le_of_ble_eq_true rfl), (Nat.le_of_ble_eq_true rfl)⟩) (z_pV hI hK hN (z_recv hK hI (zo77 hG) rfl)) rfl rfl hl.1 rfl (lv_room (Nat.le_of_ble_eq_true rfl)) dL_law_791 ⟨by omega, by omega⟩) hI (fun r2 u2 H locs hw2 hI => ?_)
  obtain ⟨he, N2, R2, L2, HR2⟩ := e_mean HR Q9 hw hw2
  refine W.lcmp hx hb dL_law_794 ?_
  refine lv_if_eq (tgt := 1238) hx hb dL_law_795 (by decide) (fun _ => ?_) (fun hne => absurd (zlcmp0.mpr he) hne)
  exact zmore (by omega) (by omega) (kk G u2 N2 R2 L2 H locs rfl rfl rfl rfl HR2 hI)
