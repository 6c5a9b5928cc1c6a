/-! THE LAW'S CALLS: a stretch -/
set_option maxHeartbeats 2000000 in
set_option maxRecDepth 100000 in
theorem kL_talk {p : Program} {l : Launch} {e : Env} {s : State} {m : MethodId} {below : List Frame} {meth : Method} {c : Code} {H : Heap} {locs : List Loc} {cells slots : Nat} {Q : State → Prop} {A : Nat → Prop} {G : zG} {x : zX} {N R L b Ln j : Nat} {xs : Nat → Int32} {ls : Array Slot} (hx : p.tables.exec = Jvm.exec) (hb : c.code = cL_law) (hml : c.maxLocals = 4) (hown : s.vm.findClass RL = some m.cls) (hts : ∀ w ∈ wsL_law, w.before #[.ref b] s = true) (hX : va_X b Ln xs s s.heap) (hbl : b < s.heap.size) (hbA : ¬ A b) (hN : zN A s) (hAll : ∀ q : Nat, s.heap.size ≤ q → A q) (hK : va_K G.1 vwCl (zT G) s) (HR : zRl G x N R L) (hI : zI G x A s.heap H locs) (hcl : cells + 1 ≤ room_1.cells) (hsl : slots + 5 ≤ room_1.slots) (hj : j + 6 ≤ Ln) (hLn : Ln ≤ 3072) (hl : lv_has ls 4 [(3, .int (nI j)), (2, .ref (za G 77)), (1, .ref (za G 0)), (0, .ref b)])
    (kk : ∀ (G2 : zG) (x2 : zX) (N2 R2 L2 : Nat) (H2 : Heap) (locs2 : List Loc), G2.1 = G.1 → zT G2 = zT G → za G2 0 = za G 0 → za G2 77 = za G 77 → zRl G2 x2 N2 R2 L2 → zI G2 x2 A s.heap H2 locs2 → W p l e room_1 s m #[.ref b] below meth c H2 locs2 (cells + 1) (slots + 5) Q (F0 m 1238 ls [])) : W p l e room_1 s m #[.ref b] below meth c H locs cells slots Q (F0 m 562 ls []) := by
  have hG := HR.ok
  obtain ⟨b9, F9, C9, Q9⟩ := HR.hl
  refine lv_aload_n hx hb dL_law_562 rfl (lv_at hl 2 rfl) ?_
  refine z_arg hx hb hX hbl hbA hI.2 hl dL_law_563 dL_law_564 dL_law_565 dL_law_566 dL_law_567 (k := 1) rfl (by omega) hLn ?_
  refine z_arg hx hb hX hbl hbA hI.2 hl dL_law_568 dL_law_569 dL_law_570 dL_law_571 dL_law_572 (k := 2) rfl (by omega) hLn ?_
  refine z_calli (va_runV (As := [.int (xs (j + 1)), .int (xs (j + 2))]) (rest := []) ⟨hx, hb, hml, hown, hts⟩ ((c_X11_talk l hG x N ((xs (j + 1))) ((xs (j + 2))) HR.now) A) (cwV 2 hts gL_law_X11_talk rfl rfl rfl (by decide +kernel) ⟨(Nat.le_of_ble_eq_true rfl), (Nat.le_of_ble_eq_true rfl)⟩) (z_pV hI hK hN (z_recv hK hI (zo0 hG) rfl)) rfl rfl hl.1 rfl (lv_room (Nat.le_of_ble_eq_true rfl)) dL_law_573 ⟨by omega, by omega⟩) hI (fun r1 u1 H locs hw hI => ?_)
  have K : zKs x u1 := by rcases hw with ⟨-, h, -⟩ | ⟨-, n, -, -, h, -⟩ <;> (rw [← h]; exact zKs.rf)
  refine lv_aload_n hx hb dL_law_576 rfl (lv_at hl 1 rfl) ?_
  refine z_arg hx hb hX hbl hbA hI.2 hl dL_law_577 dL_law_578 dL_law_579 dL_law_580 dL_law_581 (k := 1) rfl (by omega) hLn ?_
  refine z_arg hx hb hX hbl hbA hI.2 hl dL_law_582 dL_law_583 dL_law_584 dL_law_585 dL_law_586 (k := 2) rfl (by omega) hLn ?_
  refine z_calli (va_runV (As := [.int (xs (j + 1)), .int (xs (j + 2))]) (rest := [.int r1]) ⟨hx, hb, hml, hown, hts⟩ ((c_X12_talk l hG u1 N F9 C9 ((xs (j + 1))) ((xs (j + 2))) (K.ref HR.ref) (K.cls Q9.2.2.2.1).1) A) (cwV 2 hts gL_law_X12_talk rfl rfl rfl (by decide +kernel) ⟨(Nat.le_of_ble_eq_true rfl), (Nat.le_of_ble_eq_true rfl)⟩) (z_pV hI hK hN (z_recv hK hI (zo77 hG) rfl)) rfl rfl hl.1 rfl (lv_room (Nat.le_of_ble_eq_true rfl)) dL_law_587 ⟨by omega, by omega⟩) hI (fun r2 u2 H locs hw2 hI => ?_)
  obtain ⟨he, hxu⟩ := e_talk HR Q9 hw hw2
  have HR2 : zRl G u2 N R L := by rw [← hxu]; exact HR
  refine lv_icmp_eq (tgt := 1238) hx hb dL_law_590 (by decide) (fun _ => ?_) (fun hne => absurd he hne)
  exact zmore (by omega) (by omega) (kk G u2 N R L H locs rfl rfl rfl rfl HR2 hI)
set_option maxHeartbeats 2000000 in
set_option maxRecDepth 100000 in
theorem kL_noise {p : Program} {l : Launch} {e : Env} {s : State} {m : MethodId} {below : List Frame} {meth : Method} {c : Code} {H : Heap} {locs : List Loc} {cells slots : Nat} {Q : State → Prop} {A : Nat → Prop} {G : zG} {x : zX} {N R L b Ln j : Nat} {xs : Nat → Int32} {ls : Array Slot} (hx : p.tables.exec = Jvm.exec) (hb : c.code = cL_law) (hml : c.maxLocals = 4) (hown : s.vm.findClass RL = some m.cls) (hts : ∀ w ∈ wsL_law, w.before #[.ref b] s = true) (hX : va_X b Ln xs s s.heap) (hbl : b < s.heap.size) (hbA : ¬ A b) (hN : zN A s) (hAll : ∀ q : Nat, s.heap.size ≤ q → A q) (hK : va_K G.1 vwCl (zT G) s) (HR : zRl G x N R L) (hI : zI G x A s.heap H locs) (hcl : cells + 1 ≤ room_1.cells) (hsl : slots + 5 ≤ room_1.slots) (hj : j + 6 ≤ Ln) (hLn : Ln ≤ 3072) (hl : lv_has ls 4 [(3, .int (nI j)), (2, .ref (za G 77)), (1, .ref (za G 0)), (0, .ref b)])
    (kk : ∀ (G2 : zG) (x2 : zX) (N2 R2 L2 : Nat) (H2 : Heap) (locs2 : List Loc), G2.1 = G.1 → zT G2 = zT G → za G2 0 = za G 0 → za G2 77 = za G 77 → zRl G2 x2 N2 R2 L2 → zI G2 x2 A s.heap H2 locs2 → W p l e room_1 s m #[.ref b] below meth c H2 locs2 (cells + 1) (slots + 5) Q (F0 m 1238 ls [])) : W p l e room_1 s m #[.ref b] below meth c H locs cells slots Q (F0 m 595 ls []) := by
  have hG := HR.ok
  obtain ⟨b9, F9, C9, Q9⟩ := HR.hl
  refine lv_aload_n hx hb dL_law_595 rfl (lv_at hl 2 rfl) ?_
  refine z_arg hx hb hX hbl hbA hI.2 hl dL_law_596 dL_law_597 dL_law_598 dL_law_599 dL_law_600 (k := 1) rfl (by omega) hLn ?_
  refine z_arg hx hb hX hbl hbA hI.2 hl dL_law_601 dL_law_602 dL_law_603 dL_law_604 dL_law_605 (k := 2) rfl (by omega) hLn ?_
  refine z_arg hx hb hX hbl hbA hI.2 hl dL_law_606 dL_law_607 dL_law_608 dL_law_609 dL_law_610 (k := 3) rfl (by omega) hLn ?_
  refine z_calli (va_runV (As := [.int (xs (j + 1)), .int (xs (j + 2)), .int (xs (j + 3))]) (rest := []) ⟨hx, hb, hml, hown, hts⟩ ((c_X11_noise l hG x N ((xs (j + 1))) ((xs (j + 2))) ((xs (j + 3))) HR.now) A) (cwV 3 hts gL_law_X11_noise rfl rfl rfl (by decide +kernel) ⟨(Nat.le_of_ble_eq_true rfl), (Nat.le_of_ble_eq_true rfl)⟩) (z_pV hI hK hN (z_recv hK hI (zo0 hG) rfl)) rfl rfl hl.1 rfl (lv_room (Nat.le_of_ble_eq_true rfl)) dL_law_611 ⟨by omega, by omega⟩) hI (fun r1 u1 H locs hw hI => ?_)
  have K : zKs x u1 := by rcases hw with ⟨-, h, -⟩ | ⟨-, -, h, -⟩ | ⟨-, -, n, -, -, h, -⟩ <;> (rw [← h]; exact zKs.rf)
  refine lv_aload_n hx hb dL_law_614 rfl (lv_at hl 1 rfl) ?_
  refine z_arg hx hb hX hbl hbA hI.2 hl dL_law_615 dL_law_616 dL_law_617 dL_law_618 dL_law_619 (k := 1) rfl (by omega) hLn ?_
  refine z_arg hx hb hX hbl hbA hI.2 hl dL_law_620 dL_law_621 dL_law_622 dL_law_623 dL_law_624 (k := 2) rfl (by omega) hLn ?_
  refine z_arg hx hb hX hbl hbA hI.2 hl dL_law_625 dL_law_626 dL_law_627 dL_law_628 dL_law_629 (k := 3) rfl (by omega) hLn ?_
  refine z_calli (va_runV (As := [.int (xs (j + 1)), .int (xs (j + 2)), .int (xs (j + 3))]) (rest := [.int r1]) ⟨hx, hb, hml, hown, hts⟩ ((c_X12_noise l hG u1 N F9 C9 ((xs (j + 1))) ((xs (j + 2))) ((xs (j + 3))) (K.ref HR.ref) (K.cls Q9.2.2.2.1).1) A) (cwV 3 hts gL_law_X12_noise rfl rfl rfl (by decide +kernel) ⟨(Nat.le_of_ble_eq_true rfl), (Nat.le_of_ble_eq_true rfl)⟩) (z_pV hI hK hN (z_recv hK hI (zo77 hG) rfl)) rfl rfl hl.1 rfl (lv_room (Nat.le_of_ble_eq_true rfl)) dL_law_630 ⟨by omega, by omega⟩) hI (fun r2 u2 H locs hw2 hI => ?_)
  obtain ⟨he, hxu⟩ := e_noise HR Q9 hw hw2
  have HR2 : zRl G u2 N R L := by rw [← hxu]; exact HR
  refine lv_icmp_eq (tgt := 1238) hx hb dL_law_633 (by decide) (fun _ => ?_) (fun hne => absurd he hne)
  exact zmore (by omega) (by omega) (kk G u2 N R L H locs rfl rfl rfl rfl HR2 hI)
set_option maxHeartbeats 2000000 in
set_option maxRecDepth 100000 in
theorem kL_carries {p : Program} {l : Launch} {e : Env} {s : State} {m : MethodId} {below : List Frame} {meth : Method} {c : Code} {H : Heap} {locs : List Loc} {cells slots : Nat} {Q : State → Prop} {A : Nat → Prop} {G : zG} {x : zX} {N R L b Ln j : Nat} {xs : Nat → Int32} {ls : Array Slot} (hx : p.tables.exec = Jvm.exec) (hb : c.code = cL_law) (hml : c.maxLocals = 4) (hown : s.vm.findClass RL = some m.cls) (hts : ∀ w ∈ wsL_law, w.before #[.ref b] s = true) (hX : va_X b Ln xs s s.heap) (hbl : b < s.heap.size) (hbA : ¬ A b) (hN : zN A s) (hAll : ∀ q : Nat, s.heap.size ≤ q → A q) (hK : va_K G.1 vwCl (zT G) s) (HR : zRl G x N R L) (hI : zI G x A s.heap H locs) (hcl : cells + 1 ≤ room_1.cells) (hsl : slots + 5 ≤ room_1.slots) (hj : j + 6 ≤ Ln) (hLn : Ln ≤ 3072) (hl : lv_has ls 4 [(3, .int (nI j)), (2, .ref (za G 77)), (1, .ref (za G 0)), (0, .ref b)])
    (kk : ∀ (G2 : zG) (x2 : zX) (N2 R2 L2 : Nat) (H2 : Heap) (locs2 : List Loc), G2.1 = G.1 → zT G2 = zT G → za G2 0 = za G 0 → za G2 77 = za G 77 → zRl G2 x2 N2 R2 L2 → zI G2 x2 A s.heap H2 locs2 → W p l e room_1 s m #[.ref b] below meth c H2 locs2 (cells + 1) (slots + 5) Q (F0 m 1238 ls [])) : W p l e room_1 s m #[.ref b] below meth c H locs cells slots Q (F0 m 638 ls []) := by
  have hG := HR.ok
  obtain ⟨b9, F9, C9, Q9⟩ := HR.hl
  refine lv_aload_n hx hb dL_law_638 rfl (lv_at hl 2 rfl) ?_
  refine z_arg hx hb hX hbl hbA hI.2 hl dL_law_639 dL_law_640 dL_law_641 dL_law_642 dL_law_643 (k := 1) rfl (by omega) hLn ?_
  refine z_arg hx hb hX hbl hbA hI.2 hl dL_law_644 dL_law_645 dL_law_646 dL_law_647 dL_law_648 (k := 2) rfl (by omega) hLn ?_
  refine z_calli (va_runV (As := [.int (xs (j + 1)), .int (xs (j + 2))]) (rest := []) ⟨hx, hb, hml, hown, hts⟩ ((c_X11_carries l hG x N ((xs (j + 1))) ((xs (j + 2))) HR.now) A) (cwV 2 hts gL_law_X11_carries rfl rfl rfl (by decide +kernel) ⟨(Nat.le_of_ble_eq_true rfl), (Nat.le_of_ble_eq_true rfl)⟩) (z_pV hI hK hN (z_recv hK hI (zo0 hG) rfl)) rfl rfl hl.1 rfl (lv_room (Nat.le_of_ble_eq_true rfl)) dL_law_649 ⟨by omega, by omega⟩) hI (fun r1 u1 H locs hw hI => ?_)
  have K : zKs x u1 := by rw [← hw.1]; exact zKs.rf
  refine lv_aload_n hx hb dL_law_652 rfl (lv_at hl 1 rfl) ?_
  refine z_arg hx hb hX hbl hbA hI.2 hl dL_law_653 dL_law_654 dL_law_655 dL_law_656 dL_law_657 (k := 1) rfl (by omega) hLn ?_
  refine z_arg hx hb hX hbl hbA hI.2 hl dL_law_658 dL_law_659 dL_law_660 dL_law_661 dL_law_662 (k := 2) rfl (by omega) hLn ?_
  refine z_calli (va_runV (As := [.int (xs (j + 1)), .int (xs (j + 2))]) (rest := [.int r1]) ⟨hx, hb, hml, hown, hts⟩ ((c_X12_carries l hG u1 N F9 C9 ((xs (j + 1))) ((xs (j + 2))) (K.ref HR.ref) (K.cls Q9.2.2.2.1).1) A) (cwV 2 hts gL_law_X12_carries rfl rfl rfl (by decide +kernel) ⟨(Nat.le_of_ble_eq_true rfl), (Nat.le_of_ble_eq_true rfl)⟩) (z_pV hI hK hN (z_recv hK hI (zo77 hG) rfl)) rfl rfl hl.1 rfl (lv_room (Nat.le_of_ble_eq_true rfl)) dL_law_663 ⟨by omega, by omega⟩) hI (fun r2 u2 H locs hw2 hI => ?_)
  obtain ⟨he, hxu⟩ := e_carries HR Q9 hw hw2
  have HR2 : zRl G u2 N R L := by rw [← hxu]; exact HR
  refine lv_icmp_eq (tgt := 1238) hx hb dL_law_666 (by decide) (fun _ => ?_) (fun hne => absurd he hne)
  exact zmore (by omega) (by omega) (kk G u2 N R L H locs rfl rfl rfl rfl HR2 hI)
set_option maxHeartbeats 2000000 in
set_option maxRecDepth 100000 in
theorem kL_named {p : Program} {l : Launch} {e : Env} {s : State} {m : MethodId} {below : List Frame} {meth : Method} {c : Code} {H : Heap} {locs : List Loc} {cells slots : Nat} {Q : State → Prop} {A : Nat → Prop} {G : zG} {x : zX} {N R L b Ln j : Nat} {xs : Nat → Int32} {ls : Array Slot} (hx : p.tables.exec = Jvm.exec) (hb : c.code = cL_law) (hml : c.maxLocals = 4) (hown : s.vm.findClass RL = some m.cls) (hts : ∀ w ∈ wsL_law, w.before #[.ref b] s = true) (hX : va_X b Ln xs s s.heap) (hbl : b < s.heap.size) (hbA : ¬ A b) (hN : zN A s) (hAll : ∀ q : Nat, s.heap.size ≤ q → A q) (hK : va_K G.1 vwCl (zT G) s) (HR : zRl G x N R L) (hI : zI G x A s.heap H locs) (hcl : cells + 1 ≤ room_1.cells) (hsl : slots + 5 ≤ room_1.slots) (hj : j + 6 ≤ Ln) (hLn : Ln ≤ 3072) (hl : lv_has ls 4 [(3, .int (nI j)), (2, .ref (za G 77)), (1, .ref (za G 0)), (0, .ref b)])
    (kk : ∀ (G2 : zG) (x2 : zX) (N2 R2 L2 : Nat) (H2 : Heap) (locs2 : List Loc), G2.1 = G.1 → zT G2 = zT G → za G2 0 = za G 0 → za G2 77 = za G 77 → zRl G2 x2 N2 R2 L2 → zI G2 x2 A s.heap H2 locs2 → W p l e room_1 s m #[.ref b] below meth c H2 locs2 (cells + 1) (slots + 5) Q (F0 m 1238 ls [])) : W p l e room_1 s m #[.ref b] below meth c H locs cells slots Q (F0 m 671 ls []) := by
  have hG := HR.ok
  refine lv_aload_n hx hb dL_law_671 rfl (lv_at hl 2 rfl) ?_
  refine z_arg hx hb hX hbl hbA hI.2 hl dL_law_672 dL_law_673 dL_law_674 dL_law_675 dL_law_676 (k := 1) rfl (by omega) hLn ?_
  refine z_calli (va_runV (As := [.int (xs (j + 1))]) (rest := []) ⟨hx, hb, hml, hown, hts⟩ ((c_X11_named l hG x N ((xs (j + 1))) HR.now) A) (cwV 1 hts gL_law_X11_named rfl rfl rfl (by decide +kernel) ⟨(Nat.le_of_ble_eq_true rfl), (Nat.le_of_ble_eq_true rfl)⟩) (z_pV hI hK hN (z_recv hK hI (zo0 hG) rfl)) rfl rfl hl.1 rfl (lv_room (Nat.le_of_ble_eq_true rfl)) dL_law_677 ⟨by omega, by omega⟩) hI (fun r1 u1 H locs hw hI => ?_)
  have K : zKs x u1 := by rw [← hw.1]; exact zKs.rf
  refine lv_aload_n hx hb dL_law_680 rfl (lv_at hl 1 rfl) ?_
  refine z_arg hx hb hX hbl hbA hI.2 hl dL_law_681 dL_law_682 dL_law_683 dL_law_684 dL_law_685 (k := 1) rfl (by omega) hLn ?_
  refine z_calli (va_runV (As := [.int (xs (j + 1))]) (rest := [.int r1]) ⟨hx, hb, hml, hown, hts⟩ ((c_X12_named l hG u1 N ((xs (j + 1))) (K.ref HR.ref)) A) (cwV 1 hts gL_law_X12_named rfl rfl rfl (by decide +kernel) ⟨(Nat.le_of_ble_eq_true rfl), (Nat.le_of_ble_eq_true rfl)⟩) (z_pV hI hK hN (z_recv hK hI (zo77 hG) rfl)) rfl rfl hl.1 rfl (lv_room (Nat.le_of_ble_eq_true rfl)) dL_law_686 ⟨by omega, by omega⟩) hI (fun r2 u2 H locs hw2 hI => ?_)
  obtain ⟨he, hxu⟩ := e_named HR hw hw2
  have HR2 : zRl G u2 N R L := by rw [← hxu]; exact HR
  refine lv_icmp_eq (tgt := 1238) hx hb dL_law_689 (by decide) (fun _ => ?_) (fun hne => absurd he hne)
  exact zmore (by omega) (by omega) (kk G u2 N R L H locs rfl rfl rfl rfl HR2 hI)
set_option maxHeartbeats 2000000 in
set_option maxRecDepth 100000 in
theorem kL_slips {p : Program} {l : Launch} {e : Env} {s : State} {m : MethodId} {below : List Frame} {meth : Method} {c : Code} {H : Heap} {locs : List Loc} {cells slots : Nat} {Q : State → Prop} {A : Nat → Prop} {G : zG} {x : zX} {N R L b Ln j : Nat} {xs : Nat → Int32} {ls : Array Slot} (hx : p.tables.exec = Jvm.exec) (hb : c.code = cL_law) (hml : c.maxLocals = 4) (hown : s.vm.findClass RL = some m.cls) (hts : ∀ w ∈ wsL_law, w.before #[.ref b] s = true) (hX : va_X b Ln xs s s.heap) (hbl : b < s.heap.size) (hbA : ¬ A b) (hN : zN A s) (hAll : ∀ q : Nat, s.heap.size ≤ q → A q) (hK : va_K G.1 vwCl (zT G) s) (HR : zRl G x N R L) (hI : zI G x A s.heap H locs) (hcl : cells + 1 ≤ room_1.cells) (hsl : slots + 5 ≤ room_1.slots) (hj : j + 6 ≤ Ln) (hLn : Ln ≤ 3072) (hl : lv_has ls 4 [(3, .int (nI j)), (2, .ref (za G 77)), (1, .ref (za G 0)), (0, .ref b)])
    (kk : ∀ (G2 : zG) (x2 : zX) (N2 R2 L2 : Nat) (H2 : Heap) (locs2 : List Loc), G2.1 = G.1 → zT G2 = zT G → za G2 0 = za G 0 → za G2 77 = za G 77 → zRl G2 x2 N2 R2 L2 → zI G2 x2 A s.heap H2 locs2 → W p l e room_1 s m #[.ref b] below meth c H2 locs2 (cells + 1) (slots + 5) Q (F0 m 1238 ls [])) : W p l e room_1 s m #[.ref b] below meth c H locs cells slots Q (F0 m 694 ls []) := by
  have hG := HR.ok
  refine lv_aload_n hx hb dL_law_694 rfl (lv_at hl 2 rfl) ?_
  refine z_arg hx hb hX hbl hbA hI.2 hl dL_law_695 dL_law_696 dL_law_697 dL_law_698 dL_law_699 (k := 1) rfl (by omega) hLn ?_
  refine z_calli (va_runV (As := [.int (xs (j + 1))]) (rest := []) ⟨hx, hb, hml, hown, hts⟩ ((c_X11_slips l hG x N ((xs (j + 1))) HR.now) A) (cwV 1 hts gL_law_X11_slips rfl rfl rfl (by decide +kernel) ⟨(Nat.le_of_ble_eq_true rfl), (Nat.le_of_ble_eq_true rfl)⟩) (z_pV hI hK hN (z_recv hK hI (zo0 hG) rfl)) rfl rfl hl.1 rfl (lv_room (Nat.le_of_ble_eq_true rfl)) dL_law_700 ⟨by omega, by omega⟩) hI (fun r1 u1 H locs hw hI => ?_)
  have K : zKs x u1 := by rw [← hw.1]; exact zKs.rf
  refine lv_aload_n hx hb dL_law_703 rfl (lv_at hl 1 rfl) ?_
  refine z_arg hx hb hX hbl hbA hI.2 hl dL_law_704 dL_law_705 dL_law_706 dL_law_707 dL_law_708 (k := 1) rfl (by omega) hLn ?_
  refine z_calli (va_runV (As := [.int (xs (j + 1))]) (rest := [.int r1]) ⟨hx, hb, hml, hown, hts⟩ ((c_X12_slips l hG u1 N ((xs (j + 1))) (K.ref HR.ref)) A) (cwV 1 hts gL_law_X12_slips rfl rfl rfl (by decide +kernel) ⟨(Nat.le_of_ble_eq_true rfl), (Nat.le_of_ble_eq_true rfl)⟩) (z_pV hI hK hN (z_recv hK hI (zo77 hG) rfl)) rfl rfl hl.1 rfl (lv_room (Nat.le_of_ble_eq_true rfl)) dL_law_709 ⟨by omega, by omega⟩) hI (fun r2 u2 H locs hw2 hI => ?_)
  obtain ⟨he, hxu⟩ := e_slips HR hw hw2
  have HR2 : zRl G u2 N R L := by rw [← hxu]; exact HR
  refine lv_icmp_eq (tgt := 1238) hx hb dL_law_712 (by decide) (fun _ => ?_) (fun hne => absurd he hne)
  exact zmore (by omega) (by omega) (kk G u2 N R L H locs rfl rfl rfl rfl HR2 hI)
set_option maxHeartbeats 2000000 in
set_option maxRecDepth 100000 in
theorem kL_month {p : Program} {l : Launch} {e : Env} {s : State} {m : MethodId} {below : List Frame} {meth : Method} {c : Code} {H : Heap} {locs : List Loc} {cells slots : Nat} {Q : State → Prop} {A : Nat → Prop} {G : zG} {x : zX} {N R L b Ln j : Nat} {xs : Nat → Int32} {ls : Array Slot} (hx : p.tables.exec = Jvm.exec) (hb : c.code = cL_law) (hml : c.maxLocals = 4) (hown : s.vm.findClass RL = some m.cls) (hts : ∀ w ∈ wsL_law, w.before #[.ref b] s = true) (hX : va_X b Ln xs s s.heap) (hbl : b < s.heap.size) (hbA : ¬ A b) (hN : zN A s) (hAll : ∀ q : Nat, s.heap.size ≤ q → A q) (hK : va_K G.1 vwCl (zT G) s) (HR : zRl G x N R L) (hI : zI G x A s.heap H locs) (hcl : cells + 1 ≤ room_1.cells) (hsl : slots + 5 ≤ room_1.slots) (hj : j + 6 ≤ Ln) (hLn : Ln ≤ 3072) (hl : lv_has ls 4 [(3, .int (nI j)), (2, .ref (za G 77)), (1, .ref (za G 0)), (0, .ref b)])
    (kk : ∀ (G2 : zG) (x2 : zX) (N2 R2 L2 : Nat) (H2 : Heap) (locs2 : List Loc), G2.1 = G.1 → zT G2 = zT G → za G2 0 = za G 0 → za G2 77 = za G 77 → zRl G2 x2 N2 R2 L2 → zI G2 x2 A s.heap H2 locs2 → W p l e room_1 s m #[.ref b] below meth c H2 locs2 (cells + 1) (slots + 5) Q (F0 m 1238 ls [])) : W p l e room_1 s m #[.ref b] below meth c H locs cells slots Q (F0 m 717 ls []) := by
  have hG := HR.ok
  refine lv_aload_n hx hb dL_law_717 rfl (lv_at hl 2 rfl) ?_
  refine z_calli (va_runV (As := []) (rest := []) ⟨hx, hb, hml, hown, hts⟩ ((c_X11_month l hG x ) A) (cwV 0 hts gL_law_X11_month rfl rfl rfl (by decide +kernel) ⟨(Nat.le_of_ble_eq_true rfl), (Nat.le_of_ble_eq_true rfl)⟩) (z_pV hI hK hN (z_recv hK hI (zo0 hG) rfl)) rfl rfl hl.1 rfl (lv_room (Nat.le_of_ble_eq_true rfl)) dL_law_718 ⟨by omega, by omega⟩) hI (fun r1 u1 H locs hw hI => ?_)
  have K : zKs x u1 := ks_month HR hw
  refine lv_aload_n hx hb dL_law_721 rfl (lv_at hl 1 rfl) ?_
  refine z_calli (va_runV (As := []) (rest := [.int r1]) ⟨hx, hb, hml, hown, hts⟩ ((c_X12_month l hG u1 N (K.ref HR.ref)) A) (cwV 0 hts gL_law_X12_month rfl rfl rfl (by decide +kernel) ⟨(Nat.le_of_ble_eq_true rfl), (Nat.le_of_ble_eq_true rfl)⟩) (z_pV hI hK hN (z_recv hK hI (zo77 hG) rfl)) rfl rfl hl.1 rfl (lv_room (Nat.le_of_ble_eq_true rfl)) dL_law_722 ⟨by omega, by omega⟩) hI (fun r2 u2 H locs hw2 hI => ?_)
  obtain ⟨he, N2, R2, L2, HR2⟩ := e_month HR hw hw2
  refine lv_icmp_eq (tgt := 1238) hx hb dL_law_725 (by decide) (fun _ => ?_) (fun hne => absurd he hne)
  exact zmore (by omega) (by omega) (kk G u2 N2 R2 L2 H locs rfl rfl rfl rfl HR2 hI)
set_option maxHeartbeats 2000000 in
set_option maxRecDepth 100000 in
theorem kL_lacks {p : Program} {l : Launch} {e : Env} {s : State} {m : MethodId} {below : List Frame} {meth : Method} {c : Code} {H : Heap} {locs : List Loc} {cells slots : Nat} {Q : State → Prop} {A : Nat → Prop} {G : zG} {x : zX} {N R L b Ln j : Nat} {xs : Nat → Int32} {ls : Array Slot} (hx : p.tables.exec = Jvm.exec) (hb : c.code = cL_law) (hml : c.maxLocals = 4) (hown : s.vm.findClass RL = some m.cls) (hts : ∀ w ∈ wsL_law, w.before #[.ref b] s = true) (hX : va_X b Ln xs s s.heap) (hbl : b < s.heap.size) (hbA : ¬ A b) (hN : zN A s) (hAll : ∀ q : Nat, s.heap.size ≤ q → A q) (hK : va_K G.1 vwCl (zT G) s) (HR : zRl G x N R L) (hI : zI G x A s.heap H locs) (hcl : cells + 1 ≤ room_1.cells) (hsl : slots + 5 ≤ room_1.slots) (hj : j + 6 ≤ Ln) (hLn : Ln ≤ 3072) (hl : lv_has ls 4 [(3, .int (nI j)), (2, .ref (za G 77)), (1, .ref (za G 0)), (0, .ref b)])
    (kk : ∀ (G2 : zG) (x2 : zX) (N2 R2 L2 : Nat) (H2 : Heap) (locs2 : List Loc), G2.1 = G.1 → zT G2 = zT G → za G2 0 = za G 0 → za G2 77 = za G 77 → zRl G2 x2 N2 R2 L2 → zI G2 x2 A s.heap H2 locs2 → W p l e room_1 s m #[.ref b] below meth c H2 locs2 (cells + 1) (slots + 5) Q (F0 m 1238 ls [])) : W p l e room_1 s m #[.ref b] below meth c H locs cells slots Q (F0 m 730 ls []) := by
  have hG := HR.ok
  refine lv_aload_n hx hb dL_law_730 rfl (lv_at hl 2 rfl) ?_
  refine z_arg hx hb hX hbl hbA hI.2 hl dL_law_731 dL_law_732 dL_law_733 dL_law_734 dL_law_735 (k := 1) rfl (by omega) hLn ?_
  refine z_calli (va_runV (As := [.int (xs (j + 1))]) (rest := []) ⟨hx, hb, hml, hown, hts⟩ ((c_X11_lacks l hG x N ((xs (j + 1))) HR.now) A) (cwV 1 hts gL_law_X11_lacks rfl rfl rfl (by decide +kernel) ⟨(Nat.le_of_ble_eq_true rfl), (Nat.le_of_ble_eq_true rfl)⟩) (z_pV hI hK hN (z_recv hK hI (zo0 hG) rfl)) rfl rfl hl.1 rfl (lv_room (Nat.le_of_ble_eq_true rfl)) dL_law_736 ⟨by omega, by omega⟩) hI (fun r1 u1 H locs hw hI => ?_)
  have K : zKs x u1 := by rw [← hw.1]; exact zKs.rf
  refine lv_aload_n hx hb dL_law_739 rfl (lv_at hl 1 rfl) ?_
  refine z_arg hx hb hX hbl hbA hI.2 hl dL_law_740 dL_law_741 dL_law_742 dL_law_743 dL_law_744 (k := 1) rfl (by omega) hLn ?_
  refine z_calli (va_runV (As := [.int (xs (j + 1))]) (rest := [.int r1]) ⟨hx, hb, hml, hown, hts⟩ ((c_X12_lacks l hG u1 N ((xs (j + 1))) (K.ref HR.ref)) A) (cwV 1 hts gL_law_X12_lacks rfl rfl rfl (by decide +kernel) ⟨(Nat.le_of_ble_eq_true rfl), (Nat.le_of_ble_eq_true rfl)⟩) (z_pV hI hK hN (z_recv hK hI (zo77 hG) rfl)) rfl rfl hl.1 rfl (lv_room (Nat.le_of_ble_eq_true rfl)) dL_law_745 ⟨by omega, by omega⟩) hI (fun r2 u2 H locs hw2 hI => ?_)
  obtain ⟨he, hxu⟩ := e_lacks HR hw hw2
  have HR2 : zRl G u2 N R L := by rw [← hxu]; exact HR
  refine lv_icmp_eq (tgt := 1238) hx hb dL_law_748 (by decide) (fun _ => ?_) (fun hne => absurd he hne)
  exact zmore (by omega) (by omega) (kk G u2 N R L H locs rfl rfl rfl rfl HR2 hI)
set_option maxHeartbeats 2000000 in
set_option maxRecDepth 100000 in
theorem kL_next {p : Program} {l : Launch} {e : Env} {s : State} {m : MethodId} {below : List Frame} {meth : Method} {c : Code} {H : Heap} {locs : List Loc} {cells slots : Nat} {Q : State → Prop} {A : Nat → Prop} {G : zG} {x : zX} {N R L b Ln j : Nat} {xs : Nat → Int32} {ls : Array Slot} (hx : p.tables.exec = Jvm.exec) (hb : c.code = cL_law) (hml : c.maxLocals = 4) (hown : s.vm.findClass RL = some m.cls) (hts : ∀ w ∈ wsL_law, w.before #[.ref b] s = true) (hX : va_X b Ln xs s s.heap) (hbl : b < s.heap.size) (hbA : ¬ A b) (hN : zN A s) (hAll : ∀ q : Nat, s.heap.size ≤ q → A q) (hK : va_K G.1 vwCl (zT G) s) (HR : zRl G x N R L) (hI : zI G x A s.heap H locs) (hcl : cells + 1 ≤ room_1.cells) (hsl : slots + 5 ≤ room_1.slots) (hj : j + 6 ≤ Ln) (hLn : Ln ≤ 3072) (hl : lv_has ls 4 [(3, .int (nI j)), (2, .ref (za G 77)), (1, .ref (za G 0)), (0, .ref b)])
    (kk : ∀ (G2 : zG) (x2 : zX) (N2 R2 L2 : Nat) (H2 : Heap) (locs2 : List Loc), G2.1 = G.1 → zT G2 = zT G → za G2 0 = za G 0 → za G2 77 = za G 77 → zRl G2 x2 N2 R2 L2 → zI G2 x2 A s.heap H2 locs2 → W p l e room_1 s m #[.ref b] below meth c H2 locs2 (cells + 1) (slots + 5) Q (F0 m 1238 ls [])) : W p l e room_1 s m #[.ref b] below meth c H locs cells slots Q (F0 m 753 ls []) := by
  have hG := HR.ok
  refine lv_aload_n hx hb dL_law_753 rfl (lv_at hl 2 rfl) ?_
  refine z_arg hx hb hX hbl hbA hI.2 hl dL_law_754 dL_law_755 dL_law_756 dL_law_757 dL_law_758 (k := 1) rfl (by omega) hLn ?_
  refine z_calli (va_runV (As := [.int (xs (j + 1))]) (rest := []) ⟨hx, hb, hml, hown, hts⟩ ((c_X11_next l hG x N ((xs (j + 1))) HR.now) A) (cwV 1 hts gL_law_X11_next rfl rfl rfl (by decide +kernel) ⟨(Nat.le_of_ble_eq_true rfl), (Nat.le_of_ble_eq_true rfl)⟩) (z_pV hI hK hN (z_recv hK hI (zo0 hG) rfl)) rfl rfl hl.1 rfl (lv_room (Nat.le_of_ble_eq_true rfl)) dL_law_759 ⟨by omega, by omega⟩) hI (fun r1 u1 H locs hw hI => ?_)
  have K : zKs x u1 := ks_next HR hw
  refine lv_aload_n hx hb dL_law_762 rfl (lv_at hl 1 rfl) ?_
  refine z_arg hx hb hX hbl hbA hI.2 hl dL_law_763 dL_law_764 dL_law_765 dL_law_766 dL_law_767 (k := 1) rfl (by omega) hLn ?_
  refine z_calli (va_runV (As := [.int (xs (j + 1))]) (rest := [.int r1]) ⟨hx, hb, hml, hown, hts⟩ ((c_X12_next_ l hG u1 N ((xs (j + 1))) (K.ref HR.ref)) A) (cwV 1 hts gL_law_X12_next_ rfl rfl rfl (by decide +kernel) ⟨(Nat.le_of_ble_eq_true rfl), (Nat.le_of_ble_eq_true rfl)⟩) (z_pV hI hK hN (z_recv hK hI (zo77 hG) rfl)) rfl rfl hl.1 rfl (lv_room (Nat.le_of_ble_eq_true rfl)) dL_law_768 ⟨by omega, by omega⟩) hI (fun r2 u2 H locs hw2 hI => ?_)
  obtain ⟨he, N2, R2, L2, HR2⟩ := e_next HR hw hw2
  refine lv_icmp_eq (tgt := 1238) hx hb dL_law_771 (by decide) (fun _ => ?_) (fun hne => absurd he hne)
  exact zmore (by omega) (by omega) (kk G u2 N2 R2 L2 H locs rfl rfl rfl rfl HR2 hI)
