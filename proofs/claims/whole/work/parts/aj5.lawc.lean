/-! THE LAW'S CALLS: front, item, pupil -/
set_option maxHeartbeats 2000000 in
set_option maxRecDepth 100000 in
theorem kL_front {p : Program} {l : Launch} {e : Env} {s : State} {m : MethodId} {below : List Frame} {meth : Method} {c : Code} {H : Heap} {locs : List Loc} {cells slots : Nat} {Q : State → Prop} {A : Nat → Prop} {G : zG} {x : zX} {N R L b Ln j : Nat} {xs : Nat → Int32} {ls : Array Slot} (hx : p.tables.exec = Jvm.exec) (hb : c.code = cL_law) (hml : c.maxLocals = 4) (hown : s.vm.findClass RL = some m.cls) (hts : ∀ w ∈ wsL_law, w.before #[.ref b] s = true) (hX : va_X b Ln xs s s.heap) (hbl : b < s.heap.size) (hbA : ¬ A b) (hN : zN A s) (hAll : ∀ q : Nat, s.heap.size ≤ q → A q) (hK : va_K G.1 vwCl (zT G) s) (HR : zRl G x N R L) (hI : zI G x A s.heap H locs) (hcl : cells + 1 ≤ room_1.cells) (hsl : slots + 5 ≤ room_1.slots) (hj : j + 6 ≤ Ln) (hLn : Ln ≤ 3072) (hl : lv_has ls 4 [(3, .int (nI j)), (2, .ref (za G 77)), (1, .ref (za G 0)), (0, .ref b)])
    (kk : ∀ (G2 : zG) (x2 : zX) (N2 R2 L2 : Nat) (H2 : Heap) (locs2 : List Loc), G2.1 = G.1 → zT G2 = zT G → za G2 0 = za G 0 → za G2 77 = za G 77 → zRl G2 x2 N2 R2 L2 → zI G2 x2 A s.heap H2 locs2 → W p l e room_1 s m #[.ref b] below meth c H2 locs2 (cells + 1) (slots + 5) Q (F0 m 1238 ls [])) : W p l e room_1 s m #[.ref b] below meth c H locs cells slots Q (F0 m 276 ls []) := by
  have hG := HR.ok
  refine lv_aload_n hx hb dL_law_276 rfl (lv_at hl 2 rfl) ?_
  by_cases hz : xs (j + 2) = 0
  · skip
    have hb01 : nI 0 = 0 ∨ nI 0 = 1 := Or.inl rfl
    refine z_arg hx hb hX hbl hbA hI.2 hl dL_law_277 dL_law_278 dL_law_279 dL_law_280 dL_law_281 (k := 1) rfl (by omega) hLn ?_
    refine z_arg hx hb hX hbl hbA hI.2 hl dL_law_282 dL_law_283 dL_law_284 dL_law_285 dL_law_286 (k := 2) rfl (by omega) hLn ?_
    refine lv_if_eq (tgt := 294) hx hb dL_law_287 (by decide) (fun _ => ?_) (fun h9 => absurd hz h9)
    refine lv_iconst (v := nI 0) hx hb dL_law_294 (by decide) ?_
    refine z_calli (va_runV (As := [.int (xs (j + 1)), .int (nI 0)]) (rest := []) ⟨hx, hb, hml, hown, hts⟩ ((c_X11_front l hG x N (xs (j + 1)) (nI 0) HR.now) A) (cwV 2 hts gL_law_X11_front rfl rfl rfl (by decide +kernel) ⟨(Nat.le_of_ble_eq_true rfl), (Nat.le_of_ble_eq_true rfl)⟩) (z_pV hI hK hN (z_recv hK hI (zo0 hG) rfl)) rfl rfl hl.1 rfl (lv_room (Nat.le_of_ble_eq_true rfl)) dL_law_295 ⟨by omega, by omega⟩) hI (fun r1 u1 H locs hw hI => ?_)
    have K : zKs x u1 := ks_front HR hw
    refine lv_aload_n hx hb dL_law_298 rfl (lv_at hl 1 rfl) ?_
    refine z_arg hx hb hX hbl hbA hI.2 hl dL_law_299 dL_law_300 dL_law_301 dL_law_302 dL_law_303 (k := 1) rfl (by omega) hLn ?_
    refine z_arg hx hb hX hbl hbA hI.2 hl dL_law_304 dL_law_305 dL_law_306 dL_law_307 dL_law_308 (k := 2) rfl (by omega) hLn ?_
    refine lv_if_eq (tgt := 316) hx hb dL_law_309 (by decide) (fun _ => ?_) (fun h9 => absurd hz h9)
    refine lv_iconst (v := nI 0) hx hb dL_law_316 (by decide) ?_
    refine z_calli (va_runV (As := [.int (xs (j + 1)), .int (nI 0)]) (rest := [.int r1]) ⟨hx, hb, hml, hown, hts⟩ ((c_X12_front l hG u1 N (xs (j + 1)) (nI 0) (K.ref HR.ref) hb01) A) (cwV 2 hts gL_law_X12_front rfl rfl rfl (by decide +kernel) ⟨(Nat.le_of_ble_eq_true rfl), (Nat.le_of_ble_eq_true rfl)⟩) (z_pV hI hK hN (z_recv hK hI (zo77 hG) rfl)) rfl rfl hl.1 rfl (lv_room (Nat.le_of_ble_eq_true rfl)) dL_law_317 ⟨by omega, by omega⟩) hI (fun r2 u2 H locs hw2 hI => ?_)
    obtain ⟨he, N2, R2, L2, HR2⟩ := e_front HR hb01 hw hw2
    refine lv_icmp_eq (tgt := 1238) hx hb dL_law_320 (by decide) (fun _ => ?_) (fun hne => absurd he hne)
    exact zmore (by omega) (by omega) (kk G u2 N2 R2 L2 H locs rfl rfl rfl rfl HR2 hI)
  · skip
    have hb01 : nI 1 = 0 ∨ nI 1 = 1 := Or.inr rfl
    refine z_arg hx hb hX hbl hbA hI.2 hl dL_law_277 dL_law_278 dL_law_279 dL_law_280 dL_law_281 (k := 1) rfl (by omega) hLn ?_
    refine z_arg hx hb hX hbl hbA hI.2 hl dL_law_282 dL_law_283 dL_law_284 dL_law_285 dL_law_286 (k := 2) rfl (by omega) hLn ?_
    refine lv_if_eq (tgt := 294) hx hb dL_law_287 (by decide) (fun h9 => absurd h9 hz) (fun _ => ?_)
    refine lv_iconst (v := nI 1) hx hb dL_law_290 (by decide) ?_
    refine lv_goto (tgt := 295) hx hb dL_law_291 (by decide) ?_
    refine z_calli (va_runV (As := [.int (xs (j + 1)), .int (nI 1)]) (rest := []) ⟨hx, hb, hml, hown, hts⟩ ((c_X11_front l hG x N (xs (j + 1)) (nI 1) HR.now) A) (cwV 2 hts gL_law_X11_front rfl rfl rfl (by decide +kernel) ⟨(Nat.le_of_ble_eq_true rfl), (Nat.le_of_ble_eq_true rfl)⟩) (z_pV hI hK hN (z_recv hK hI (zo0 hG) rfl)) rfl rfl hl.1 rfl (lv_room (Nat.le_of_ble_eq_true rfl)) dL_law_295 ⟨by omega, by omega⟩) hI (fun r1 u1 H locs hw hI => ?_)
    have K : zKs x u1 := ks_front HR hw
    refine lv_aload_n hx hb dL_law_298 rfl (lv_at hl 1 rfl) ?_
    refine z_arg hx hb hX hbl hbA hI.2 hl dL_law_299 dL_law_300 dL_law_301 dL_law_302 dL_law_303 (k := 1) rfl (by omega) hLn ?_
    refine z_arg hx hb hX hbl hbA hI.2 hl dL_law_304 dL_law_305 dL_law_306 dL_law_307 dL_law_308 (k := 2) rfl (by omega) hLn ?_
    refine lv_if_eq (tgt := 316) hx hb dL_law_309 (by decide) (fun h9 => absurd h9 hz) (fun _ => ?_)
    refine lv_iconst (v := nI 1) hx hb dL_law_312 (by decide) ?_
    refine lv_goto (tgt := 317) hx hb dL_law_313 (by decide) ?_
    refine z_calli (va_runV (As := [.int (xs (j + 1)), .int (nI 1)]) (rest := [.int r1]) ⟨hx, hb, hml, hown, hts⟩ ((c_X12_front l hG u1 N (xs (j + 1)) (nI 1) (K.ref HR.ref) hb01) A) (cwV 2 hts gL_law_X12_front rfl rfl rfl (by decide +kernel) ⟨(Nat.le_of_ble_eq_true rfl), (Nat.le_of_ble_eq_true rfl)⟩) (z_pV hI hK hN (z_recv hK hI (zo77 hG) rfl)) rfl rfl hl.1 rfl (lv_room (Nat.le_of_ble_eq_true rfl)) dL_law_317 ⟨by omega, by omega⟩) hI (fun r2 u2 H locs hw2 hI => ?_)
    obtain ⟨he, N2, R2, L2, HR2⟩ := e_front HR hb01 hw hw2
    refine lv_icmp_eq (tgt := 1238) hx hb dL_law_320 (by decide) (fun _ => ?_) (fun hne => absurd he hne)
    exact zmore (by omega) (by omega) (kk G u2 N2 R2 L2 H locs rfl rfl rfl rfl HR2 hI)
set_option maxHeartbeats 2000000 in
set_option maxRecDepth 100000 in
theorem kL_item {p : Program} {l : Launch} {e : Env} {s : State} {m : MethodId} {below : List Frame} {meth : Method} {c : Code} {H : Heap} {locs : List Loc} {cells slots : Nat} {Q : State → Prop} {A : Nat → Prop} {G : zG} {x : zX} {N R L b Ln j : Nat} {xs : Nat → Int32} {ls : Array Slot} (hx : p.tables.exec = Jvm.exec) (hb : c.code = cL_law) (hml : c.maxLocals = 4) (hown : s.vm.findClass RL = some m.cls) (hts : ∀ w ∈ wsL_law, w.before #[.ref b] s = true) (hX : va_X b Ln xs s s.heap) (hbl : b < s.heap.size) (hbA : ¬ A b) (hN : zN A s) (hAll : ∀ q : Nat, s.heap.size ≤ q → A q) (hK : va_K G.1 vwCl (zT G) s) (HR : zRl G x N R L) (hI : zI G x A s.heap H locs) (hcl : cells + 1 ≤ room_1.cells) (hsl : slots + 5 ≤ room_1.slots) (hj : j + 6 ≤ Ln) (hLn : Ln ≤ 3072) (hl : lv_has ls 4 [(3, .int (nI j)), (2, .ref (za G 77)), (1, .ref (za G 0)), (0, .ref b)])
    (kk : ∀ (G2 : zG) (x2 : zX) (N2 R2 L2 : Nat) (H2 : Heap) (locs2 : List Loc), G2.1 = G.1 → zT G2 = zT G → za G2 0 = za G 0 → za G2 77 = za G 77 → zRl G2 x2 N2 R2 L2 → zI G2 x2 A s.heap H2 locs2 → W p l e room_1 s m #[.ref b] below meth c H2 locs2 (cells + 1) (slots + 5) Q (F0 m 1238 ls [])) : W p l e room_1 s m #[.ref b] below meth c H locs cells slots Q (F0 m 1068 ls []) := by
  have hG := HR.ok
  have wK142 := hts (.constantLong RL 142 (4294967295)) (z_mem 6 rfl)
  refine lv_aload_n hx hb dL_law_1068 rfl (lv_at hl 2 rfl) ?_
  refine z_arg hx hb hX hbl hbA hI.2 hl dL_law_1069 dL_law_1070 dL_law_1071 dL_law_1072 dL_law_1073 (k := 1) rfl (by omega) hLn ?_
  refine z_arg hx hb hX hbl hbA hI.2 hl dL_law_1074 dL_law_1075 dL_law_1076 dL_law_1077 dL_law_1078 (k := 2) rfl (by omega) hLn ?_
  refine z_arg hx hb hX hbl hbA hI.2 hl dL_law_1079 dL_law_1080 dL_law_1081 dL_law_1082 dL_law_1083 (k := 3) rfl (by omega) hLn ?_
  refine lv_i2l hx hb dL_law_1084 rfl ?_
  refine lv_bipush (v := nI 32) hx hb dL_law_1085 (by decide) ?_
  refine lv_lshl hx hb dL_law_1087 rfl ?_
  refine z_arg hx hb hX hbl hbA hI.2 hl dL_law_1088 dL_law_1089 dL_law_1090 dL_law_1091 dL_law_1092 (k := 4) rfl (by omega) hLn ?_
  refine lv_i2l hx hb dL_law_1093 rfl ?_
  refine lv_ldc2 (v := 4294967295) hx hb hown wK142 dL_law_1094 ?_
  refine lv_land hx hb dL_law_1097 ?_
  refine lv_lor hx hb dL_law_1098 ?_
  refine z_calli (va_runV (As := [.int (xs (j + 1)), .int (xs (j + 2)), .long ((((xs (j + 3))).toInt64 <<< (((nI 32)).toInt64 &&& 63)) ||| (((xs (j + 4))).toInt64 &&& 4294967295))]) (rest := []) ⟨hx, hb, hml, hown, hts⟩ ((c_X11_item l hG x ((xs (j + 1))) ((xs (j + 2))) (((((xs (j + 3))).toInt64 <<< (((nI 32)).toInt64 &&& 63)) ||| (((xs (j + 4))).toInt64 &&& 4294967295))) HR.rt.1) A) (cwV 3 hts gL_law_X11_item rfl rfl rfl (by decide +kernel) ⟨(Nat.le_of_ble_eq_true rfl), (Nat.le_of_ble_eq_true rfl)⟩) (z_pV hI hK hN (z_recv hK hI (zo0 hG) rfl)) rfl rfl hl.1 rfl (lv_room (Nat.le_of_ble_eq_true rfl)) dL_law_1099 ⟨by omega, by omega⟩) hI (fun r1 u1 H locs hw hI => ?_)
  have K : zKs x u1 := ks_item HR hw
  refine lv_aload_n hx hb dL_law_1102 rfl (lv_at hl 1 rfl) ?_
  refine z_arg hx hb hX hbl hbA hI.2 hl dL_law_1103 dL_law_1104 dL_law_1105 dL_law_1106 dL_law_1107 (k := 1) rfl (by omega) hLn ?_
  refine z_arg hx hb hX hbl hbA hI.2 hl dL_law_1108 dL_law_1109 dL_law_1110 dL_law_1111 dL_law_1112 (k := 2) rfl (by omega) hLn ?_
  refine z_arg hx hb hX hbl hbA hI.2 hl dL_law_1113 dL_law_1114 dL_law_1115 dL_law_1116 dL_law_1117 (k := 3) rfl (by omega) hLn ?_
  refine lv_i2l hx hb dL_law_1118 rfl ?_
  refine lv_bipush (v := nI 32) hx hb dL_law_1119 (by decide) ?_
  refine lv_lshl hx hb dL_law_1121 rfl ?_
  refine z_arg hx hb hX hbl hbA hI.2 hl dL_law_1122 dL_law_1123 dL_law_1124 dL_law_1125 dL_law_1126 (k := 4) rfl (by omega) hLn ?_
  refine lv_i2l hx hb dL_law_1127 rfl ?_
  refine lv_ldc2 (v := 4294967295) hx hb hown wK142 dL_law_1128 ?_
  refine lv_land hx hb dL_law_1131 ?_
  refine lv_lor hx hb dL_law_1132 ?_
  refine z_calli (va_runV (As := [.int (xs (j + 1)), .int (xs (j + 2)), .long ((((xs (j + 3))).toInt64 <<< (((nI 32)).toInt64 &&& 63)) ||| (((xs (j + 4))).toInt64 &&& 4294967295))]) (rest := [.int r1]) ⟨hx, hb, hml, hown, hts⟩ ((c_X12_item l hG u1 ((xs (j + 1))) ((xs (j + 2))) (((((xs (j + 3))).toInt64 <<< (((nI 32)).toInt64 &&& 63)) ||| (((xs (j + 4))).toInt64 &&& 4294967295))) (K.tpr HR.rt.2.1)) A) (cwV 3 hts gL_law_X12_item rfl rfl rfl (by decide +kernel) ⟨(Nat.le_of_ble_eq_true rfl), (Nat.le_of_ble_eq_true rfl)⟩) (z_pV hI hK hN (z_recv hK hI (zo77 hG) rfl)) rfl rfl hl.1 rfl (lv_room (Nat.le_of_ble_eq_true rfl)) dL_law_1133 ⟨by omega, by omega⟩) hI (fun r2 u2 H locs hw2 hI => ?_)
  obtain ⟨he, N2, R2, L2, HR2⟩ := f_item HR hw hw2
  refine lv_icmp_eq (tgt := 1238) hx hb dL_law_1136 (by decide) (fun _ => ?_) (fun hne => absurd he hne)
  exact zmore (by omega) (by omega) (kk G u2 N2 R2 L2 H locs rfl rfl rfl rfl HR2 hI)
theorem z_pVN {s : State} {H : Heap} {locs : List Loc} {G : zG} {x : zX} {A : Nat → Prop} {C : String} {b : Addr} {As : List Value} (hI : zI G x A s.heap H locs) (hK : va_K G.1 vwCl (zT G) s) (hN : zN A s) (hA : ∀ q : Nat, s.heap.size ≤ q → A q) (hr : ∃ cell : Cell, H[b]? = some cell ∧ cell.vm.isStatics = false ∧ s.vm.findClass C = some cell.cls) : PreV s H C b (va_Pc (.ref b :: As) (zPreN G x A)) As := ⟨zPreN.blind, hr, fun U hU hW => ⟨rfl, zPreN.go hI hK hN hA hU hW⟩⟩
set_option maxHeartbeats 2000000 in
set_option maxRecDepth 100000 in
theorem kL_pupil {p : Program} {l : Launch} {e : Env} {s : State} {m : MethodId} {below : List Frame} {meth : Method} {c : Code} {H : Heap} {locs : List Loc} {cells slots : Nat} {Q : State → Prop} {A : Nat → Prop} {G : zG} {x : zX} {N R L b Ln j : Nat} {xs : Nat → Int32} {ls : Array Slot} (hx : p.tables.exec = Jvm.exec) (hb : c.code = cL_law) (hml : c.maxLocals = 4) (hown : s.vm.findClass RL = some m.cls) (hts : ∀ w ∈ wsL_law, w.before #[.ref b] s = true) (hX : va_X b Ln xs s s.heap) (hbl : b < s.heap.size) (hbA : ¬ A b) (hN : zN A s) (hAll : ∀ q : Nat, s.heap.size ≤ q → A q) (hK : va_K G.1 vwCl (zT G) s) (HR : zRl G x N R L) (hI : zI G x A s.heap H locs) (hcl : cells + 1 ≤ room_1.cells) (hsl : slots + 5 ≤ room_1.slots) (hj : j + 6 ≤ Ln) (hLn : Ln ≤ 3072) (hl : lv_has ls 4 [(3, .int (nI j)), (2, .ref (za G 77)), (1, .ref (za G 0)), (0, .ref b)])
    (kk : ∀ (G2 : zG) (x2 : zX) (N2 R2 L2 : Nat) (H2 : Heap) (locs2 : List Loc), G2.1 = G.1 → zT G2 = zT G → za G2 0 = za G 0 → za G2 77 = za G 77 → zRl G2 x2 N2 R2 L2 → zI G2 x2 A s.heap H2 locs2 → W p l e room_1 s m #[.ref b] below meth c H2 locs2 (cells + 1) (slots + 5) Q (F0 m 1238 ls [])) : W p l e room_1 s m #[.ref b] below meth c H locs cells slots Q (F0 m 180 ls []) := by
  have hG := HR.ok
  obtain ⟨t1, ht1⟩ : ∃ t1, N < 8 → t1 < 8 ∧ zfind (x.1 4) (-1) 0 8 = nI t1 ∧ x.1 4 t1 = -1 ∧ x.1 85 t1 = -1 ∧ ∀ s, s < t1 → ¬ x.1 85 s < 0 := by
    by_cases h : N < 8
    · obtain ⟨t, h9⟩ := HR.free h
      exact ⟨t, fun _ => h9⟩
    · exact ⟨0, fun h9 => absurd h9 h⟩
  refine lv_aload_n hx hb dL_law_180 rfl (lv_at hl 2 rfl) ?_
  refine z_arg hx hb hX hbl hbA hI.2 hl dL_law_181 dL_law_182 dL_law_183 dL_law_184 dL_law_185 (k := 1) rfl (by omega) hLn ?_
  refine z_arg hx hb hX hbl hbA hI.2 hl dL_law_186 dL_law_187 dL_law_188 dL_law_189 dL_law_190 (k := 2) rfl (by omega) hLn ?_
  refine z_arg hx hb hX hbl hbA hI.2 hl dL_law_191 dL_law_192 dL_law_193 dL_law_194 dL_law_195 (k := 3) rfl (by omega) hLn ?_
  refine z_arg hx hb hX hbl hbA hI.2 hl dL_law_196 dL_law_197 dL_law_198 dL_law_199 dL_law_200 (k := 4) rfl (by omega) hLn ?_
  refine z_arg hx hb hX hbl hbA hI.2 hl dL_law_201 dL_law_202 dL_law_203 dL_law_204 dL_law_205 (k := 5) rfl (by omega) hLn ?_
  refine z_callg (va_runV (As := [.int (xs (j + 1)), .int (xs (j + 2)), .int (xs (j + 3)), .int (xs (j + 4)), .int (xs (j + 5))]) (rest := []) ⟨hx, hb, hml, hown, hts⟩ ((c_X11_pupil l hG x N t1 ((xs (j + 1))) ((xs (j + 2))) ((xs (j + 3))) ((xs (j + 4))) ((xs (j + 5))) HR.pt.1 HR.sc.1 HR.pp.1 (fun h => ⟨(ht1 h).1, (ht1 h).2.1⟩)) A) (cwV 5 hts gL_law_X11_pupil rfl rfl rfl (by decide +kernel) ⟨(Nat.le_of_ble_eq_true rfl), (Nat.le_of_ble_eq_true rfl)⟩) (z_pVN hI hK hN hAll (z_recv hK hI (zo0 hG) rfl)) rfl rfl hl.1 rfl (lv_room (Nat.le_of_ble_eq_true rfl)) dL_law_206 ⟨hcl, hsl⟩) hI (fun r1 u H locs hw hI => ?_)
  obtain ⟨G1, u1⟩ := u
  obtain ⟨K, g1, g2, g3, g4, hG1⟩ := ks_pupil HR hw
  have hI : zI G1 u1 A s.heap H locs := hI
  have hK1 : va_K G1.1 vwCl (zT G1) s := by rw [g1, g2]; exact hK
  rw [← g3, ← g4] at hl
  refine lv_aload_n hx hb dL_law_209 rfl (lv_at hl 1 rfl) ?_
  refine z_arg hx hb hX hbl hbA hI.2 hl dL_law_210 dL_law_211 dL_law_212 dL_law_213 dL_law_214 (k := 1) rfl (by omega) hLn ?_
  refine z_arg hx hb hX hbl hbA hI.2 hl dL_law_215 dL_law_216 dL_law_217 dL_law_218 dL_law_219 (k := 2) rfl (by omega) hLn ?_
  refine z_arg hx hb hX hbl hbA hI.2 hl dL_law_220 dL_law_221 dL_law_222 dL_law_223 dL_law_224 (k := 3) rfl (by omega) hLn ?_
  refine z_arg hx hb hX hbl hbA hI.2 hl dL_law_225 dL_law_226 dL_law_227 dL_law_228 dL_law_229 (k := 4) rfl (by omega) hLn ?_
  refine z_arg hx hb hX hbl hbA hI.2 hl dL_law_230 dL_law_231 dL_law_232 dL_law_233 dL_law_234 (k := 5) rfl (by omega) hLn ?_
  refine z_calli (va_runV (As := [.int (xs (j + 1)), .int (xs (j + 2)), .int (xs (j + 3)), .int (xs (j + 4)), .int (xs (j + 5))]) (rest := [.int r1]) ⟨hx, hb, hml, hown, hts⟩ ((c_X12_pupil l hG1 u1 N t1 ((xs (j + 1))) ((xs (j + 2))) ((xs (j + 3))) ((xs (j + 4))) ((xs (j + 5))) HR.sc.1 (by rw [K.1 77 (by omega) (by omega)]; exact HR.pp.2.1) (fun h => by rw [K.1 85 (by omega) (by omega)]; exact ⟨(ht1 h).1, by rw [(ht1 h).2.2.2.1]; decide, (ht1 h).2.2.2.2⟩)) A) (cwV 5 hts gL_law_X12_pupil rfl rfl rfl (by decide +kernel) ⟨(Nat.le_of_ble_eq_true rfl), (Nat.le_of_ble_eq_true rfl)⟩) (z_pV hI hK1 hN (z_recv hK1 hI (zo77 hG1) rfl)) rfl rfl hl.1 rfl (lv_room (Nat.le_of_ble_eq_true rfl)) dL_law_235 ⟨hcl, hsl⟩) hI (fun r2 u2 H locs hw2 hI => ?_)
  obtain ⟨he, N2, R2, L2, HR2⟩ := e_pupil HR (fun h => ⟨(ht1 h).1, (ht1 h).2.1, (ht1 h).2.2.1⟩) hw hw2
  refine lv_icmp_eq (tgt := 1238) hx hb dL_law_238 (by decide) (fun _ => ?_) (fun hne => absurd he hne)
  exact kk G1 u2 N2 R2 L2 H locs g1 g2 g3 g4 HR2 hI
