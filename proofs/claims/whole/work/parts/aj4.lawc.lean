/-! THE LAW'S CALLS: a stretch -/
set_option maxHeartbeats 2000000 in
set_option maxRecDepth 100000 in
theorem kL_tape {p : Program} {l : Launch} {e : Env} {s : State} {m : MethodId} {below : List Frame} {meth : Method} {c : Code} {H : Heap} {locs : List Loc} {cells slots : Nat} {Q : State → Prop} {A : Nat → Prop} {G : zG} {x : zX} {N R L b Ln j : Nat} {xs : Nat → Int32} {ls : Array Slot} (hx : p.tables.exec = Jvm.exec) (hb : c.code = cL_law) (hml : c.maxLocals = 4) (hown : s.vm.findClass RL = some m.cls) (hts : ∀ w ∈ wsL_law, w.before #[.ref b] s = true) (hX : va_X b Ln xs s s.heap) (hbl : b < s.heap.size) (hbA : ¬ A b) (hN : zN A s) (hAll : ∀ q : Nat, s.heap.size ≤ q → A q) (hK : va_K G.1 vwCl (zT G) s) (HR : zRl G x N R L) (hI : zI G x A s.heap H locs) (hcl : cells + 1 ≤ room_1.cells) (hsl : slots + 5 ≤ room_1.slots) (hj : j + 6 ≤ Ln) (hLn : Ln ≤ 3072) (hl : lv_has ls 4 [(3, .int (nI j)), (2, .ref (za G 77)), (1, .ref (za G 0)), (0, .ref b)])
    (kk : ∀ (G2 : zG) (x2 : zX) (N2 R2 L2 : Nat) (H2 : Heap) (locs2 : List Loc), G2.1 = G.1 → zT G2 = zT G → za G2 0 = za G 0 → za G2 77 = za G 77 → zRl G2 x2 N2 R2 L2 → zI G2 x2 A s.heap H2 locs2 → W p l e room_1 s m #[.ref b] below meth c H2 locs2 (cells + 1) (slots + 5) Q (F0 m 1238 ls [])) : W p l e room_1 s m #[.ref b] below meth c H locs cells slots Q (F0 m 1025 ls []) := by
  have hG := HR.ok
  refine lv_aload_n hx hb dL_law_1025 rfl (lv_at hl 2 rfl) ?_
  refine z_arg hx hb hX hbl hbA hI.2 hl dL_law_1026 dL_law_1027 dL_law_1028 dL_law_1029 dL_law_1030 (k := 1) rfl (by omega) hLn ?_
  refine z_arg hx hb hX hbl hbA hI.2 hl dL_law_1031 dL_law_1032 dL_law_1033 dL_law_1034 dL_law_1035 (k := 2) rfl (by omega) hLn ?_
  refine z_arg hx hb hX hbl hbA hI.2 hl dL_law_1036 dL_law_1037 dL_law_1038 dL_law_1039 dL_law_1040 (k := 3) rfl (by omega) hLn ?_
  refine z_calli (va_runV (As := [.int (xs (j + 1)), .int (xs (j + 2)), .int (xs (j + 3))]) (rest := []) ⟨hx, hb, hml, hown, hts⟩ ((c_X11_tape l hG x ((xs (j + 1))) ((xs (j + 2))) ((xs (j + 3)))) A) (cwV 3 hts gL_law_X11_tape rfl rfl rfl (by decide +kernel) ⟨(Nat.le_of_ble_eq_true rfl), (Nat.le_of_ble_eq_true rfl)⟩) (z_pV hI hK hN (z_recv hK hI (zo0 hG) rfl)) rfl rfl hl.1 rfl (lv_room (Nat.le_of_ble_eq_true rfl)) dL_law_1041 ⟨by omega, by omega⟩) hI (fun r1 u1 H locs hw hI => ?_)
  have K : zKs x u1 := ks_tape HR hw
  refine lv_aload_n hx hb dL_law_1044 rfl (lv_at hl 1 rfl) ?_
  refine z_arg hx hb hX hbl hbA hI.2 hl dL_law_1045 dL_law_1046 dL_law_1047 dL_law_1048 dL_law_1049 (k := 1) rfl (by omega) hLn ?_
  refine z_arg hx hb hX hbl hbA hI.2 hl dL_law_1050 dL_law_1051 dL_law_1052 dL_law_1053 dL_law_1054 (k := 2) rfl (by omega) hLn ?_
  refine z_arg hx hb hX hbl hbA hI.2 hl dL_law_1055 dL_law_1056 dL_law_1057 dL_law_1058 dL_law_1059 (k := 3) rfl (by omega) hLn ?_
  refine z_calli (va_runV (As := [.int (xs (j + 1)), .int (xs (j + 2)), .int (xs (j + 3))]) (rest := [.int r1]) ⟨hx, hb, hml, hown, hts⟩ ((c_X12_tape l hG u1 ((xs (j + 1))) ((xs (j + 2))) ((xs (j + 3)))) A) (cwV 3 hts gL_law_X12_tape rfl rfl rfl (by decide +kernel) ⟨(Nat.le_of_ble_eq_true rfl), (Nat.le_of_ble_eq_true rfl)⟩) (z_pV hI hK hN (z_recv hK hI (zo77 hG) rfl)) rfl rfl hl.1 rfl (lv_room (Nat.le_of_ble_eq_true rfl)) dL_law_1060 ⟨by omega, by omega⟩) hI (fun r2 u2 H locs hw2 hI => ?_)
  obtain ⟨he, N2, R2, L2, HR2⟩ := f_tape HR hw hw2
  refine lv_icmp_eq (tgt := 1238) hx hb dL_law_1063 (by decide) (fun _ => ?_) (fun hne => absurd he hne)
  exact zmore (by omega) (by omega) (kk G u2 N2 R2 L2 H locs rfl rfl rfl rfl HR2 hI)
set_option maxHeartbeats 2000000 in
set_option maxRecDepth 100000 in
theorem kL_read {p : Program} {l : Launch} {e : Env} {s : State} {m : MethodId} {below : List Frame} {meth : Method} {c : Code} {H : Heap} {locs : List Loc} {cells slots : Nat} {Q : State → Prop} {A : Nat → Prop} {G : zG} {x : zX} {N R L b Ln j : Nat} {xs : Nat → Int32} {ls : Array Slot} (hx : p.tables.exec = Jvm.exec) (hb : c.code = cL_law) (hml : c.maxLocals = 4) (hown : s.vm.findClass RL = some m.cls) (hts : ∀ w ∈ wsL_law, w.before #[.ref b] s = true) (hX : va_X b Ln xs s s.heap) (hbl : b < s.heap.size) (hbA : ¬ A b) (hN : zN A s) (hAll : ∀ q : Nat, s.heap.size ≤ q → A q) (hK : va_K G.1 vwCl (zT G) s) (HR : zRl G x N R L) (hI : zI G x A s.heap H locs) (hcl : cells + 1 ≤ room_1.cells) (hsl : slots + 5 ≤ room_1.slots) (hj : j + 6 ≤ Ln) (hLn : Ln ≤ 3072) (hl : lv_has ls 4 [(3, .int (nI j)), (2, .ref (za G 77)), (1, .ref (za G 0)), (0, .ref b)])
    (kk : ∀ (G2 : zG) (x2 : zX) (N2 R2 L2 : Nat) (H2 : Heap) (locs2 : List Loc), G2.1 = G.1 → zT G2 = zT G → za G2 0 = za G 0 → za G2 77 = za G 77 → zRl G2 x2 N2 R2 L2 → zI G2 x2 A s.heap H2 locs2 → W p l e room_1 s m #[.ref b] below meth c H2 locs2 (cells + 1) (slots + 5) Q (F0 m 1238 ls [])) : W p l e room_1 s m #[.ref b] below meth c H locs cells slots Q (F0 m 1141 ls []) := by
  have hG := HR.ok
  refine lv_aload_n hx hb dL_law_1141 rfl (lv_at hl 2 rfl) ?_
  refine z_arg hx hb hX hbl hbA hI.2 hl dL_law_1142 dL_law_1143 dL_law_1144 dL_law_1145 dL_law_1146 (k := 1) rfl (by omega) hLn ?_
  refine z_arg hx hb hX hbl hbA hI.2 hl dL_law_1147 dL_law_1148 dL_law_1149 dL_law_1150 dL_law_1151 (k := 2) rfl (by omega) hLn ?_
  refine z_calll (va_runV (As := [.int (xs (j + 1)), .int (xs (j + 2))]) (rest := []) ⟨hx, hb, hml, hown, hts⟩ ((c_X11_read l hG x ((xs (j + 1))) ((xs (j + 2))) HR.rt.1) A) (cwV 2 hts gL_law_X11_read rfl rfl rfl (by decide +kernel) ⟨(Nat.le_of_ble_eq_true rfl), (Nat.le_of_ble_eq_true rfl)⟩) (z_pV hI hK hN (z_recv hK hI (zo0 hG) rfl)) rfl rfl hl.1 rfl (lv_room (Nat.le_of_ble_eq_true rfl)) dL_law_1152 ⟨by omega, by omega⟩) hI (fun r1 u1 H locs hw hI => ?_)
  have K : zKs x u1 := by rw [← hw.1]; exact zKs.rf
  refine lv_aload_n hx hb dL_law_1155 rfl (lv_at hl 1 rfl) ?_
  refine z_arg hx hb hX hbl hbA hI.2 hl dL_law_1156 dL_law_1157 dL_law_1158 dL_law_1159 dL_law_1160 (k := 1) rfl (by omega) hLn ?_
  refine z_arg hx hb hX hbl hbA hI.2 hl dL_law_1161 dL_law_1162 dL_law_1163 dL_law_1164 dL_law_1165 (k := 2) rfl (by omega) hLn ?_
  refine z_calll (va_runV (As := [.int (xs (j + 1)), .int (xs (j + 2))]) (rest := [.long r1]) ⟨hx, hb, hml, hown, hts⟩ ((c_X12_read l hG u1 ((xs (j + 1))) ((xs (j + 2))) (K.tpr HR.rt.2.1)) A) (cwV 2 hts gL_law_X12_read rfl rfl rfl (by decide +kernel) ⟨(Nat.le_of_ble_eq_true rfl), (Nat.le_of_ble_eq_true rfl)⟩) (z_pV hI hK hN (z_recv hK hI (zo77 hG) rfl)) rfl rfl hl.1 rfl (lv_room (Nat.le_of_ble_eq_true rfl)) dL_law_1166 ⟨by omega, by omega⟩) hI (fun r2 u2 H locs hw2 hI => ?_)
  obtain ⟨he, N2, R2, L2, HR2⟩ := f_read HR hw hw2
  refine W.lcmp hx hb dL_law_1169 ?_
  refine lv_if_eq (tgt := 1238) hx hb dL_law_1170 (by decide) (fun _ => ?_) (fun hne => absurd (zlcmp0.mpr he) hne)
  exact zmore (by omega) (by omega) (kk G u2 N2 R2 L2 H locs rfl rfl rfl rfl HR2 hI)
set_option maxHeartbeats 2000000 in
set_option maxRecDepth 100000 in
theorem kL_shift {p : Program} {l : Launch} {e : Env} {s : State} {m : MethodId} {below : List Frame} {meth : Method} {c : Code} {H : Heap} {locs : List Loc} {cells slots : Nat} {Q : State → Prop} {A : Nat → Prop} {G : zG} {x : zX} {N R L b Ln j : Nat} {xs : Nat → Int32} {ls : Array Slot} (hx : p.tables.exec = Jvm.exec) (hb : c.code = cL_law) (hml : c.maxLocals = 4) (hown : s.vm.findClass RL = some m.cls) (hts : ∀ w ∈ wsL_law, w.before #[.ref b] s = true) (hX : va_X b Ln xs s s.heap) (hbl : b < s.heap.size) (hbA : ¬ A b) (hN : zN A s) (hAll : ∀ q : Nat, s.heap.size ≤ q → A q) (hK : va_K G.1 vwCl (zT G) s) (HR : zRl G x N R L) (hI : zI G x A s.heap H locs) (hcl : cells + 1 ≤ room_1.cells) (hsl : slots + 5 ≤ room_1.slots) (hj : j + 6 ≤ Ln) (hLn : Ln ≤ 3072) (hl : lv_has ls 4 [(3, .int (nI j)), (2, .ref (za G 77)), (1, .ref (za G 0)), (0, .ref b)])
    (kk : ∀ (G2 : zG) (x2 : zX) (N2 R2 L2 : Nat) (H2 : Heap) (locs2 : List Loc), G2.1 = G.1 → zT G2 = zT G → za G2 0 = za G 0 → za G2 77 = za G 77 → zRl G2 x2 N2 R2 L2 → zI G2 x2 A s.heap H2 locs2 → W p l e room_1 s m #[.ref b] below meth c H2 locs2 (cells + 1) (slots + 5) Q (F0 m 1238 ls [])) : W p l e room_1 s m #[.ref b] below meth c H locs cells slots Q (F0 m 1175 ls []) := by
  have hG := HR.ok
  refine lv_aload_n hx hb dL_law_1175 rfl (lv_at hl 2 rfl) ?_
  refine z_arg hx hb hX hbl hbA hI.2 hl dL_law_1176 dL_law_1177 dL_law_1178 dL_law_1179 dL_law_1180 (k := 1) rfl (by omega) hLn ?_
  refine z_arg hx hb hX hbl hbA hI.2 hl dL_law_1181 dL_law_1182 dL_law_1183 dL_law_1184 dL_law_1185 (k := 2) rfl (by omega) hLn ?_
  refine z_arg hx hb hX hbl hbA hI.2 hl dL_law_1186 dL_law_1187 dL_law_1188 dL_law_1189 dL_law_1190 (k := 3) rfl (by omega) hLn ?_
  refine z_arg hx hb hX hbl hbA hI.2 hl dL_law_1191 dL_law_1192 dL_law_1193 dL_law_1194 dL_law_1195 (k := 4) rfl (by omega) hLn ?_
  refine z_arg hx hb hX hbl hbA hI.2 hl dL_law_1196 dL_law_1197 dL_law_1198 dL_law_1199 dL_law_1200 (k := 5) rfl (by omega) hLn ?_
  refine z_calli (va_runV (As := [.int (xs (j + 1)), .int (xs (j + 2)), .int (xs (j + 3)), .int (xs (j + 4)), .int (xs (j + 5))]) (rest := []) ⟨hx, hb, hml, hown, hts⟩ ((c_X11_shift l hG x ((xs (j + 1))) ((xs (j + 2))) ((xs (j + 3))) ((xs (j + 4))) ((xs (j + 5))) HR.rt.1) A) (cwV 5 hts gL_law_X11_shift rfl rfl rfl (by decide +kernel) ⟨(Nat.le_of_ble_eq_true rfl), (Nat.le_of_ble_eq_true rfl)⟩) (z_pV hI hK hN (z_recv hK hI (zo0 hG) rfl)) rfl rfl hl.1 rfl (lv_room (Nat.le_of_ble_eq_true rfl)) dL_law_1201 ⟨by omega, by omega⟩) hI (fun r1 u1 H locs hw hI => ?_)
  have K : zKs x u1 := ks_shift HR hw
  refine lv_aload_n hx hb dL_law_1204 rfl (lv_at hl 1 rfl) ?_
  refine z_arg hx hb hX hbl hbA hI.2 hl dL_law_1205 dL_law_1206 dL_law_1207 dL_law_1208 dL_law_1209 (k := 1) rfl (by omega) hLn ?_
  refine z_arg hx hb hX hbl hbA hI.2 hl dL_law_1210 dL_law_1211 dL_law_1212 dL_law_1213 dL_law_1214 (k := 2) rfl (by omega) hLn ?_
  refine z_arg hx hb hX hbl hbA hI.2 hl dL_law_1215 dL_law_1216 dL_law_1217 dL_law_1218 dL_law_1219 (k := 3) rfl (by omega) hLn ?_
  refine z_arg hx hb hX hbl hbA hI.2 hl dL_law_1220 dL_law_1221 dL_law_1222 dL_law_1223 dL_law_1224 (k := 4) rfl (by omega) hLn ?_
  refine z_arg hx hb hX hbl hbA hI.2 hl dL_law_1225 dL_law_1226 dL_law_1227 dL_law_1228 dL_law_1229 (k := 5) rfl (by omega) hLn ?_
  refine z_calli (va_runV (As := [.int (xs (j + 1)), .int (xs (j + 2)), .int (xs (j + 3)), .int (xs (j + 4)), .int (xs (j + 5))]) (rest := [.int r1]) ⟨hx, hb, hml, hown, hts⟩ ((c_X12_shift l hG u1 ((xs (j + 1))) ((xs (j + 2))) ((xs (j + 3))) ((xs (j + 4))) ((xs (j + 5))) (K.tpr HR.rt.2.1)) A) (cwV 5 hts gL_law_X12_shift rfl rfl rfl (by decide +kernel) ⟨(Nat.le_of_ble_eq_true rfl), (Nat.le_of_ble_eq_true rfl)⟩) (z_pV hI hK hN (z_recv hK hI (zo77 hG) rfl)) rfl rfl hl.1 rfl (lv_room (Nat.le_of_ble_eq_true rfl)) dL_law_1230 ⟨by omega, by omega⟩) hI (fun r2 u2 H locs hw2 hI => ?_)
  obtain ⟨he, N2, R2, L2, HR2⟩ := f_shift HR hw hw2
  refine lv_icmp_eq (tgt := 1238) hx hb dL_law_1233 (by decide) (fun _ => ?_) (fun hne => absurd he hne)
  exact zmore (by omega) (by omega) (kk G u2 N2 R2 L2 H locs rfl rfl rfl rfl HR2 hI)
