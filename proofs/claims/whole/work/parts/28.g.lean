set_option maxHeartbeats 4000000 in
set_option maxRecDepth 100000 in
theorem c_J6_bitCount_0f7a4 (l : Launch) {G : zG} (hG : zOK G) (x : zX) (v : Int32)  : zMi l yJ6_bitCount_0f7a4 wsJ6_bitCount_0f7a4 { frames := 0, cells := 0, slots := 0, locals := 0 } G [.int v] x (fun (r : Int32) (u : zX) => x = u ∧ zic v = r) := by
  intro A
  refine zBody (cc := cJ6_bitCount_0f7a4) (maxL := 1) (ret := (some .int)) (by decide) rfl (Nat.le_of_ble_eq_true rfl) ?_
  intro p e s m below meth c hx hb hml hown hts hr hlocks hK hN hI ls hl
  have hown : s.vm.findClass RJ6 = some m.cls := hown
  have hl : lv_has ls 1 [(0, .int v)] := hl
  have wK265 := hts (.constant RJ6 265 (1431655765)) (z_mem 1 rfl)
  have wK266 := hts (.constant RJ6 266 (858993459)) (z_mem 2 rfl)
  have wK267 := hts (.constant RJ6 267 (252645135)) (z_mem 3 rfl)
  refine lv_iload_n hx hb dJ6_bitCount_0f7a4_0 rfl (lv_at hl 0 rfl) ?_
  refine lv_iload_n hx hb dJ6_bitCount_0f7a4_1 rfl (lv_at hl 0 rfl) ?_
  refine lv_iconst (v := (nI 1)) hx hb dJ6_bitCount_0f7a4_2 rfl ?_
  refine lv_iushr (v := ((v.toUInt32 >>> ((nI 1).toUInt32 &&& Int32.toUInt32 31)).toInt32)) hx hb dJ6_bitCount_0f7a4_3 rfl ?_
  refine lv_ldcw (v := 1431655765) hx hb hown wK265 dJ6_bitCount_0f7a4_4 ?_
  refine lv_iand hx hb dJ6_bitCount_0f7a4_7 ?_
  refine lv_isub hx hb dJ6_bitCount_0f7a4_8 ?_
  rw [show (v - (((v.toUInt32 >>> ((nI 1).toUInt32 &&& Int32.toUInt32 31)).toInt32) &&& 1431655765)) = (zic1 v) from rfl]
  refine lv_istore_n (lv' := [(0, .int (zic1 v))]) hx hb dJ6_bitCount_0f7a4_9 rfl hl (by decide) rfl (fun ls hl => ?_)
  refine lv_iload_n hx hb dJ6_bitCount_0f7a4_10 rfl (lv_at hl 0 rfl) ?_
  refine lv_ldcw (v := 858993459) hx hb hown wK266 dJ6_bitCount_0f7a4_11 ?_
  refine lv_iand hx hb dJ6_bitCount_0f7a4_14 ?_
  refine lv_iload_n hx hb dJ6_bitCount_0f7a4_15 rfl (lv_at hl 0 rfl) ?_
  refine lv_iconst (v := (nI 2)) hx hb dJ6_bitCount_0f7a4_16 rfl ?_
  refine lv_iushr (v := (((zic1 v).toUInt32 >>> ((nI 2).toUInt32 &&& Int32.toUInt32 31)).toInt32)) hx hb dJ6_bitCount_0f7a4_17 rfl ?_
  refine lv_ldcw (v := 858993459) hx hb hown wK266 dJ6_bitCount_0f7a4_18 ?_
  refine lv_iand hx hb dJ6_bitCount_0f7a4_21 ?_
  refine lv_iadd hx hb dJ6_bitCount_0f7a4_22 ?_
  rw [show (((zic1 v) &&& 858993459) + ((((zic1 v).toUInt32 >>> ((nI 2).toUInt32 &&& Int32.toUInt32 31)).toInt32) &&& 858993459)) = (zic2 (zic1 v)) from rfl]
  refine lv_istore_n (lv' := [(0, .int (zic2 (zic1 v)))]) hx hb dJ6_bitCount_0f7a4_23 rfl hl (by decide) rfl (fun ls hl => ?_)
  refine lv_iload_n hx hb dJ6_bitCount_0f7a4_24 rfl (lv_at hl 0 rfl) ?_
  refine lv_iload_n hx hb dJ6_bitCount_0f7a4_25 rfl (lv_at hl 0 rfl) ?_
  refine lv_iconst (v := (nI 4)) hx hb dJ6_bitCount_0f7a4_26 rfl ?_
  refine lv_iushr (v := (((zic2 (zic1 v)).toUInt32 >>> ((nI 4).toUInt32 &&& Int32.toUInt32 31)).toInt32)) hx hb dJ6_bitCount_0f7a4_27 rfl ?_
  refine lv_iadd hx hb dJ6_bitCount_0f7a4_28 ?_
  refine lv_ldcw (v := 252645135) hx hb hown wK267 dJ6_bitCount_0f7a4_29 ?_
  refine lv_iand hx hb dJ6_bitCount_0f7a4_32 ?_
  rw [show (((zic2 (zic1 v)) + (((zic2 (zic1 v)).toUInt32 >>> ((nI 4).toUInt32 &&& Int32.toUInt32 31)).toInt32)) &&& 252645135) = (zic3 (zic2 (zic1 v))) from rfl]
  refine lv_istore_n (lv' := [(0, .int (zic3 (zic2 (zic1 v))))]) hx hb dJ6_bitCount_0f7a4_33 rfl hl (by decide) rfl (fun ls hl => ?_)
  refine lv_iload_n hx hb dJ6_bitCount_0f7a4_34 rfl (lv_at hl 0 rfl) ?_
  refine lv_iload_n hx hb dJ6_bitCount_0f7a4_35 rfl (lv_at hl 0 rfl) ?_
  refine lv_bipush (v := (nI 8)) hx hb dJ6_bitCount_0f7a4_36 rfl ?_
  refine lv_iushr (v := (((zic3 (zic2 (zic1 v))).toUInt32 >>> ((nI 8).toUInt32 &&& Int32.toUInt32 31)).toInt32)) hx hb dJ6_bitCount_0f7a4_38 rfl ?_
  refine lv_iadd hx hb dJ6_bitCount_0f7a4_39 ?_
  rw [show ((zic3 (zic2 (zic1 v))) + (((zic3 (zic2 (zic1 v))).toUInt32 >>> ((nI 8).toUInt32 &&& Int32.toUInt32 31)).toInt32)) = (zic4 (zic3 (zic2 (zic1 v)))) from rfl]
  refine lv_istore_n (lv' := [(0, .int (zic4 (zic3 (zic2 (zic1 v)))))]) hx hb dJ6_bitCount_0f7a4_40 rfl hl (by decide) rfl (fun ls hl => ?_)
  refine lv_iload_n hx hb dJ6_bitCount_0f7a4_41 rfl (lv_at hl 0 rfl) ?_
  refine lv_iload_n hx hb dJ6_bitCount_0f7a4_42 rfl (lv_at hl 0 rfl) ?_
  refine lv_bipush (v := (nI 16)) hx hb dJ6_bitCount_0f7a4_43 rfl ?_
  refine lv_iushr (v := (((zic4 (zic3 (zic2 (zic1 v)))).toUInt32 >>> ((nI 16).toUInt32 &&& Int32.toUInt32 31)).toInt32)) hx hb dJ6_bitCount_0f7a4_45 rfl ?_
  refine lv_iadd hx hb dJ6_bitCount_0f7a4_46 ?_
  rw [show ((zic4 (zic3 (zic2 (zic1 v)))) + (((zic4 (zic3 (zic2 (zic1 v)))).toUInt32 >>> ((nI 16).toUInt32 &&& Int32.toUInt32 31)).toInt32)) = (zic5 (zic4 (zic3 (zic2 (zic1 v))))) from rfl]
  refine lv_istore_n (lv' := [(0, .int (zic5 (zic4 (zic3 (zic2 (zic1 v))))))]) hx hb dJ6_bitCount_0f7a4_47 rfl hl (by decide) rfl (fun ls hl => ?_)
  refine lv_iload_n hx hb dJ6_bitCount_0f7a4_48 rfl (lv_at hl 0 rfl) ?_
  refine lv_bipush (v := (nI 63)) hx hb dJ6_bitCount_0f7a4_49 rfl ?_
  refine lv_iand hx hb dJ6_bitCount_0f7a4_51 ?_
  exact z_iret hx hb hr hlocks hI (⟨rfl, rfl⟩) dJ6_bitCount_0f7a4_52
set_option maxHeartbeats 4000000 in
set_option maxRecDepth 100000 in
theorem c_J13_bitCount_95d88 (l : Launch) {G : zG} (hG : zOK G) (x : zX) (v : Int64)  : zMi l yJ13_bitCount_95d88 wsJ13_bitCount_95d88 { frames := 0, cells := 0, slots := 0, locals := 0 } G [.long v] x (fun (r : Int32) (u : zX) => x = u ∧ zlc v = r) := by
  intro A
  refine zBody (cc := cJ13_bitCount_95d88) (maxL := 2) (ret := (some .int)) (by decide) rfl (Nat.le_of_ble_eq_true rfl) ?_
  intro p e s m below meth c hx hb hml hown hts hr hlocks hK hN hI ls hl
  have hown : s.vm.findClass RJ13 = some m.cls := hown
  have hl : lv_has ls 2 [(0, .long v)] := hl
  have wK314 := hts (.constantLong RJ13 314 (6148914691236517205)) (z_mem 1 rfl)
  have wK316 := hts (.constantLong RJ13 316 (3689348814741910323)) (z_mem 2 rfl)
  have wK318 := hts (.constantLong RJ13 318 (1085102592571150095)) (z_mem 3 rfl)
  refine lv_lload_n hx hb dJ13_bitCount_95d88_0 rfl (lv_at hl 0 rfl) ?_
  refine lv_lload_n hx hb dJ13_bitCount_95d88_1 rfl (lv_at hl 0 rfl) ?_
  refine lv_iconst (v := (nI 1)) hx hb dJ13_bitCount_95d88_2 rfl ?_
  refine lv_lushr (v := ((v.toUInt64 >>> ((nI 1).toInt64.toUInt64 &&& Int64.toUInt64 63)).toInt64)) hx hb dJ13_bitCount_95d88_3 rfl ?_
  refine lv_ldc2 (v := (6148914691236517205)) hx hb hown wK314 dJ13_bitCount_95d88_4 ?_
  refine lv_land hx hb dJ13_bitCount_95d88_7 ?_
  refine lv_lsub hx hb dJ13_bitCount_95d88_8 ?_
  rw [show (v - (((v.toUInt64 >>> ((nI 1).toInt64.toUInt64 &&& Int64.toUInt64 63)).toInt64) &&& (6148914691236517205))) = (zlc1 v) from rfl]
  refine lv_lstore_n (lv' := [(0, .long (zlc1 v))]) hx hb dJ13_bitCount_95d88_9 rfl hl (by decide) rfl (fun ls hl => ?_)
  refine lv_lload_n hx hb dJ13_bitCount_95d88_10 rfl (lv_at hl 0 rfl) ?_
  refine lv_ldc2 (v := (3689348814741910323)) hx hb hown wK316 dJ13_bitCount_95d88_11 ?_
  refine lv_land hx hb dJ13_bitCount_95d88_14 ?_
  refine lv_lload_n hx hb dJ13_bitCount_95d88_15 rfl (lv_at hl 0 rfl) ?_
  refine lv_iconst (v := (nI 2)) hx hb dJ13_bitCount_95d88_16 rfl ?_
  refine lv_lushr (v := (((zlc1 v).toUInt64 >>> ((nI 2).toInt64.toUInt64 &&& Int64.toUInt64 63)).toInt64)) hx hb dJ13_bitCount_95d88_17 rfl ?_
  refine lv_ldc2 (v := (3689348814741910323)) hx hb hown wK316 dJ13_bitCount_95d88_18 ?_
  refine lv_land hx hb dJ13_bitCount_95d88_21 ?_
  refine lv_ladd hx hb dJ13_bitCount_95d88_22 ?_
  rw [show (((zlc1 v) &&& (3689348814741910323)) + ((((zlc1 v).toUInt64 >>> ((nI 2).toInt64.toUInt64 &&& Int64.toUInt64 63)).toInt64) &&& (3689348814741910323))) = (zlc2 (zlc1 v)) from rfl]
  refine lv_lstore_n (lv' := [(0, .long (zlc2 (zlc1 v)))]) hx hb dJ13_bitCount_95d88_23 rfl hl (by decide) rfl (fun ls hl => ?_)
  refine lv_lload_n hx hb dJ13_bitCount_95d88_24 rfl (lv_at hl 0 rfl) ?_
  refine lv_lload_n hx hb dJ13_bitCount_95d88_25 rfl (lv_at hl 0 rfl) ?_
  refine lv_iconst (v := (nI 4)) hx hb dJ13_bitCount_95d88_26 rfl ?_
  refine lv_lushr (v := (((zlc2 (zlc1 v)).toUInt64 >>> ((nI 4).toInt64.toUInt64 &&& Int64.toUInt64 63)).toInt64)) hx hb dJ13_bitCount_95d88_27 rfl ?_
  refine lv_ladd hx hb dJ13_bitCount_95d88_28 ?_
  refine lv_ldc2 (v := (1085102592571150095)) hx hb hown wK318 dJ13_bitCount_95d88_29 ?_
  refine lv_land hx hb dJ13_bitCount_95d88_32 ?_
  rw [show (((zlc2 (zlc1 v)) + (((zlc2 (zlc1 v)).toUInt64 >>> ((nI 4).toInt64.toUInt64 &&& Int64.toUInt64 63)).toInt64)) &&& (1085102592571150095)) = (zlc3 (zlc2 (zlc1 v))) from rfl]
  refine lv_lstore_n (lv' := [(0, .long (zlc3 (zlc2 (zlc1 v))))]) hx hb dJ13_bitCount_95d88_33 rfl hl (by decide) rfl (fun ls hl => ?_)
  refine lv_lload_n hx hb dJ13_bitCount_95d88_34 rfl (lv_at hl 0 rfl) ?_
  refine lv_lload_n hx hb dJ13_bitCount_95d88_35 rfl (lv_at hl 0 rfl) ?_
  refine lv_bipush (v := (nI 8)) hx hb dJ13_bitCount_95d88_36 rfl ?_
  refine lv_lushr (v := (((zlc3 (zlc2 (zlc1 v))).toUInt64 >>> ((nI 8).toInt64.toUInt64 &&& Int64.toUInt64 63)).toInt64)) hx hb dJ13_bitCount_95d88_38 rfl ?_
  refine lv_ladd hx hb dJ13_bitCount_95d88_39 ?_
  rw [show ((zlc3 (zlc2 (zlc1 v))) + (((zlc3 (zlc2 (zlc1 v))).toUInt64 >>> ((nI 8).toInt64.toUInt64 &&& Int64.toUInt64 63)).toInt64)) = (zlc4 (zlc3 (zlc2 (zlc1 v)))) from rfl]
  refine lv_lstore_n (lv' := [(0, .long (zlc4 (zlc3 (zlc2 (zlc1 v)))))]) hx hb dJ13_bitCount_95d88_40 rfl hl (by decide) rfl (fun ls hl => ?_)
  refine lv_lload_n hx hb dJ13_bitCount_95d88_41 rfl (lv_at hl 0 rfl) ?_
  refine lv_lload_n hx hb dJ13_bitCount_95d88_42 rfl (lv_at hl 0 rfl) ?_
  refine lv_bipush (v := (nI 16)) hx hb dJ13_bitCount_95d88_43 rfl ?_
  refine lv_lushr (v := (((zlc4 (zlc3 (zlc2 (zlc1 v)))).toUInt64 >>> ((nI 16).toInt64.toUInt64 &&& Int64.toUInt64 63)).toInt64)) hx hb dJ13_bitCount_95d88_45 rfl ?_
  refine lv_ladd hx hb dJ13_bitCount_95d88_46 ?_
  rw [show ((zlc4 (zlc3 (zlc2 (zlc1 v)))) + (((zlc4 (zlc3 (zlc2 (zlc1 v)))).toUInt64 >>> ((nI 16).toInt64.toUInt64 &&& Int64.toUInt64 63)).toInt64)) = (zlc5 (zlc4 (zlc3 (zlc2 (zlc1 v))))) from rfl]
  refine lv_lstore_n (lv' := [(0, .long (zlc5 (zlc4 (zlc3 (zlc2 (zlc1 v))))))]) hx hb dJ13_bitCount_95d88_47 rfl hl (by decide) rfl (fun ls hl => ?_)
  refine lv_lload_n hx hb dJ13_bitCount_95d88_48 rfl (lv_at hl 0 rfl) ?_
  refine lv_lload_n hx hb dJ13_bitCount_95d88_49 rfl (lv_at hl 0 rfl) ?_
  refine lv_bipush (v := (nI 32)) hx hb dJ13_bitCount_95d88_50 rfl ?_
  refine lv_lushr (v := (((zlc5 (zlc4 (zlc3 (zlc2 (zlc1 v))))).toUInt64 >>> ((nI 32).toInt64.toUInt64 &&& Int64.toUInt64 63)).toInt64)) hx hb dJ13_bitCount_95d88_52 rfl ?_
  refine lv_ladd hx hb dJ13_bitCount_95d88_53 ?_
  rw [show ((zlc5 (zlc4 (zlc3 (zlc2 (zlc1 v))))) + (((zlc5 (zlc4 (zlc3 (zlc2 (zlc1 v))))).toUInt64 >>> ((nI 32).toInt64.toUInt64 &&& Int64.toUInt64 63)).toInt64)) = (zlc6 (zlc5 (zlc4 (zlc3 (zlc2 (zlc1 v)))))) from rfl]
  refine lv_lstore_n (lv' := [(0, .long (zlc6 (zlc5 (zlc4 (zlc3 (zlc2 (zlc1 v)))))))]) hx hb dJ13_bitCount_95d88_54 rfl hl (by decide) rfl (fun ls hl => ?_)
  refine lv_lload_n hx hb dJ13_bitCount_95d88_55 rfl (lv_at hl 0 rfl) ?_
  refine lv_l2i hx hb dJ13_bitCount_95d88_56 rfl ?_
  refine lv_bipush (v := (nI 127)) hx hb dJ13_bitCount_95d88_57 rfl ?_
  refine lv_iand hx hb dJ13_bitCount_95d88_59 ?_
  exact z_iret hx hb hr hlocks hI (⟨rfl, rfl⟩) dJ13_bitCount_95d88_60
set_option maxHeartbeats 4000000 in
set_option maxRecDepth 100000 in
theorem c_X11_isOfKind (l : Launch) {G : zG} (hG : zOK G) (x : zX) (o : Nat) (w : Int32) (hp1 : 112 ≤ o) (hp2 : o < zn G) : zMi l yX11_isOfKind wsX11_isOfKind { frames := 0, cells := 0, slots := 0, locals := 0 } G [.ref (za G o), .int w] x (fun (r : Int32) (u : zX) => x = u ∧ (if zkd (zk G o) w then nI 1 else nI 0) = r) := by
  intro A
  refine zBody (cc := cX11_isOfKind) (maxL := 2) (ret := (some .boolean)) (by decide) rfl (Nat.le_of_ble_eq_true rfl) ?_
  intro p e s m below meth c hx hb hml hown hts hr hlocks hK hN hI ls hl
  have hown : s.vm.findClass RX11 = some m.cls := hown
  have hl : lv_has ls 2 [(0, .ref (za G o)), (1, .int w)] := hl
  have wC317 := hts (.classLink RX11 317 "WhoSitsBy$Helping") (z_mem 1 rfl)
  have wC322 := hts (.classLink RX11 322 "WhoSitsBy$Talker") (z_mem 2 rfl)
  have wC325 := hts (.classLink RX11 325 "WhoSitsBy$Wished") (z_mem 3 rfl)
  have wC328 := hts (.classLink RX11 328 "WhoSitsBy$Left") (z_mem 4 rfl)
  have wC331 := hts (.classLink RX11 331 "WhoSitsBy$Carrier") (z_mem 5 rfl)
  have wC334 := hts (.classLink RX11 334 "WhoSitsBy$Hoped") (z_mem 6 rfl)
  refine lv_iload_n hx hb dX11_isOfKind_0 rfl (lv_at hl 1 rfl) ?_
  by_cases q1_0 : w = (nI 0)
  · skip
    refine lv_tableIn (off := 43) (tgt := 44) hx hb dX11_isOfKind_1 (by rw [q1_0]; decide) (by rw [q1_0]; decide) (by rw [q1_0]; rfl) (by decide) ?_
    refine lv_iconst (v := (nI 1)) hx hb dX11_isOfKind_44 rfl ?_
    exact z_zret hx hb hr hlocks hI (Or.inr rfl) (⟨rfl, if_pos (Or.inl q1_0)⟩) dX11_isOfKind_45
  by_cases q1_1 : w = (nI 1)
  · skip
    refine lv_tableIn (off := 45) (tgt := 46) hx hb dX11_isOfKind_1 (by rw [q1_1]; decide) (by rw [q1_1]; decide) (by rw [q1_1]; rfl) (by decide) ?_
    refine lv_aload_n hx hb dX11_isOfKind_46 rfl (lv_at hl 0 rfl) ?_
    refine z_inst1 hx hb hown wC317 hN hK hG hI hp1 hp2 dX11_isOfKind_47 ?_
    exact z_zret hx hb hr hlocks hI (zb01 inferInstance) (⟨rfl, zb_c (by rw [q1_1]; exact zkd_1)⟩) dX11_isOfKind_50
  by_cases q1_2 : w = (nI 2)
  · skip
    refine lv_tableIn (off := 50) (tgt := 51) hx hb dX11_isOfKind_1 (by rw [q1_2]; decide) (by rw [q1_2]; decide) (by rw [q1_2]; rfl) (by decide) ?_
    refine lv_aload_n hx hb dX11_isOfKind_51 rfl (lv_at hl 0 rfl) ?_
    refine z_inst8 hx hb hown wC322 hN hK hG hI hp1 hp2 dX11_isOfKind_52 ?_
    exact z_zret hx hb hr hlocks hI (zb01 inferInstance) (⟨rfl, zb_c (by rw [q1_2]; exact zkd_2)⟩) dX11_isOfKind_55
  by_cases q1_3 : w = (nI 3)
  · skip
    refine lv_tableIn (off := 55) (tgt := 56) hx hb dX11_isOfKind_1 (by rw [q1_3]; decide) (by rw [q1_3]; decide) (by rw [q1_3]; rfl) (by decide) ?_
    refine lv_aload_n hx hb dX11_isOfKind_56 rfl (lv_at hl 0 rfl) ?_
    refine z_inst10 hx hb hown wC325 hN hK hG hI hp1 hp2 dX11_isOfKind_57 ?_
    exact z_zret hx hb hr hlocks hI (zb01 inferInstance) (⟨rfl, zb_c (by rw [q1_3]; exact zkd_3)⟩) dX11_isOfKind_60
  by_cases q1_4 : w = (nI 4)
  · skip
    refine lv_tableIn (off := 60) (tgt := 61) hx hb dX11_isOfKind_1 (by rw [q1_4]; decide) (by rw [q1_4]; decide) (by rw [q1_4]; rfl) (by decide) ?_
    refine lv_aload_n hx hb dX11_isOfKind_61 rfl (lv_at hl 0 rfl) ?_
    refine z_inst3 hx hb hown wC328 hN hK hG hI hp1 hp2 dX11_isOfKind_62 ?_
    exact z_zret hx hb hr hlocks hI (zb01 inferInstance) (⟨rfl, zb_c (by rw [q1_4]; exact zkd_4)⟩) dX11_isOfKind_65
  by_cases q1_5 : w = (nI 5)
  · skip
    refine lv_tableIn (off := 65) (tgt := 66) hx hb dX11_isOfKind_1 (by rw [q1_5]; decide) (by rw [q1_5]; decide) (by rw [q1_5]; rfl) (by decide) ?_
    refine lv_aload_n hx hb dX11_isOfKind_66 rfl (lv_at hl 0 rfl) ?_
    refine z_inst0 hx hb hown wC331 hN hK hG hI hp1 hp2 dX11_isOfKind_67 ?_
    exact z_zret hx hb hr hlocks hI (zb01 inferInstance) (⟨rfl, zb_c (by rw [q1_5]; exact zkd_5)⟩) dX11_isOfKind_70
  by_cases q1_6 : w = (nI 6)
  · skip
    refine lv_tableIn (off := 70) (tgt := 71) hx hb dX11_isOfKind_1 (by rw [q1_6]; decide) (by rw [q1_6]; decide) (by rw [q1_6]; rfl) (by decide) ?_
    refine lv_aload_n hx hb dX11_isOfKind_71 rfl (lv_at hl 0 rfl) ?_
    refine z_inst2 hx hb hown wC334 hN hK hG hI hp1 hp2 dX11_isOfKind_72 ?_
    exact z_zret hx hb hr hlocks hI (zb01 inferInstance) (⟨rfl, zb_c (by rw [q1_6]; exact zkd_6)⟩) dX11_isOfKind_75
  refine lv_tableOut (tgt := 76) hx hb dX11_isOfKind_1 (by have := lv_neT (a := 0) q1_0 rfl; have := lv_neT (a := 1) q1_1 rfl; have := lv_neT (a := 2) q1_2 rfl; have := lv_neT (a := 3) q1_3 rfl; have := lv_neT (a := 4) q1_4 rfl; have := lv_neT (a := 5) q1_5 rfl; have := lv_neT (a := 6) q1_6 rfl; omega) (by decide) ?_
  refine lv_iconst (v := (nI 0)) hx hb dX11_isOfKind_76 rfl ?_
  exact z_zret hx hb hr hlocks hI (Or.inl rfl) (⟨rfl, if_neg (by rintro (h | h | h | h | h | h | h); exact q1_0 h; exact q1_1 h.1; exact q1_2 h.1; exact q1_3 h.1; exact q1_4 h.1; exact q1_5 h.1; exact q1_6 h.1)⟩) dX11_isOfKind_77
set_option maxHeartbeats 4000000 in
set_option maxRecDepth 100000 in
theorem c_X11_taken (l : Launch) {G : zG} (hG : zOK G) (x : zX) (N : Nat) (q w : Int32) (hn : zNow G x N) : zMi l yX11_taken wsX11_taken { frames := 1, cells := 0, slots := 0, locals := 21 } G [.ref (za G 0), .int q, .int w] x (fun (r : Int32) (u : zX) => x = u ∧ ((¬ (¬ w < 0 ∧ ¬ nI 6 < w) ∧ -2 = r) ∨ ((¬ w < 0 ∧ ¬ nI 6 < w) ∧ ¬ zin N q ∧ -11 = r) ∨ ((¬ w < 0 ∧ ¬ nI 6 < w) ∧ ∃ kb, kb < N ∧ q = nI kb ∧ (if zkd (zk G (zob x kb)) w then zkn (zk G (zob x kb)) else -12) = r))) := by
  intro A
  refine zBody (cc := cX11_taken) (maxL := 4) (ret := (some .int)) (by decide) rfl (Nat.le_of_ble_eq_true rfl) ?_
  intro p e s m below meth c hx hb hml hown hts hr hlocks hK hN hI ls hl
  have hown : s.vm.findClass RX11 = some m.cls := hown
  have hl : lv_has ls 4 [(0, .ref (za G 0)), (1, .int q), (2, .int w)] := hl
  have hin11 : ∀ w ∈ wsX110, w ∈ wsX11_taken := (fun _ h => List.mem_cons_of_mem _ (List.mem_append_left _ (List.mem_append_right _ (h))))
  have wF12 := hts (.fieldLink RX11 12 "WhoSitsBy" "now" "LWhoSitsBy$Standing;") (z_mem 1 rfl)
  have h8 := hn.1
  refine lv_iload_n hx hb dX11_taken_0 rfl (lv_at hl 2 rfl) ?_
  refine lv_if_lt (tgt := 10) hx hb dX11_taken_1 (by decide) (fun c_1 => ?_) (fun c_1 => ?_)
  · skip
    refine lv_bipush (v := (-2)) hx hb dX11_taken_10 rfl ?_
    exact z_iret hx hb hr hlocks hI (⟨rfl, Or.inl ⟨fun h => h.1 c_1, rfl⟩⟩) dX11_taken_12
  · skip
    refine lv_iload_n hx hb dX11_taken_4 rfl (lv_at hl 2 rfl) ?_
    refine lv_bipush (v := (nI 6)) hx hb dX11_taken_5 rfl ?_
    refine lv_icmp_le (tgt := 13) hx hb dX11_taken_7 (by decide) (fun c_7 => ?_) (fun c_7 => ?_)
    · skip
      refine lv_aload_n hx hb dX11_taken_13 rfl (lv_at hl 0 rfl) ?_
      refine z_get (C := RX11) (T := TX11) (N := 14) (ci := 11) (v := .ref (za G 1)) hx hb hts hin11 hown hK hI (zo0 hG) rfl 0 (by decide) wF12 (fun _ h9 => h9) rfl dX11_taken_14 ?_
      refine lv_iload_n hx hb dX11_taken_17 rfl (lv_at hl 1 rfl) ?_
      refine z_callq (va_runV (As := [.int q]) (rest := []) ⟨hx, hb, hml, hown, hts⟩ ((c_X7_at l hG x N q hn) A) (cwV 1 hts gX11_taken_X7_at rfl rfl rfl (by decide +kernel) ⟨Nat.le_of_ble_eq_true rfl, Nat.le_of_ble_eq_true rfl⟩) (z_pV hI hK hN (z_recv hK hI (zo1 hG) rfl)) rfl rfl hl.1 rfl (lv_room (Nat.le_of_ble_eq_true rfl)) dX11_taken_18 ⟨Nat.zero_le _, Nat.zero_le _⟩) hI (fun r_18 u H locs hw hI => ?_)
      obtain ⟨rfl, rfl⟩ := hw
      rcases hq_18 : (zat x N q) with _ | o_18
      · skip
        have hno : ¬ zin N q := fun h => by rcases zat_no hn hq_18 with h1 | h1; exact h.1 h1; exact h.2 h1
        refine lv_astore_nN (lv' := [(3, .null), (0, .ref (za G 0)), (1, .int q), (2, .int w)]) hx hb dX11_taken_21 rfl hl (by decide) rfl (fun ls hl => ?_)
        refine lv_aload_nN hx hb dX11_taken_22 rfl (lv_at hl 0 rfl) ?_
        refine lv_ifnonnullN hx hb dX11_taken_23 ?_
        refine lv_bipush (v := (-11)) hx hb dX11_taken_26 rfl ?_
        exact z_iret hx hb hr hlocks hI (⟨rfl, Or.inr (Or.inl ⟨⟨c_1, z_nle c_7⟩, hno, rfl⟩)⟩) dX11_taken_28
      · skip
        obtain ⟨k, hk, rfl, rfl⟩ := zat_of hn hq_18
        refine lv_astore_n (lv' := [(3, .ref (za G (zob x k))), (0, .ref (za G 0)), (1, .int (nI k)), (2, .int w)]) hx hb dX11_taken_21 rfl hl (by decide) rfl (fun ls hl => ?_)
        refine lv_aload_n hx hb dX11_taken_22 rfl (lv_at hl 0 rfl) ?_
        refine lv_ifnonnull (tgt := 29) hx hb dX11_taken_23 (by decide) ?_
        refine lv_aload_n hx hb dX11_taken_29 rfl (lv_at hl 0 rfl) ?_
        refine lv_iload_n hx hb dX11_taken_30 rfl (lv_at hl 3 rfl) ?_
        refine z_calli (va_runS (As := [.ref (za G (zob x k)), .int w]) (rest := []) ⟨hx, hb, hml, hown, hts⟩ ((c_X11_isOfKind l hG x (zob x k) w (hn.2.2.1 k (by omega)).2.1 (hn.2.2.1 k (by omega)).2.2.1) A) (va_cwS 2 hts gX11_taken_X11_isOfKind rfl rfl rfl (by decide +kernel) ⟨Nat.le_of_ble_eq_true rfl, Nat.le_of_ble_eq_true rfl⟩) (z_pS hI hK hN) rfl rfl hl.1 rfl (lv_room (Nat.le_of_ble_eq_true rfl)) dX11_taken_31 ⟨Nat.zero_le _, Nat.zero_le _⟩) hI (fun r_31 u H locs hw hI => ?_)
        obtain ⟨rfl, rfl⟩ := hw
        refine lv_if_eq (tgt := 44) hx hb dX11_taken_34 (by decide) (fun c_34 => ?_) (fun c_34 => ?_)
        · skip
          rw [zb_0] at c_34
          refine lv_bipush (v := (-12)) hx hb dX11_taken_44 rfl ?_
          exact z_iret hx hb hr hlocks hI (⟨rfl, Or.inr (Or.inr ⟨⟨c_1, z_nle c_7⟩, k, hk, rfl, if_neg c_34⟩)⟩) dX11_taken_46
        · skip
          rw [zb_0, Classical.not_not] at c_34
          refine lv_aload_n hx hb dX11_taken_37 rfl (lv_at hl 0 rfl) ?_
          have hrun : va_Run p l e { frames := 1, cells := 0, slots := 0, locals := 21 } s m ([.ref (za G 0), .int (nI k), .int w] : List Value).toArray below meth c H locs 0 0 0 0 (F0 m 38 ls [.ref (za G (zob x k))]) [] (va_Qi (fun (r : Int32) (u : zX) => x = u ∧ zkn (zk G (zob x k)) = r) (fun u t => zJ G u A t.heap) A (Value.ref (za G (zob x k)) :: []).toArray) A := by
            have ho := zop (G := G) (hn.2.2.1 k (by omega)).2.1 (hn.2.2.1 k (by omega)).2.2.1
            rcases hG.2 (zob x k) (hn.2.2.1 k (by omega)).2.1 (hn.2.2.1 k (by omega)).2.2.1 with h | h | h | h | h | h | h <;> rw [h] at ho
            · rw [h]
              exact va_runU (As := []) (rest := []) ⟨hx, hb, hml, hown, hts⟩ ((c_X0_kind l hG x (zob x k) (hn.2.2.1 k (by omega)).2.1 (hn.2.2.1 k (by omega)).2.2.1) A) (va_cwO 0 hts gX11_taken_X0_kind_u86X0 rfl rfl rfl (z_mem 26 rfl) (by decide +kernel) ⟨Nat.le_of_ble_eq_true rfl, Nat.le_of_ble_eq_true rfl⟩) (z_pV hI hK hN (z_recv hK hI ho rfl)) rfl rfl hl.1 rfl (lv_room (Nat.le_of_ble_eq_true rfl)) dX11_taken_38 ⟨Nat.zero_le _, Nat.zero_le _⟩
            · rw [h]
              exact va_runU (As := []) (rest := []) ⟨hx, hb, hml, hown, hts⟩ ((c_X1_kind l hG x (zob x k) (hn.2.2.1 k (by omega)).2.1 (hn.2.2.1 k (by omega)).2.2.1) A) (va_cwO 0 hts gX11_taken_X1_kind_u86X1 rfl rfl rfl (z_mem 26 rfl) (by decide +kernel) ⟨Nat.le_of_ble_eq_true rfl, Nat.le_of_ble_eq_true rfl⟩) (z_pV hI hK hN (z_recv hK hI ho rfl)) rfl rfl hl.1 rfl (lv_room (Nat.le_of_ble_eq_true rfl)) dX11_taken_38 ⟨Nat.zero_le _, Nat.zero_le _⟩
            · rw [h]
              exact va_runU (As := []) (rest := []) ⟨hx, hb, hml, hown, hts⟩ ((c_X2_kind l hG x (zob x k) (hn.2.2.1 k (by omega)).2.1 (hn.2.2.1 k (by omega)).2.2.1) A) (va_cwO 0 hts gX11_taken_X2_kind_u86X2 rfl rfl rfl (z_mem 26 rfl) (by decide +kernel) ⟨Nat.le_of_ble_eq_true rfl, Nat.le_of_ble_eq_true rfl⟩) (z_pV hI hK hN (z_recv hK hI ho rfl)) rfl rfl hl.1 rfl (lv_room (Nat.le_of_ble_eq_true rfl)) dX11_taken_38 ⟨Nat.zero_le _, Nat.zero_le _⟩
            · rw [h]
              exact va_runU (As := []) (rest := []) ⟨hx, hb, hml, hown, hts⟩ ((c_X3_kind l hG x (zob x k) (hn.2.2.1 k (by omega)).2.1 (hn.2.2.1 k (by omega)).2.2.1) A) (va_cwO 0 hts gX11_taken_X3_kind_u86X3 rfl rfl rfl (z_mem 26 rfl) (by decide +kernel) ⟨Nat.le_of_ble_eq_true rfl, Nat.le_of_ble_eq_true rfl⟩) (z_pV hI hK hN (z_recv hK hI ho rfl)) rfl rfl hl.1 rfl (lv_room (Nat.le_of_ble_eq_true rfl)) dX11_taken_38 ⟨Nat.zero_le _, Nat.zero_le _⟩
            · rw [h]
              exact va_runV (As := []) (rest := []) ⟨hx, hb, hml, hown, hts⟩ ((c_X4_kind l hG x (zob x k) (hn.2.2.1 k (by omega)).2.1 (hn.2.2.1 k (by omega)).2.2.1) A) (cwV 0 hts gX11_taken_X4_kind rfl rfl rfl (by decide +kernel) ⟨Nat.le_of_ble_eq_true rfl, Nat.le_of_ble_eq_true rfl⟩) (z_pV hI hK hN (z_recv hK hI ho rfl)) rfl rfl hl.1 rfl (lv_room (Nat.le_of_ble_eq_true rfl)) dX11_taken_38 ⟨Nat.zero_le _, Nat.zero_le _⟩
            · rw [h]
              exact va_runU (As := []) (rest := []) ⟨hx, hb, hml, hown, hts⟩ ((c_X8_kind l hG x (zob x k) (hn.2.2.1 k (by omega)).2.1 (hn.2.2.1 k (by omega)).2.2.1) A) (va_cwO 0 hts gX11_taken_X8_kind_u86X8 rfl rfl rfl (z_mem 26 rfl) (by decide +kernel) ⟨Nat.le_of_ble_eq_true rfl, Nat.le_of_ble_eq_true rfl⟩) (z_pV hI hK hN (z_recv hK hI ho rfl)) rfl rfl hl.1 rfl (lv_room (Nat.le_of_ble_eq_true rfl)) dX11_taken_38 ⟨Nat.zero_le _, Nat.zero_le _⟩
            · rw [h]
              exact va_runU (As := []) (rest := []) ⟨hx, hb, hml, hown, hts⟩ ((c_X10_kind l hG x (zob x k) (hn.2.2.1 k (by omega)).2.1 (hn.2.2.1 k (by omega)).2.2.1) A) (va_cwO 0 hts gX11_taken_X10_kind_u86X10 rfl rfl rfl (z_mem 26 rfl) (by decide +kernel) ⟨Nat.le_of_ble_eq_true rfl, Nat.le_of_ble_eq_true rfl⟩) (z_pV hI hK hN (z_recv hK hI ho rfl)) rfl rfl hl.1 rfl (lv_room (Nat.le_of_ble_eq_true rfl)) dX11_taken_38 ⟨Nat.zero_le _, Nat.zero_le _⟩
          refine z_calli hrun hI (fun r_38 u H locs hw hI => ?_)
          obtain ⟨rfl, rfl⟩ := hw
          refine lv_goto (tgt := 46) hx hb dX11_taken_41 (by decide) ?_
          exact z_iret hx hb hr hlocks hI (⟨rfl, Or.inr (Or.inr ⟨⟨c_1, z_nle c_7⟩, k, hk, rfl, if_pos c_34⟩)⟩) dX11_taken_46
    · skip
      refine lv_bipush (v := (-2)) hx hb dX11_taken_10 rfl ?_
      exact z_iret hx hb hr hlocks hI (⟨rfl, Or.inl ⟨fun h => h.2 (z_le c_7), rfl⟩⟩) dX11_taken_12
set_option maxHeartbeats 4000000 in
set_option maxRecDepth 100000 in
theorem c_X9_body (l : Launch) {G : zG} (hG : zOK G) (x : zX) (q : Int32)  : zMi l yX9_body wsX9_body { frames := 0, cells := 0, slots := 0, locals := 0 } G [.ref (za G 17), .int q] x (fun (r : Int32) (u : zX) => x = u ∧ ((¬ (zin 20 q ∧ ¬ x.1 17 1 ≤ q) ∧ -1 = r) ∨ (∃ kb, kb < 20 ∧ q = nI kb ∧ ¬ x.1 17 1 ≤ q ∧ x.1 18 kb = r))) := by
  intro A
  refine zBody (cc := cX9_body) (maxL := 2) (ret := (some .int)) (by decide) rfl (Nat.le_of_ble_eq_true rfl) ?_
  intro p e s m below meth c hx hb hml hown hts hr hlocks hK hN hI ls hl
  have hown : s.vm.findClass RX9 = some m.cls := hown
  have hl : lv_has ls 2 [(0, .ref (za G 17)), (1, .int q)] := hl
  have hin9 : ∀ w ∈ wsX90, w ∈ wsX9_body := (fun _ h => List.mem_cons_of_mem _ (List.mem_append_right _ (h)))
  have wF15 := hts (.fieldLink RX9 15 "WhoSitsBy$Trace" "ran" "I") (z_mem 1 rfl)
  have wF9 := hts (.fieldLink RX9 9 "WhoSitsBy$Trace" "bodies" "[I") (z_mem 2 rfl)
  refine lv_iload_n hx hb dX9_body_0 rfl (lv_at hl 1 rfl) ?_
  refine lv_if_lt (tgt := 30) hx hb dX9_body_1 (by decide) (fun c_1 => ?_) (fun c_1 => ?_)
  · skip
    refine lv_iconst (v := (-1)) hx hb dX9_body_30 rfl ?_
    exact z_iret hx hb hr hlocks hI (⟨rfl, Or.inl ⟨fun h => h.1.1 c_1, rfl⟩⟩) dX9_body_31
  · skip
    refine lv_iload_n hx hb dX9_body_4 rfl (lv_at hl 1 rfl) ?_
    refine lv_aload_n hx hb dX9_body_5 rfl (lv_at hl 0 rfl) ?_
    refine z_get (C := RX9) (T := TX9) (N := 2) (ci := 9) (v := .int (x.1 17 1)) hx hb hts hin9 hown hK hI (zo17 hG) rfl 1 (by decide) wF15 (fun _ h9 => h9) rfl dX9_body_6 ?_
    refine lv_icmp_ge (tgt := 30) hx hb dX9_body_9 (by decide) (fun c_9 => ?_) (fun c_9 => ?_)
    · skip
      refine lv_iconst (v := (-1)) hx hb dX9_body_30 rfl ?_
      exact z_iret hx hb hr hlocks hI (⟨rfl, Or.inl ⟨fun h => h.2 c_9, rfl⟩⟩) dX9_body_31
    · skip
      refine lv_iload_n hx hb dX9_body_12 rfl (lv_at hl 1 rfl) ?_
      refine lv_aload_n hx hb dX9_body_13 rfl (lv_at hl 0 rfl) ?_
      refine z_get (C := RX9) (T := TX9) (N := 2) (ci := 9) (v := .ref (za G 18)) hx hb hts hin9 hown hK hI (zo17 hG) rfl 0 (by decide) wF9 (fun _ h9 => h9) rfl dX9_body_14 ?_
      refine z_alen (v := nI 20) hx hb hK hI 0 (zo18 hG).1 ((zo18 hG).2 _) rfl rfl dX9_body_17 ?_
      refine lv_icmp_ge (tgt := 30) hx hb dX9_body_18 (by decide) (fun c_18 => ?_) (fun c_18 => ?_)
      · skip
        refine lv_iconst (v := (-1)) hx hb dX9_body_30 rfl ?_
        exact z_iret hx hb hr hlocks hI (⟨rfl, Or.inl ⟨fun h => h.1.2 c_18, rfl⟩⟩) dX9_body_31
      · skip
        obtain ⟨k, hk, rfl⟩ := z_ix c_1 c_18 (by decide)
        refine lv_aload_n hx hb dX9_body_21 rfl (lv_at hl 0 rfl) ?_
        refine z_get (C := RX9) (T := TX9) (N := 2) (ci := 9) (v := .ref (za G 18)) hx hb hts hin9 hown hK hI (zo17 hG) rfl 0 (by decide) wF9 (fun _ h9 => h9) rfl dX9_body_22 ?_
        refine lv_iload_n hx hb dX9_body_25 rfl (lv_at hl 1 rfl) ?_
        refine z_iald (v := (x.1 18 k)) hx hb hK hI (zo18 hG) k rfl (by omega) (by decide) rfl dX9_body_26 ?_
        refine lv_goto (tgt := 31) hx hb dX9_body_27 (by decide) ?_
        exact z_iret hx hb hr hlocks hI (⟨rfl, Or.inr ⟨k, hk, rfl, c_9, rfl⟩⟩) dX9_body_31
set_option maxHeartbeats 4000000 in
set_option maxRecDepth 100000 in
theorem c_X11_trace (l : Launch) {G : zG} (hG : zOK G) (x : zX) (q : Int32)  : zMi l yX11_trace wsX11_trace { frames := 1, cells := 0, slots := 0, locals := 21 } G [.ref (za G 0), .int q] x (fun (r : Int32) (u : zX) => x = u ∧ ((¬ (zin 20 q ∧ ¬ x.1 17 1 ≤ q) ∧ -1 = r) ∨ (∃ kb, kb < 20 ∧ q = nI kb ∧ ¬ x.1 17 1 ≤ q ∧ x.1 18 kb = r))) := by
  intro A
  refine zBody (cc := cX11_trace) (maxL := 2) (ret := (some .int)) (by decide) rfl (Nat.le_of_ble_eq_true rfl) ?_
  intro p e s m below meth c hx hb hml hown hts hr hlocks hK hN hI ls hl
  have hown : s.vm.findClass RX11 = some m.cls := hown
  have hl : lv_has ls 2 [(0, .ref (za G 0)), (1, .int q)] := hl
  have hin11 : ∀ w ∈ wsX110, w ∈ wsX11_trace := (fun _ h => List.mem_cons_of_mem _ (List.mem_append_left _ (List.mem_append_right _ (h))))
  have wF46 := hts (.fieldLink RX11 46 "WhoSitsBy" "traced" "LWhoSitsBy$Trace;") (z_mem 1 rfl)
  refine lv_aload_n hx hb dX11_trace_0 rfl (lv_at hl 0 rfl) ?_
  refine z_get (C := RX11) (T := TX11) (N := 14) (ci := 11) (v := .ref (za G 17)) hx hb hts hin11 hown hK hI (zo0 hG) rfl 10 (by decide) wF46 (fun _ h9 => h9) rfl dX11_trace_1 ?_
  refine lv_iload_n hx hb dX11_trace_4 rfl (lv_at hl 1 rfl) ?_
  refine z_calli (va_runV (As := [.int q]) (rest := []) ⟨hx, hb, hml, hown, hts⟩ ((c_X9_body l hG x q) A) (cwV 1 hts gX11_trace_X9_body rfl rfl rfl (by decide +kernel) ⟨Nat.le_of_ble_eq_true rfl, Nat.le_of_ble_eq_true rfl⟩) (z_pV hI hK hN (z_recv hK hI (zo17 hG) rfl)) rfl rfl hl.1 rfl (lv_room (Nat.le_of_ble_eq_true rfl)) dX11_trace_5 ⟨Nat.zero_le _, Nat.zero_le _⟩) hI (fun r_5 u H locs hw hI => ?_)
  obtain ⟨rfl, hw⟩ := hw
  exact z_iret hx hb hr hlocks hI (⟨rfl, hw⟩) dX11_trace_8
set_option maxHeartbeats 4000000 in
set_option maxRecDepth 100000 in
theorem c_X12_trace (l : Launch) {G : zG} (hG : zOK G) (x : zX) (q : Int32)  : zMi l yX12_trace wsX12_trace { frames := 1, cells := 0, slots := 0, locals := 23 } G [.ref (za G 77), .int q] x (fun (r : Int32) (u : zX) => x = u ∧ ((¬ (zin 20 q ∧ q < x.1 77 45) ∧ -1 = r) ∨ (∃ kb, kb < 20 ∧ q = nI kb ∧ q < x.1 77 45 ∧ x.1 107 kb = r))) := by
  intro A
  refine zBody (cc := cX12_trace) (maxL := 2) (ret := (some .int)) (by decide) rfl (Nat.le_of_ble_eq_true rfl) ?_
  intro p e s m below meth c hx hb hml hown hts hr hlocks hK hN hI ls hl
  have hown : s.vm.findClass RX12 = some m.cls := hown
  have hl : lv_has ls 2 [(0, .ref (za G 77)), (1, .int q)] := hl
  have hin12 : ∀ w ∈ wsX120, w ∈ wsX12_trace := (fun _ h => List.mem_cons_of_mem _ (List.mem_append_right _ (h)))
  have wF148 := hts (.fieldLink RX12 148 "WhoSitsByModel" "ran" "I") (z_mem 1 rfl)
  have wF151 := hts (.fieldLink RX12 151 "WhoSitsByModel" "bodies" "[I") (z_mem 2 rfl)
  refine lv_aload_n hx hb dX12_trace_0 rfl (lv_at hl 0 rfl) ?_
  refine lv_iload_n hx hb dX12_trace_1 rfl (lv_at hl 1 rfl) ?_
  refine lv_iconst (v := (nI 0)) hx hb dX12_trace_2 rfl ?_
  refine lv_bipush (v := (nI 19)) hx hb dX12_trace_3 rfl ?_
  refine z_calli (va_runV (As := [.int q, .int (nI 0), .int (nI 19)]) (rest := []) ⟨hx, hb, hml, hown, hts⟩ ((c_X12_in l hG x q (nI 0) (nI 19)) A) (cwV 3 hts gX12_trace_X12_in rfl rfl rfl (by decide +kernel) ⟨Nat.le_of_ble_eq_true rfl, Nat.le_of_ble_eq_true rfl⟩) (z_pV hI hK hN (z_recv hK hI (zo77 hG) rfl)) rfl rfl hl.1 rfl (lv_room (Nat.le_of_ble_eq_true rfl)) dX12_trace_5 ⟨Nat.zero_le _, Nat.zero_le _⟩) hI (fun r_5 u H locs hw hI => ?_)
  obtain ⟨rfl, rfl⟩ := hw
  refine lv_if_eq (tgt := 28) hx hb dX12_trace_8 (by decide) (fun c_8 => ?_) (fun c_8 => ?_)
  · skip
    rw [zb_0] at c_8; rw [show (¬ q < nI 0 ∧ ¬ nI 19 < q) ↔ zin 20 q from (zin_i9).symm] at c_8
    refine lv_iconst (v := (-1)) hx hb dX12_trace_28 rfl ?_
    exact z_iret hx hb hr hlocks hI (⟨rfl, Or.inl ⟨fun h => c_8 h.1, rfl⟩⟩) dX12_trace_29
  · skip
    rw [zb_0, Classical.not_not] at c_8; rw [show (¬ q < nI 0 ∧ ¬ nI 19 < q) ↔ zin 20 q from (zin_i9).symm] at c_8
    refine lv_iload_n hx hb dX12_trace_11 rfl (lv_at hl 1 rfl) ?_
    refine lv_aload_n hx hb dX12_trace_12 rfl (lv_at hl 0 rfl) ?_
    refine z_get (C := RX12) (T := TX12) (N := 51) (ci := 12) (v := .int (x.1 77 45)) hx hb hts hin12 hown hK hI (zo77 hG) rfl 45 (by decide) wF148 (fun _ h9 => h9) rfl dX12_trace_13 ?_
    refine lv_icmp_ge (tgt := 28) hx hb dX12_trace_16 (by decide) (fun c_16 => ?_) (fun c_16 => ?_)
    · skip
      refine lv_iconst (v := (-1)) hx hb dX12_trace_28 rfl ?_
      exact z_iret hx hb hr hlocks hI (⟨rfl, Or.inl ⟨fun h => z_nle c_16 h.2, rfl⟩⟩) dX12_trace_29
    · skip
      obtain ⟨k, hk, rfl⟩ := z_ix c_8.1 c_8.2 (by decide)
      refine lv_aload_n hx hb dX12_trace_19 rfl (lv_at hl 0 rfl) ?_
      refine z_get (C := RX12) (T := TX12) (N := 51) (ci := 12) (v := .ref (za G 107)) hx hb hts hin12 hown hK hI (zo77 hG) rfl 46 (by decide) wF151 (fun _ h9 => h9) rfl dX12_trace_20 ?_
      refine lv_iload_n hx hb dX12_trace_23 rfl (lv_at hl 1 rfl) ?_
      refine z_iald (v := (x.1 107 k)) hx hb hK hI (zo107 hG) k rfl (by omega) (by decide) rfl dX12_trace_24 ?_
      refine lv_goto (tgt := 29) hx hb dX12_trace_25 (by decide) ?_
      exact z_iret hx hb hr hlocks hI (⟨rfl, Or.inr ⟨k, hk, rfl, z_le c_16, rfl⟩⟩) dX12_trace_29
set_option maxHeartbeats 4000000 in
set_option maxRecDepth 100000 in
theorem c_X12_taken (l : Launch) {G : zG} (hG : zOK G) (x : zX) (N : Nat) (q w : Int32) (hr0 : zRef x N) : zMi l yX12_taken wsX12_taken { frames := 2, cells := 0, slots := 0, locals := 44 } G [.ref (za G 77), .int q, .int w] x (fun (r : Int32) (u : zX) => x = u ∧ ((¬ (¬ w < nI 0 ∧ ¬ nI 6 < w) ∧ -2 = r) ∨ ((¬ w < nI 0 ∧ ¬ nI 6 < w) ∧ ¬ zin N q ∧ -11 = r) ∨ ((¬ w < nI 0 ∧ ¬ nI 6 < w) ∧ ∃ kb, kb < N ∧ q = nI kb ∧ (if w = nI 0 ∨ x.1 78 kb = w ∨ (w = nI 1 ∧ x.1 78 kb = nI 4) ∨ (w = nI 2 ∧ x.1 78 kb = nI 5) ∨ (w = nI 3 ∧ x.1 78 kb = nI 6) then x.1 78 kb else -12) = r))) := by
  intro A
  refine zBody (cc := cX12_taken) (maxL := 4) (ret := (some .int)) (by decide) rfl (Nat.le_of_ble_eq_true rfl) ?_
  intro p e s m below meth c hx hb hml hown hts hr hlocks hK hN hI ls hl
  have hown : s.vm.findClass RX12 = some m.cls := hown
  have hl : lv_has ls 4 [(0, .ref (za G 77)), (1, .int q), (2, .int w)] := hl
  have hin12 : ∀ w ∈ wsX120, w ∈ wsX12_taken := (fun _ h => List.mem_cons_of_mem _ (List.mem_append_right _ (h)))
  have wF16 := hts (.fieldLink RX12 16 "WhoSitsByModel" "kind" "[I") (z_mem 1 rfl)
  have h8 := hr0.1
  refine lv_aload_n hx hb dX12_taken_0 rfl (lv_at hl 0 rfl) ?_
  refine lv_iload_n hx hb dX12_taken_1 rfl (lv_at hl 2 rfl) ?_
  refine lv_iconst (v := (nI 0)) hx hb dX12_taken_2 rfl ?_
  refine lv_bipush (v := (nI 6)) hx hb dX12_taken_3 rfl ?_
  refine z_calli (va_runV (As := [.int w, .int (nI 0), .int (nI 6)]) (rest := []) ⟨hx, hb, hml, hown, hts⟩ ((c_X12_in l hG x w (nI 0) (nI 6)) A) (cwV 3 hts gX12_taken_X12_in rfl rfl rfl (by decide +kernel) ⟨Nat.le_of_ble_eq_true rfl, Nat.le_of_ble_eq_true rfl⟩) (z_pV hI hK hN (z_recv hK hI (zo77 hG) rfl)) rfl rfl hl.1 rfl (lv_room (Nat.le_of_ble_eq_true rfl)) dX12_taken_5 ⟨Nat.zero_le _, Nat.zero_le _⟩) hI (fun r_5 u H locs hw hI => ?_)
  obtain ⟨rfl, rfl⟩ := hw
  refine lv_if_ne (tgt := 14) hx hb dX12_taken_8 (by decide) (fun c_8 => ?_) (fun c_8 => ?_)
  · skip
    rw [zb_0, Classical.not_not] at c_8
    refine lv_aload_n hx hb dX12_taken_14 rfl (lv_at hl 0 rfl) ?_
    refine lv_iload_n hx hb dX12_taken_15 rfl (lv_at hl 1 rfl) ?_
    refine z_calli (va_runV (As := [.int q]) (rest := []) ⟨hx, hb, hml, hown, hts⟩ ((c_X12_isPupil l hG x N q hr0) A) (cwV 1 hts gX12_taken_X12_isPupil rfl rfl rfl (by decide +kernel) ⟨Nat.le_of_ble_eq_true rfl, Nat.le_of_ble_eq_true rfl⟩) (z_pV hI hK hN (z_recv hK hI (zo77 hG) rfl)) rfl rfl hl.1 rfl (lv_room (Nat.le_of_ble_eq_true rfl)) dX12_taken_16 ⟨Nat.zero_le _, Nat.zero_le _⟩) hI (fun r_16 u H locs hw hI => ?_)
    obtain ⟨rfl, rfl⟩ := hw
    refine lv_if_ne (tgt := 25) hx hb dX12_taken_19 (by decide) (fun c_19 => ?_) (fun c_19 => ?_)
    · skip
      rw [zb_0, Classical.not_not] at c_19
      obtain ⟨k, hk, rfl⟩ := zin_k h8 c_19
      refine lv_aload_n hx hb dX12_taken_25 rfl (lv_at hl 0 rfl) ?_
      refine z_get (C := RX12) (T := TX12) (N := 51) (ci := 12) (v := .ref (za G 78)) hx hb hts hin12 hown hK hI (zo77 hG) rfl 2 (by decide) wF16 (fun _ h9 => h9) rfl dX12_taken_26 ?_
      refine lv_iload_n hx hb dX12_taken_29 rfl (lv_at hl 1 rfl) ?_
      refine z_iald (v := (x.1 78 k)) hx hb hK hI (zo78 hG) k rfl (by omega) (by decide) rfl dX12_taken_30 ?_
      refine lv_istore_n (lv' := [(3, .int (x.1 78 k)), (0, .ref (za G 77)), (1, .int (nI k)), (2, .int w)]) hx hb dX12_taken_31 rfl hl (by decide) rfl (fun ls hl => ?_)
      refine lv_iload_n hx hb dX12_taken_32 rfl (lv_at hl 3 rfl) ?_
      refine lv_if_eq (tgt := 72) hx hb dX12_taken_33 (by decide) (fun c_33 => ?_) (fun c_33 => ?_)
      · skip
        refine lv_iload_n hx hb dX12_taken_72 rfl (lv_at hl 0 rfl) ?_
        refine lv_goto (tgt := 78) hx hb dX12_taken_73 (by decide) ?_
        exact z_iret hx hb hr hlocks hI (⟨rfl, Or.inr (Or.inr ⟨c_8, k, hk, rfl, if_pos (Or.inl c_33)⟩)⟩) dX12_taken_78
      · skip
        refine lv_iload_n hx hb dX12_taken_36 rfl (lv_at hl 0 rfl) ?_
        refine lv_iload_n hx hb dX12_taken_37 rfl (lv_at hl 3 rfl) ?_
        refine lv_icmp_eq (tgt := 72) hx hb dX12_taken_38 (by decide) (fun c_38 => ?_) (fun c_38 => ?_)
        · skip
          refine lv_iload_n hx hb dX12_taken_72 rfl (lv_at hl 0 rfl) ?_
          refine lv_goto (tgt := 78) hx hb dX12_taken_73 (by decide) ?_
          exact z_iret hx hb hr hlocks hI (⟨rfl, Or.inr (Or.inr ⟨c_8, k, hk, rfl, if_pos (Or.inr (Or.inl c_38))⟩)⟩) dX12_taken_78
        · skip
          refine lv_iload_n hx hb dX12_taken_41 rfl (lv_at hl 3 rfl) ?_
          refine lv_iconst (v := (nI 1)) hx hb dX12_taken_42 rfl ?_
          refine lv_icmp_ne (tgt := 51) hx hb dX12_taken_43 (by decide) (fun c_43 => ?_) (fun c_43 => ?_)
          · skip
            refine lv_iload_n hx hb dX12_taken_51 rfl (lv_at hl 3 rfl) ?_
            refine lv_iconst (v := (nI 2)) hx hb dX12_taken_52 rfl ?_
            refine lv_icmp_ne (tgt := 61) hx hb dX12_taken_53 (by decide) (fun c_53 => ?_) (fun c_53 => ?_)
            · skip
              refine lv_iload_n hx hb dX12_taken_61 rfl (lv_at hl 3 rfl) ?_
              refine lv_iconst (v := (nI 3)) hx hb dX12_taken_62 rfl ?_
              refine lv_icmp_ne (tgt := 76) hx hb dX12_taken_63 (by decide) (fun c_63 => ?_) (fun c_63 => ?_)
              · skip
                refine lv_bipush (v := (-12)) hx hb dX12_taken_76 rfl ?_
                exact z_iret hx hb hr hlocks hI (⟨rfl, Or.inr (Or.inr ⟨c_8, k, hk, rfl, if_neg (fun h => h.elim c_33 (fun h => h.elim c_38 (fun h => h.elim (fun h => c_43 h.1) (fun h => h.elim (fun h => c_53 h.1) (fun h => c_63 h.1)))))⟩)⟩) dX12_taken_78
              · skip
                refine lv_iload_n hx hb dX12_taken_66 rfl (lv_at hl 0 rfl) ?_
                refine lv_bipush (v := (nI 6)) hx hb dX12_taken_67 rfl ?_
                refine lv_icmp_ne (tgt := 76) hx hb dX12_taken_69 (by decide) (fun c_69 => ?_) (fun c_69 => ?_)
                · skip
                  refine lv_bipush (v := (-12)) hx hb dX12_taken_76 rfl ?_
                  exact z_iret hx hb hr hlocks hI (⟨rfl, Or.inr (Or.inr ⟨c_8, k, hk, rfl, if_neg (fun h => h.elim c_33 (fun h => h.elim c_38 (fun h => h.elim (fun h => c_43 h.1) (fun h => h.elim (fun h => c_53 h.1) (fun h => c_69 h.2)))))⟩)⟩) dX12_taken_78
                · skip
                  refine lv_iload_n hx hb dX12_taken_72 rfl (lv_at hl 0 rfl) ?_
                  refine lv_goto (tgt := 78) hx hb dX12_taken_73 (by decide) ?_
                  exact z_iret hx hb hr hlocks hI (⟨rfl, Or.inr (Or.inr ⟨c_8, k, hk, rfl, if_pos (Or.inr (Or.inr (Or.inr (Or.inr ⟨c_63, c_69⟩))))⟩)⟩) dX12_taken_78
            · skip
              refine lv_iload_n hx hb dX12_taken_56 rfl (lv_at hl 0 rfl) ?_
              refine lv_iconst (v := (nI 5)) hx hb dX12_taken_57 rfl ?_
              refine lv_icmp_eq (tgt := 72) hx hb dX12_taken_58 (by decide) (fun c_58 => ?_) (fun c_58 => ?_)
              · skip
                refine lv_iload_n hx hb dX12_taken_72 rfl (lv_at hl 0 rfl) ?_
                refine lv_goto (tgt := 78) hx hb dX12_taken_73 (by decide) ?_
                exact z_iret hx hb hr hlocks hI (⟨rfl, Or.inr (Or.inr ⟨c_8, k, hk, rfl, if_pos (Or.inr (Or.inr (Or.inr (Or.inl ⟨c_53, c_58⟩))))⟩)⟩) dX12_taken_78
              · skip
                refine lv_iload_n hx hb dX12_taken_61 rfl (lv_at hl 3 rfl) ?_
                refine lv_iconst (v := (nI 3)) hx hb dX12_taken_62 rfl ?_
                refine lv_icmp_ne (tgt := 76) hx hb dX12_taken_63 (by decide) (fun c_63 => ?_) (fun c_63 => ?_)
                · skip
                  refine lv_bipush (v := (-12)) hx hb dX12_taken_76 rfl ?_
                  exact z_iret hx hb hr hlocks hI (⟨rfl, Or.inr (Or.inr ⟨c_8, k, hk, rfl, if_neg (fun h => h.elim c_33 (fun h => h.elim c_38 (fun h => h.elim (fun h => c_43 h.1) (fun h => h.elim (fun h => c_58 h.2) (fun h => c_63 h.1)))))⟩)⟩) dX12_taken_78
                · skip
                  refine lv_iload_n hx hb dX12_taken_66 rfl (lv_at hl 0 rfl) ?_
                  refine lv_bipush (v := (nI 6)) hx hb dX12_taken_67 rfl ?_
                  refine lv_icmp_ne (tgt := 76) hx hb dX12_taken_69 (by decide) (fun c_69 => ?_) (fun c_69 => ?_)
                  · skip
                    refine lv_bipush (v := (-12)) hx hb dX12_taken_76 rfl ?_
                    exact z_iret hx hb hr hlocks hI (⟨rfl, Or.inr (Or.inr ⟨c_8, k, hk, rfl, if_neg (fun h => h.elim c_33 (fun h => h.elim c_38 (fun h => h.elim (fun h => c_43 h.1) (fun h => h.elim (fun h => c_58 h.2) (fun h => c_69 h.2)))))⟩)⟩) dX12_taken_78
                  · skip
                    refine lv_iload_n hx hb dX12_taken_72 rfl (lv_at hl 0 rfl) ?_
                    refine lv_goto (tgt := 78) hx hb dX12_taken_73 (by decide) ?_
                    exact z_iret hx hb hr hlocks hI (⟨rfl, Or.inr (Or.inr ⟨c_8, k, hk, rfl, if_pos (Or.inr (Or.inr (Or.inr (Or.inr ⟨c_63, c_69⟩))))⟩)⟩) dX12_taken_78
          · skip
            refine lv_iload_n hx hb dX12_taken_46 rfl (lv_at hl 0 rfl) ?_
            refine lv_iconst (v := (nI 4)) hx hb dX12_taken_47 rfl ?_
            refine lv_icmp_eq (tgt := 72) hx hb dX12_taken_48 (by decide) (fun c_48 => ?_) (fun c_48 => ?_)
            · skip
              refine lv_iload_n hx hb dX12_taken_72 rfl (lv_at hl 0 rfl) ?_
              refine lv_goto (tgt := 78) hx hb dX12_taken_73 (by decide) ?_
              exact z_iret hx hb hr hlocks hI (⟨rfl, Or.inr (Or.inr ⟨c_8, k, hk, rfl, if_pos (Or.inr (Or.inr (Or.inl ⟨c_43, c_48⟩)))⟩)⟩) dX12_taken_78
            · skip
              refine lv_iload_n hx hb dX12_taken_51 rfl (lv_at hl 3 rfl) ?_
              refine lv_iconst (v := (nI 2)) hx hb dX12_taken_52 rfl ?_
              refine lv_icmp_ne (tgt := 61) hx hb dX12_taken_53 (by decide) (fun c_53 => ?_) (fun c_53 => ?_)
              · skip
                refine lv_iload_n hx hb dX12_taken_61 rfl (lv_at hl 3 rfl) ?_
                refine lv_iconst (v := (nI 3)) hx hb dX12_taken_62 rfl ?_
                refine lv_icmp_ne (tgt := 76) hx hb dX12_taken_63 (by decide) (fun c_63 => ?_) (fun c_63 => ?_)
                · skip
                  refine lv_bipush (v := (-12)) hx hb dX12_taken_76 rfl ?_
                  exact z_iret hx hb hr hlocks hI (⟨rfl, Or.inr (Or.inr ⟨c_8, k, hk, rfl, if_neg (fun h => h.elim c_33 (fun h => h.elim c_38 (fun h => h.elim (fun h => c_48 h.2) (fun h => h.elim (fun h => c_53 h.1) (fun h => c_63 h.1)))))⟩)⟩) dX12_taken_78
                · skip
                  refine lv_iload_n hx hb dX12_taken_66 rfl (lv_at hl 0 rfl) ?_
                  refine lv_bipush (v := (nI 6)) hx hb dX12_taken_67 rfl ?_
                  refine lv_icmp_ne (tgt := 76) hx hb dX12_taken_69 (by decide) (fun c_69 => ?_) (fun c_69 => ?_)
                  · skip
                    refine lv_bipush (v := (-12)) hx hb dX12_taken_76 rfl ?_
                    exact z_iret hx hb hr hlocks hI (⟨rfl, Or.inr (Or.inr ⟨c_8, k, hk, rfl, if_neg (fun h => h.elim c_33 (fun h => h.elim c_38 (fun h => h.elim (fun h => c_48 h.2) (fun h => h.elim (fun h => c_53 h.1) (fun h => c_69 h.2)))))⟩)⟩) dX12_taken_78
                  · skip
                    refine lv_iload_n hx hb dX12_taken_72 rfl (lv_at hl 0 rfl) ?_
                    refine lv_goto (tgt := 78) hx hb dX12_taken_73 (by decide) ?_
                    exact z_iret hx hb hr hlocks hI (⟨rfl, Or.inr (Or.inr ⟨c_8, k, hk, rfl, if_pos (Or.inr (Or.inr (Or.inr (Or.inr ⟨c_63, c_69⟩))))⟩)⟩) dX12_taken_78
              · skip
                refine lv_iload_n hx hb dX12_taken_56 rfl (lv_at hl 0 rfl) ?_
                refine lv_iconst (v := (nI 5)) hx hb dX12_taken_57 rfl ?_
                refine lv_icmp_eq (tgt := 72) hx hb dX12_taken_58 (by decide) (fun c_58 => ?_) (fun c_58 => ?_)
                · skip
                  refine lv_iload_n hx hb dX12_taken_72 rfl (lv_at hl 0 rfl) ?_
                  refine lv_goto (tgt := 78) hx hb dX12_taken_73 (by decide) ?_
                  exact z_iret hx hb hr hlocks hI (⟨rfl, Or.inr (Or.inr ⟨c_8, k, hk, rfl, if_pos (Or.inr (Or.inr (Or.inr (Or.inl ⟨c_53, c_58⟩))))⟩)⟩) dX12_taken_78
                · skip
                  refine lv_iload_n hx hb dX12_taken_61 rfl (lv_at hl 3 rfl) ?_
                  refine lv_iconst (v := (nI 3)) hx hb dX12_taken_62 rfl ?_
                  refine lv_icmp_ne (tgt := 76) hx hb dX12_taken_63 (by decide) (fun c_63 => ?_) (fun c_63 => ?_)
                  · skip
                    refine lv_bipush (v := (-12)) hx hb dX12_taken_76 rfl ?_
                    exact z_iret hx hb hr hlocks hI (⟨rfl, Or.inr (Or.inr ⟨c_8, k, hk, rfl, if_neg (fun h => h.elim c_33 (fun h => h.elim c_38 (fun h => h.elim (fun h => c_48 h.2) (fun h => h.elim (fun h => c_58 h.2) (fun h => c_63 h.1)))))⟩)⟩) dX12_taken_78
                  · skip
                    refine lv_iload_n hx hb dX12_taken_66 rfl (lv_at hl 0 rfl) ?_
                    refine lv_bipush (v := (nI 6)) hx hb dX12_taken_67 rfl ?_
                    refine lv_icmp_ne (tgt := 76) hx hb dX12_taken_69 (by decide) (fun c_69 => ?_) (fun c_69 => ?_)
                    · skip
                      refine lv_bipush (v := (-12)) hx hb dX12_taken_76 rfl ?_
                      exact z_iret hx hb hr hlocks hI (⟨rfl, Or.inr (Or.inr ⟨c_8, k, hk, rfl, if_neg (fun h => h.elim c_33 (fun h => h.elim c_38 (fun h => h.elim (fun h => c_48 h.2) (fun h => h.elim (fun h => c_58 h.2) (fun h => c_69 h.2)))))⟩)⟩) dX12_taken_78
                    · skip
                      refine lv_iload_n hx hb dX12_taken_72 rfl (lv_at hl 0 rfl) ?_
                      refine lv_goto (tgt := 78) hx hb dX12_taken_73 (by decide) ?_
                      exact z_iret hx hb hr hlocks hI (⟨rfl, Or.inr (Or.inr ⟨c_8, k, hk, rfl, if_pos (Or.inr (Or.inr (Or.inr (Or.inr ⟨c_63, c_69⟩))))⟩)⟩) dX12_taken_78
    · skip
      rw [zb_0] at c_19
      refine lv_bipush (v := (-11)) hx hb dX12_taken_22 rfl ?_
      exact z_iret hx hb hr hlocks hI (⟨rfl, Or.inr (Or.inl ⟨c_8, c_19, rfl⟩)⟩) dX12_taken_24
  · skip
    rw [zb_0] at c_8
    refine lv_bipush (v := (-2)) hx hb dX12_taken_11 rfl ?_
    exact z_iret hx hb hr hlocks hI (⟨rfl, Or.inl ⟨c_8, rfl⟩⟩) dX12_taken_13
set_option maxHeartbeats 4000000 in
set_option maxRecDepth 100000 in
theorem c_X7_newPairs (l : Launch) {G : zG} (hG : zOK G) (x : zX) (i : Nat) (ha : zIA G i 8) : zMi l yX7_newPairs wsX7_newPairs { frames := 2, cells := 0, slots := 0, locals := 65 } G [.ref (za G 1), .ref (za G i)] x (fun (r : Int32) (u : zX) => x = u ∧ zlc (zpairs (x.1 i) &&& (x.2.1 1 5 ^^^ (-1))) = r) := by
  intro A
  refine zBody (cc := cX7_newPairs) (maxL := 2) (ret := (some .int)) (by decide) rfl (Nat.le_of_ble_eq_true rfl) ?_
  intro p e s m below meth c hx hb hml hown hts hr hlocks hK hN hI ls hl
  have hown : s.vm.findClass RX7 = some m.cls := hown
  have hl : lv_has ls 2 [(0, .ref (za G 1)), (1, .ref (za G i))] := hl
  have hin7 : ∀ w ∈ wsX70, w ∈ wsX7_newPairs := (fun _ h => List.mem_cons_of_mem _ (List.mem_append_right _ (h)))
  have wF34 := hts (.fieldLink RX7 34 "WhoSitsBy$Standing" "pairs" "J") (z_mem 1 rfl)
  have wK69 := hts (.constantLong RX7 69 (-1)) (z_mem 2 rfl)
  refine lv_aload_n hx hb dX7_newPairs_0 rfl (lv_at hl 1 rfl) ?_
  refine z_calll (va_runS (As := [.ref (za G i)]) (rest := []) ⟨hx, hb, hml, hown, hts⟩ ((c_X7_pairsOf l hG x i ha) A) (va_cwS 1 hts gX7_newPairs_X7_pairsOf rfl rfl rfl (by decide +kernel) ⟨Nat.le_of_ble_eq_true rfl, Nat.le_of_ble_eq_true rfl⟩) (z_pS hI hK hN) rfl rfl hl.1 rfl (lv_room (Nat.le_of_ble_eq_true rfl)) dX7_newPairs_1 ⟨Nat.zero_le _, Nat.zero_le _⟩) hI (fun r_1 u H locs hw hI => ?_)
  obtain ⟨rfl, rfl⟩ := hw
  refine lv_aload_n hx hb dX7_newPairs_4 rfl (lv_at hl 0 rfl) ?_
  refine z_get (C := RX7) (T := TX7) (N := 7) (ci := 7) (v := .long (x.2.1 1 5)) hx hb hts hin7 hown hK hI (zo1 hG) rfl 5 (by decide) wF34 (fun _ h9 => h9) rfl dX7_newPairs_5 ?_
  refine lv_ldc2 (v := (-1)) hx hb hown wK69 dX7_newPairs_8 ?_
  refine lv_lxor hx hb dX7_newPairs_11 ?_
  refine lv_land hx hb dX7_newPairs_12 ?_
  refine z_calli (va_runS (As := [.long ((zpairs (x.1 i)) &&& ((x.2.1 1 5) ^^^ (-1)))]) (rest := []) ⟨hx, hb, hml, hown, hts⟩ ((c_J13_bitCount_95d88 l hG x ((zpairs (x.1 i)) &&& ((x.2.1 1 5) ^^^ (-1)))) A) (va_cwS 1 hts gX7_newPairs_J13_bitCount_95d88 rfl rfl rfl (by decide +kernel) ⟨Nat.le_of_ble_eq_true rfl, Nat.le_of_ble_eq_true rfl⟩) (z_pS hI hK hN) rfl rfl hl.1 rfl (lv_room (Nat.le_of_ble_eq_true rfl)) dX7_newPairs_13 ⟨Nat.zero_le _, Nat.zero_le _⟩) hI (fun r_13 u H locs hw hI => ?_)
  obtain ⟨rfl, rfl⟩ := hw
  exact z_iret hx hb hr hlocks hI (⟨rfl, rfl⟩) dX7_newPairs_16
set_option maxHeartbeats 4000000 in
set_option maxRecDepth 100000 in
theorem c_X7_putDown (l : Launch) {G : zG} (hG : zOK G) (x : zX)   : zMi l yX7_putDown wsX7_putDown { frames := 3, cells := 0, slots := 0, locals := 86 } G [.ref (za G 1)] x (fun (r : Int32) (u : zX) => zsL x 1 5 (x.2.1 1 5 ||| zpairs (x.1 4)) = u ∧ zlc (zpairs (x.1 4) &&& (x.2.1 1 5 ^^^ (-1))) = r) := by
  intro A
  refine zBody (cc := cX7_putDown) (maxL := 2) (ret := (some .int)) (by decide) rfl (Nat.le_of_ble_eq_true rfl) ?_
  intro p e s m below meth c hx hb hml hown hts hr hlocks hK hN hI ls hl
  have hown : s.vm.findClass RX7 = some m.cls := hown
  have hl : lv_has ls 2 [(0, .ref (za G 1))] := hl
  have hin7 : ∀ w ∈ wsX70, w ∈ wsX7_putDown := (fun _ h => List.mem_cons_of_mem _ (List.mem_append_right _ (h)))
  have wF17 := hts (.fieldLink RX7 17 "WhoSitsBy$Standing" "sitters" "[I") (z_mem 1 rfl)
  have wF34 := hts (.fieldLink RX7 34 "WhoSitsBy$Standing" "pairs" "J") (z_mem 2 rfl)
  refine lv_aload_n hx hb dX7_putDown_0 rfl (lv_at hl 0 rfl) ?_
  refine lv_aload_n hx hb dX7_putDown_1 rfl (lv_at hl 0 rfl) ?_
  refine z_get (C := RX7) (T := TX7) (N := 7) (ci := 7) (v := .ref (za G 4)) hx hb hts hin7 hown hK hI (zo1 hG) rfl 1 (by decide) wF17 (fun _ h9 => h9) rfl dX7_putDown_2 ?_
  refine z_calli (va_runV (As := [.ref (za G 4)]) (rest := []) ⟨hx, hb, hml, hown, hts⟩ ((c_X7_newPairs l hG x 4 (zo4 hG)) A) (cwV 1 hts gX7_putDown_X7_newPairs rfl rfl rfl (by decide +kernel) ⟨Nat.le_of_ble_eq_true rfl, Nat.le_of_ble_eq_true rfl⟩) (z_pV hI hK hN (z_recv hK hI (zo1 hG) rfl)) rfl rfl hl.1 rfl (lv_room (Nat.le_of_ble_eq_true rfl)) dX7_putDown_5 ⟨Nat.zero_le _, Nat.zero_le _⟩) hI (fun r_5 u H locs hw hI => ?_)
  obtain ⟨rfl, rfl⟩ := hw
  refine lv_istore_n (lv' := [(1, .int (zlc (zpairs (x.1 4) &&& (x.2.1 1 5 ^^^ (-1))))), (0, .ref (za G 1))]) hx hb dX7_putDown_8 rfl hl (by decide) rfl (fun ls hl => ?_)
  refine lv_aload_n hx hb dX7_putDown_9 rfl (lv_at hl 1 rfl) ?_
  refine lv_dup hx hb dX7_putDown_10 rfl ?_
  refine z_get (C := RX7) (T := TX7) (N := 7) (ci := 7) (v := .long (x.2.1 1 5)) hx hb hts hin7 hown hK hI (zo1 hG) rfl 5 (by decide) wF34 (fun _ h9 => h9) rfl dX7_putDown_11 ?_
  refine lv_aload_n hx hb dX7_putDown_14 rfl (lv_at hl 1 rfl) ?_
  refine z_get (C := RX7) (T := TX7) (N := 7) (ci := 7) (v := .ref (za G 4)) hx hb hts hin7 hown hK hI (zo1 hG) rfl 1 (by decide) wF17 (fun _ h9 => h9) rfl dX7_putDown_15 ?_
  refine z_calll (va_runS (As := [.ref (za G 4)]) (rest := [.long (x.2.1 1 5), .ref (za G 1)]) ⟨hx, hb, hml, hown, hts⟩ ((c_X7_pairsOf l hG x 4 (zo4 hG)) A) (va_cwS 1 hts gX7_putDown_X7_pairsOf rfl rfl rfl (by decide +kernel) ⟨Nat.le_of_ble_eq_true rfl, Nat.le_of_ble_eq_true rfl⟩) (z_pS hI hK hN) rfl rfl hl.1 rfl (lv_room (Nat.le_of_ble_eq_true rfl)) dX7_putDown_18 ⟨Nat.zero_le _, Nat.zero_le _⟩) hI (fun r_18 u H locs hw hI => ?_)
  obtain ⟨rfl, rfl⟩ := hw
  refine lv_lor hx hb dX7_putDown_21 ?_
  refine z_putL (C := RX7) (T := TX7) (N := 7) (ci := 7) (ty := .long) hx hb hts hin7 tyX7 tyX7_ok nmX7 hown hK hI (zo1 hG) rfl 5 (by decide) wF34 (fun _ h9 => h9) rfl (fun _ _ => rfl) (by decide +kernel) rfl rfl (fun _ _ => Nat.le_of_ble_eq_true rfl) dX7_putDown_22 (fun H locs hI => ?_)
  refine lv_iload_n hx hb dX7_putDown_25 rfl (lv_at hl 0 rfl) ?_
  exact z_iret hx hb hr hlocks hI (⟨rfl, rfl⟩) dX7_putDown_26
set_option maxHeartbeats 4000000 in
set_option maxRecDepth 100000 in
theorem c_X11_month (l : Launch) {G : zG} (hG : zOK G) (x : zX)   : zMi l yX11_month wsX11_month { frames := 4, cells := 0, slots := 0, locals := 107 } G [.ref (za G 0)] x (fun (r : Int32) (u : zX) => zsL x 1 5 (x.2.1 1 5 ||| zpairs (x.1 4)) = u ∧ zlc (zpairs (x.1 4) &&& (x.2.1 1 5 ^^^ (-1))) = r) := by
  intro A
  refine zBody (cc := cX11_month) (maxL := 1) (ret := (some .int)) (by decide) rfl (Nat.le_of_ble_eq_true rfl) ?_
  intro p e s m below meth c hx hb hml hown hts hr hlocks hK hN hI ls hl
  have hown : s.vm.findClass RX11 = some m.cls := hown
  have hl : lv_has ls 1 [(0, .ref (za G 0))] := hl
  have hin11 : ∀ w ∈ wsX110, w ∈ wsX11_month := (fun _ h => List.mem_cons_of_mem _ (List.mem_append_left _ (List.mem_append_right _ (h))))
  have wF12 := hts (.fieldLink RX11 12 "WhoSitsBy" "now" "LWhoSitsBy$Standing;") (z_mem 1 rfl)
  refine lv_aload_n hx hb dX11_month_0 rfl (lv_at hl 0 rfl) ?_
  refine z_get (C := RX11) (T := TX11) (N := 14) (ci := 11) (v := .ref (za G 1)) hx hb hts hin11 hown hK hI (zo0 hG) rfl 0 (by decide) wF12 (fun _ h9 => h9) rfl dX11_month_1 ?_
  refine z_calli (va_runV (As := []) (rest := []) ⟨hx, hb, hml, hown, hts⟩ ((c_X7_putDown l hG x) A) (cwV 0 hts gX11_month_X7_putDown rfl rfl rfl (by decide +kernel) ⟨Nat.le_of_ble_eq_true rfl, Nat.le_of_ble_eq_true rfl⟩) (z_pV hI hK hN (z_recv hK hI (zo1 hG) rfl)) rfl rfl hl.1 rfl (lv_room (Nat.le_of_ble_eq_true rfl)) dX11_month_4 ⟨Nat.zero_le _, Nat.zero_le _⟩) hI (fun r_4 u H locs hw hI => ?_)
  obtain ⟨rfl, rfl⟩ := hw
  exact z_iret hx hb hr hlocks hI (⟨rfl, rfl⟩) dX11_month_7
set_option maxHeartbeats 4000000 in
set_option maxRecDepth 100000 in
theorem c_X11_lacks (l : Launch) {G : zG} (hG : zOK G) (x : zX) (N : Nat) (w : Int32) (hn : zNow G x N) : zMi l yX11_lacks wsX11_lacks { frames := 1, cells := 0, slots := 0, locals := 21 } G [.ref (za G 0), .int w] x (fun (r : Int32) (u : zX) => x = u ∧ (if w = nI 0 then nI N * (nI N - nI 1) / nI 2 - zlc (x.2.1 1 5) else if w = nI 1 then (if nI N * (nI N - nI 1) / nI 2 - zlc (x.2.1 1 5) = 0 then nI 1 else nI 0) else -1) = r) := by
  intro A
  refine zBody (cc := cX11_lacks) (maxL := 3) (ret := (some .int)) (by decide) rfl (Nat.le_of_ble_eq_true rfl) ?_
  intro p e s m below meth c hx hb hml hown hts hr hlocks hK hN hI ls hl
  have hown : s.vm.findClass RX11 = some m.cls := hown
  have hl : lv_has ls 3 [(0, .ref (za G 0)), (1, .int w)] := hl
  have hin7 : ∀ w ∈ wsX70, w ∈ wsX11_lacks := (fun _ h => List.mem_cons_of_mem _ (List.mem_append_right _ (h)))
  have hin11 : ∀ w ∈ wsX110, w ∈ wsX11_lacks := (fun _ h => List.mem_cons_of_mem _ (List.mem_append_left _ (List.mem_append_right _ (h))))
  have wF12 := hts (.fieldLink RX11 12 "WhoSitsBy" "now" "LWhoSitsBy$Standing;") (z_mem 1 rfl)
  have wF66 := hts (.fieldLink RX11 66 "WhoSitsBy$Standing" "size" "I") (z_mem 2 rfl)
  have wF236 := hts (.fieldLink RX11 236 "WhoSitsBy$Standing" "pairs" "J") (z_mem 3 rfl)
  refine lv_aload_n hx hb dX11_lacks_0 rfl (lv_at hl 0 rfl) ?_
  refine z_get (C := RX11) (T := TX11) (N := 14) (ci := 11) (v := .ref (za G 1)) hx hb hts hin11 hown hK hI (zo0 hG) rfl 0 (by decide) wF12 (fun _ h9 => h9) rfl dX11_lacks_1 ?_
  refine z_get (C := RX7) (T := TX7) (N := 7) (ci := 7) (v := .int (nI N)) hx hb hts hin7 hown hK hI (zo1 hG) rfl 3 (by decide) wF66 (fun _ h9 => h9) (congrArg (fun q => some (Value.int q)) hn.2.1) dX11_lacks_4 ?_
  refine lv_aload_n hx hb dX11_lacks_7 rfl (lv_at hl 0 rfl) ?_
  refine z_get (C := RX11) (T := TX11) (N := 14) (ci := 11) (v := .ref (za G 1)) hx hb hts hin11 hown hK hI (zo0 hG) rfl 0 (by decide) wF12 (fun _ h9 => h9) rfl dX11_lacks_8 ?_
  refine z_get (C := RX7) (T := TX7) (N := 7) (ci := 7) (v := .int (nI N)) hx hb hts hin7 hown hK hI (zo1 hG) rfl 3 (by decide) wF66 (fun _ h9 => h9) (congrArg (fun q => some (Value.int q)) hn.2.1) dX11_lacks_11 ?_
  refine lv_iconst (v := (nI 1)) hx hb dX11_lacks_14 rfl ?_
  refine lv_isub hx hb dX11_lacks_15 ?_
  refine z_imul (v := (nI N * (nI N - nI 1))) hx hb rfl dX11_lacks_16 ?_
  refine lv_iconst (v := (nI 2)) hx hb dX11_lacks_17 rfl ?_
  refine lv_idiv hx hb dX11_lacks_18 (by decide) ?_
  refine lv_aload_n hx hb dX11_lacks_19 rfl (lv_at hl 0 rfl) ?_
  refine z_get (C := RX11) (T := TX11) (N := 14) (ci := 11) (v := .ref (za G 1)) hx hb hts hin11 hown hK hI (zo0 hG) rfl 0 (by decide) wF12 (fun _ h9 => h9) rfl dX11_lacks_20 ?_
  refine z_get (C := RX7) (T := TX7) (N := 7) (ci := 7) (v := .long (x.2.1 1 5)) hx hb hts hin7 hown hK hI (zo1 hG) rfl 5 (by decide) wF236 (fun _ h9 => h9) rfl dX11_lacks_23 ?_
  refine z_calli (va_runS (As := [.long (x.2.1 1 5)]) (rest := [.int ((nI N * (nI N - nI 1)) / (nI 2))]) ⟨hx, hb, hml, hown, hts⟩ ((c_J13_bitCount_95d88 l hG x (x.2.1 1 5)) A) (va_cwS 1 hts gX11_lacks_J13_bitCount_95d88 rfl rfl rfl (by decide +kernel) ⟨Nat.le_of_ble_eq_true rfl, Nat.le_of_ble_eq_true rfl⟩) (z_pS hI hK hN) rfl rfl hl.1 rfl (lv_room (Nat.le_of_ble_eq_true rfl)) dX11_lacks_26 ⟨Nat.zero_le _, Nat.zero_le _⟩) hI (fun r_26 u H locs hw hI => ?_)
  obtain ⟨rfl, rfl⟩ := hw
  refine lv_isub hx hb dX11_lacks_29 ?_
  refine lv_istore_n (lv' := [(2, .int (((nI N * (nI N - nI 1)) / (nI 2)) - (zlc (x.2.1 1 5)))), (0, .ref (za G 0)), (1, .int w)]) hx hb dX11_lacks_30 rfl hl (by decide) rfl (fun ls hl => ?_)
  refine lv_iload_n hx hb dX11_lacks_31 rfl (lv_at hl 2 rfl) ?_
  by_cases q32_0 : w = (nI 0)
  · skip
    refine lv_lookup (off := 28) (tgt := 60) hx hb dX11_lacks_32 (by decide) (by rw [q32_0]; decide) (by decide) ?_
    refine lv_iload_n hx hb dX11_lacks_60 rfl (lv_at hl 0 rfl) ?_
    exact z_iret hx hb hr hlocks hI (⟨rfl, if_pos q32_0⟩) dX11_lacks_61
  by_cases q32_1 : w = (nI 1)
  · skip
    refine lv_lookup (off := 30) (tgt := 62) hx hb dX11_lacks_32 (by decide) (by rw [q32_1]; decide) (by decide) ?_
    refine lv_iload_n hx hb dX11_lacks_62 rfl (lv_at hl 0 rfl) ?_
    refine lv_if_ne (tgt := 70) hx hb dX11_lacks_63 (by decide) (fun c_63 => ?_) (fun c_63 => ?_)
    · skip
      refine lv_iconst (v := (nI 0)) hx hb dX11_lacks_70 rfl ?_
      exact z_iret hx hb hr hlocks hI (⟨rfl, by rw [if_neg q32_0, if_pos q32_1, if_neg c_63]⟩) dX11_lacks_71
    · skip
      refine lv_iconst (v := (nI 1)) hx hb dX11_lacks_66 rfl ?_
      refine lv_goto (tgt := 71) hx hb dX11_lacks_67 (by decide) ?_
      exact z_iret hx hb hr hlocks hI (⟨rfl, by rw [if_neg q32_0, if_pos q32_1, if_pos c_63]⟩) dX11_lacks_71
  refine lv_lookup (off := 40) (tgt := 72) hx hb dX11_lacks_32 (by decide) ((lv_osw (k := nI 0) q32_0 rfl).trans ((lv_osw (k := nI 1) q32_1 rfl).trans (rfl))) (by decide) ?_
  refine lv_iconst (v := (-1)) hx hb dX11_lacks_72 rfl ?_
  exact z_iret hx hb hr hlocks hI (⟨rfl, by rw [if_neg q32_0, if_neg q32_1]⟩) dX11_lacks_73
set_option maxHeartbeats 4000000 in
set_option maxRecDepth 100000 in
theorem c_X11_count (l : Launch) {G : zG} (hG : zOK G) (x : zX) (w : Int32)  : zMi l yX11_count wsX11_count { frames := 1, cells := 0, slots := 0, locals := 21 } G [.ref (za G 0), .int w] x (fun (r : Int32) (u : zX) => x = u ∧ (if w = nI 0 then x.1 1 3 else if w = nI 1 then x.1 0 7 else if w = nI 2 then zlc (x.2.1 1 5) else if w = nI 3 then x.1 0 4 else if w = nI 4 then x.1 17 1 else -2) = r) := by
  intro A
  refine zBody (cc := cX11_count) (maxL := 2) (ret := (some .int)) (by decide) rfl (Nat.le_of_ble_eq_true rfl) ?_
  intro p e s m below meth c hx hb hml hown hts hr hlocks hK hN hI ls hl
  have hown : s.vm.findClass RX11 = some m.cls := hown
  have hl : lv_has ls 2 [(0, .ref (za G 0)), (1, .int w)] := hl
  have hin7 : ∀ w ∈ wsX70, w ∈ wsX11_count := (fun _ h => List.mem_cons_of_mem _ (List.mem_append_left _ (List.mem_append_right _ (h))))
  have hin9 : ∀ w ∈ wsX90, w ∈ wsX11_count := (fun _ h => List.mem_cons_of_mem _ (List.mem_append_right _ (h)))
  have hin11 : ∀ w ∈ wsX110, w ∈ wsX11_count := (fun _ h => List.mem_cons_of_mem _ (List.mem_append_left _ (List.mem_append_left _ (List.mem_append_right _ (h)))))
  have wF12 := hts (.fieldLink RX11 12 "WhoSitsBy" "now" "LWhoSitsBy$Standing;") (z_mem 1 rfl)
  have wF66 := hts (.fieldLink RX11 66 "WhoSitsBy$Standing" "size" "I") (z_mem 2 rfl)
  have wF139 := hts (.fieldLink RX11 139 "WhoSitsBy" "roomCount" "I") (z_mem 3 rfl)
  have wF236 := hts (.fieldLink RX11 236 "WhoSitsBy$Standing" "pairs" "J") (z_mem 4 rfl)
  have wF136 := hts (.fieldLink RX11 136 "WhoSitsBy" "textLength" "I") (z_mem 5 rfl)
  have wF46 := hts (.fieldLink RX11 46 "WhoSitsBy" "traced" "LWhoSitsBy$Trace;") (z_mem 6 rfl)
  have wF300 := hts (.fieldLink RX11 300 "WhoSitsBy$Trace" "ran" "I") (z_mem 7 rfl)
  refine lv_iload_n hx hb dX11_count_0 rfl (lv_at hl 1 rfl) ?_
  by_cases q1_0 : w = (nI 0)
  · skip
    refine lv_tableIn (off := 35) (tgt := 36) hx hb dX11_count_1 (by rw [q1_0]; decide) (by rw [q1_0]; decide) (by rw [q1_0]; rfl) (by decide) ?_
    refine lv_aload_n hx hb dX11_count_36 rfl (lv_at hl 0 rfl) ?_
    refine z_get (C := RX11) (T := TX11) (N := 14) (ci := 11) (v := .ref (za G 1)) hx hb hts hin11 hown hK hI (zo0 hG) rfl 0 (by decide) wF12 (fun _ h9 => h9) rfl dX11_count_37 ?_
    refine z_get (C := RX7) (T := TX7) (N := 7) (ci := 7) (v := .int (x.1 1 3)) hx hb hts hin7 hown hK hI (zo1 hG) rfl 3 (by decide) wF66 (fun _ h9 => h9) rfl dX11_count_40 ?_
    exact z_iret hx hb hr hlocks hI (⟨rfl, by rw [if_pos q1_0]⟩) dX11_count_43
  by_cases q1_1 : w = (nI 1)
  · skip
    refine lv_tableIn (off := 43) (tgt := 44) hx hb dX11_count_1 (by rw [q1_1]; decide) (by rw [q1_1]; decide) (by rw [q1_1]; rfl) (by decide) ?_
    refine lv_aload_n hx hb dX11_count_44 rfl (lv_at hl 0 rfl) ?_
    refine z_get (C := RX11) (T := TX11) (N := 14) (ci := 11) (v := .int (x.1 0 7)) hx hb hts hin11 hown hK hI (zo0 hG) rfl 7 (by decide) wF139 (fun _ h9 => h9) rfl dX11_count_45 ?_
    exact z_iret hx hb hr hlocks hI (⟨rfl, by rw [if_neg q1_0, if_pos q1_1]⟩) dX11_count_48
  by_cases q1_2 : w = (nI 2)
  · skip
    refine lv_tableIn (off := 48) (tgt := 49) hx hb dX11_count_1 (by rw [q1_2]; decide) (by rw [q1_2]; decide) (by rw [q1_2]; rfl) (by decide) ?_
    refine lv_aload_n hx hb dX11_count_49 rfl (lv_at hl 0 rfl) ?_
    refine z_get (C := RX11) (T := TX11) (N := 14) (ci := 11) (v := .ref (za G 1)) hx hb hts hin11 hown hK hI (zo0 hG) rfl 0 (by decide) wF12 (fun _ h9 => h9) rfl dX11_count_50 ?_
    refine z_get (C := RX7) (T := TX7) (N := 7) (ci := 7) (v := .long (x.2.1 1 5)) hx hb hts hin7 hown hK hI (zo1 hG) rfl 5 (by decide) wF236 (fun _ h9 => h9) rfl dX11_count_53 ?_
    refine z_calli (va_runS (As := [.long (x.2.1 1 5)]) (rest := []) ⟨hx, hb, hml, hown, hts⟩ ((c_J13_bitCount_95d88 l hG x (x.2.1 1 5)) A) (va_cwS 1 hts gX11_count_J13_bitCount_95d88 rfl rfl rfl (by decide +kernel) ⟨Nat.le_of_ble_eq_true rfl, Nat.le_of_ble_eq_true rfl⟩) (z_pS hI hK hN) rfl rfl hl.1 rfl (lv_room (Nat.le_of_ble_eq_true rfl)) dX11_count_56 ⟨Nat.zero_le _, Nat.zero_le _⟩) hI (fun r_56 u H locs hw hI => ?_)
    obtain ⟨rfl, rfl⟩ := hw
    exact z_iret hx hb hr hlocks hI (⟨rfl, by rw [if_neg q1_0, if_neg q1_1, if_pos q1_2]⟩) dX11_count_59
  by_cases q1_3 : w = (nI 3)
  · skip
    refine lv_tableIn (off := 59) (tgt := 60) hx hb dX11_count_1 (by rw [q1_3]; decide) (by rw [q1_3]; decide) (by rw [q1_3]; rfl) (by decide) ?_
    refine lv_aload_n hx hb dX11_count_60 rfl (lv_at hl 0 rfl) ?_
    refine z_get (C := RX11) (T := TX11) (N := 14) (ci := 11) (v := .int (x.1 0 4)) hx hb hts hin11 hown hK hI (zo0 hG) rfl 4 (by decide) wF136 (fun _ h9 => h9) rfl dX11_count_61 ?_
    exact z_iret hx hb hr hlocks hI (⟨rfl, by rw [if_neg q1_0, if_neg q1_1, if_neg q1_2, if_pos q1_3]⟩) dX11_count_64
  by_cases q1_4 : w = (nI 4)
  · skip
    refine lv_tableIn (off := 64) (tgt := 65) hx hb dX11_count_1 (by rw [q1_4]; decide) (by rw [q1_4]; decide) (by rw [q1_4]; rfl) (by decide) ?_
    refine lv_aload_n hx hb dX11_count_65 rfl (lv_at hl 0 rfl) ?_
    refine z_get (C := RX11) (T := TX11) (N := 14) (ci := 11) (v := .ref (za G 17)) hx hb hts hin11 hown hK hI (zo0 hG) rfl 10 (by decide) wF46 (fun _ h9 => h9) rfl dX11_count_66 ?_
    refine z_get (C := RX9) (T := TX9) (N := 2) (ci := 9) (v := .int (x.1 17 1)) hx hb hts hin9 hown hK hI (zo17 hG) rfl 1 (by decide) wF300 (fun _ h9 => h9) rfl dX11_count_69 ?_
    exact z_iret hx hb hr hlocks hI (⟨rfl, by rw [if_neg q1_0, if_neg q1_1, if_neg q1_2, if_neg q1_3, if_pos q1_4]⟩) dX11_count_72
  refine lv_tableOut (tgt := 73) hx hb dX11_count_1 (by have := lv_neT (a := 0) q1_0 rfl; have := lv_neT (a := 1) q1_1 rfl; have := lv_neT (a := 2) q1_2 rfl; have := lv_neT (a := 3) q1_3 rfl; have := lv_neT (a := 4) q1_4 rfl; omega) (by decide) ?_
  refine lv_bipush (v := (-2)) hx hb dX11_count_73 rfl ?_
  exact z_iret hx hb hr hlocks hI (⟨rfl, by rw [if_neg q1_0, if_neg q1_1, if_neg q1_2, if_neg q1_3, if_neg q1_4]⟩) dX11_count_75
set_option maxHeartbeats 4000000 in
set_option maxRecDepth 100000 in
theorem c_X12_count (l : Launch) {G : zG} (hG : zOK G) (x : zX) (w : Int32)  : zMi l yX12_count wsX12_count { frames := 0, cells := 0, slots := 0, locals := 0 } G [.ref (za G 77), .int w] x (fun (r : Int32) (u : zX) => x = u ∧ (if w = nI 0 then x.1 77 0 else if w = nI 1 then x.1 77 12 else if w = nI 2 then x.1 77 1 else if w = nI 3 then x.1 77 14 else if w = nI 4 then x.1 77 45 else -2) = r) := by
  intro A
  refine zBody (cc := cX12_count) (maxL := 2) (ret := (some .int)) (by decide) rfl (Nat.le_of_ble_eq_true rfl) ?_
  intro p e s m below meth c hx hb hml hown hts hr hlocks hK hN hI ls hl
  have hown : s.vm.findClass RX12 = some m.cls := hown
  have hl : lv_has ls 2 [(0, .ref (za G 77)), (1, .int w)] := hl
  have hin12 : ∀ w ∈ wsX120, w ∈ wsX12_count := (fun _ h => List.mem_cons_of_mem _ (List.mem_append_right _ (h)))
  have wF7 := hts (.fieldLink RX12 7 "WhoSitsByModel" "pupils" "I") (z_mem 1 rfl)
  have wF48 := hts (.fieldLink RX12 48 "WhoSitsByModel" "rooms" "I") (z_mem 2 rfl)
  have wF13 := hts (.fieldLink RX12 13 "WhoSitsByModel" "down" "I") (z_mem 3 rfl)
  have wF54 := hts (.fieldLink RX12 54 "WhoSitsByModel" "fed" "I") (z_mem 4 rfl)
  have wF148 := hts (.fieldLink RX12 148 "WhoSitsByModel" "ran" "I") (z_mem 5 rfl)
  refine lv_iload_n hx hb dX12_count_0 rfl (lv_at hl 1 rfl) ?_
  by_cases q1_0 : w = (nI 0)
  · skip
    refine lv_tableIn (off := 35) (tgt := 36) hx hb dX12_count_1 (by rw [q1_0]; decide) (by rw [q1_0]; decide) (by rw [q1_0]; rfl) (by decide) ?_
    refine lv_aload_n hx hb dX12_count_36 rfl (lv_at hl 0 rfl) ?_
    refine z_get (C := RX12) (T := TX12) (N := 51) (ci := 12) (v := .int (x.1 77 0)) hx hb hts hin12 hown hK hI (zo77 hG) rfl 0 (by decide) wF7 (fun _ h9 => h9) rfl dX12_count_37 ?_
    exact z_iret hx hb hr hlocks hI (⟨rfl, by rw [if_pos q1_0]⟩) dX12_count_40
  by_cases q1_1 : w = (nI 1)
  · skip
    refine lv_tableIn (off := 40) (tgt := 41) hx hb dX12_count_1 (by rw [q1_1]; decide) (by rw [q1_1]; decide) (by rw [q1_1]; rfl) (by decide) ?_
    refine lv_aload_n hx hb dX12_count_41 rfl (lv_at hl 0 rfl) ?_
    refine z_get (C := RX12) (T := TX12) (N := 51) (ci := 12) (v := .int (x.1 77 12)) hx hb hts hin12 hown hK hI (zo77 hG) rfl 12 (by decide) wF48 (fun _ h9 => h9) rfl dX12_count_42 ?_
    exact z_iret hx hb hr hlocks hI (⟨rfl, by rw [if_neg q1_0, if_pos q1_1]⟩) dX12_count_45
  by_cases q1_2 : w = (nI 2)
  · skip
    refine lv_tableIn (off := 45) (tgt := 46) hx hb dX12_count_1 (by rw [q1_2]; decide) (by rw [q1_2]; decide) (by rw [q1_2]; rfl) (by decide) ?_
    refine lv_aload_n hx hb dX12_count_46 rfl (lv_at hl 0 rfl) ?_
    refine z_get (C := RX12) (T := TX12) (N := 51) (ci := 12) (v := .int (x.1 77 1)) hx hb hts hin12 hown hK hI (zo77 hG) rfl 1 (by decide) wF13 (fun _ h9 => h9) rfl dX12_count_47 ?_
    exact z_iret hx hb hr hlocks hI (⟨rfl, by rw [if_neg q1_0, if_neg q1_1, if_pos q1_2]⟩) dX12_count_50
  by_cases q1_3 : w = (nI 3)
  · skip
    refine lv_tableIn (off := 50) (tgt := 51) hx hb dX12_count_1 (by rw [q1_3]; decide) (by rw [q1_3]; decide) (by rw [q1_3]; rfl) (by decide) ?_
    refine lv_aload_n hx hb dX12_count_51 rfl (lv_at hl 0 rfl) ?_
    refine z_get (C := RX12) (T := TX12) (N := 51) (ci := 12) (v := .int (x.1 77 14)) hx hb hts hin12 hown hK hI (zo77 hG) rfl 14 (by decide) wF54 (fun _ h9 => h9) rfl dX12_count_52 ?_
    exact z_iret hx hb hr hlocks hI (⟨rfl, by rw [if_neg q1_0, if_neg q1_1, if_neg q1_2, if_pos q1_3]⟩) dX12_count_55
  by_cases q1_4 : w = (nI 4)
  · skip
    refine lv_tableIn (off := 55) (tgt := 56) hx hb dX12_count_1 (by rw [q1_4]; decide) (by rw [q1_4]; decide) (by rw [q1_4]; rfl) (by decide) ?_
    refine lv_aload_n hx hb dX12_count_56 rfl (lv_at hl 0 rfl) ?_
    refine z_get (C := RX12) (T := TX12) (N := 51) (ci := 12) (v := .int (x.1 77 45)) hx hb hts hin12 hown hK hI (zo77 hG) rfl 45 (by decide) wF148 (fun _ h9 => h9) rfl dX12_count_57 ?_
    exact z_iret hx hb hr hlocks hI (⟨rfl, by rw [if_neg q1_0, if_neg q1_1, if_neg q1_2, if_neg q1_3, if_pos q1_4]⟩) dX12_count_60
  refine lv_tableOut (tgt := 61) hx hb dX12_count_1 (by have := lv_neT (a := 0) q1_0 rfl; have := lv_neT (a := 1) q1_1 rfl; have := lv_neT (a := 2) q1_2 rfl; have := lv_neT (a := 3) q1_3 rfl; have := lv_neT (a := 4) q1_4 rfl; omega) (by decide) ?_
  refine lv_bipush (v := (-2)) hx hb dX12_count_61 rfl ?_
  exact z_iret hx hb hr hlocks hI (⟨rfl, by rw [if_neg q1_0, if_neg q1_1, if_neg q1_2, if_neg q1_3, if_neg q1_4]⟩) dX12_count_63
