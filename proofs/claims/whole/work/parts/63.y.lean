set_option maxHeartbeats 1000000 in
set_option maxRecDepth 100000 in
theorem c_X5_look (l : Launch) {G : zG} (hG : zOK G) (x : zX) (N b p1 q1 : Nat) (row : Int32) (hn : zNow G x N) (hb0 : zRm b) (hp : p1 < N) (hq9 : q1 < N) : zMv l yX5_look wsX5_look { frames := 1, cells := 0, slots := 0, locals := 40 } G [.ref (za G b), .ref (za G (zob x p1)), .ref (za G (zob x q1)), .int row, .ref (za G 1)] x (fun (u : zX) => zlook x b p1 q1 row = u) := by
  intro A
  refine zBody (cc := cX5_look) (maxL := 5) (ret := none) (by decide) rfl (Nat.le_of_ble_eq_true rfl) ?_
  intro p e s m below meth c hx hb hml hown hts hr hlocks hK hN hI ls hl
  have hown : s.vm.findClass RX5 = some m.cls := hown
  have hl : lv_has ls 5 [(0, .ref (za G b)), (1, .ref (za G (zob x p1))), (2, .ref (za G (zob x q1))), (3, .int row), (4, .ref (za G 1))] := hl
  have hin0 : ∀ w ∈ wsX00, w ∈ wsX5_look := (fun _ h => List.mem_cons_of_mem _ (List.mem_append_left _ (List.mem_append_left _ (List.mem_append_left _ (List.mem_append_left _ (List.mem_append_left _ (List.mem_append_left _ (List.mem_append_left _ (List.mem_append_right _ (h))))))))))
  have hin1 : ∀ w ∈ wsX10, w ∈ wsX5_look := (fun _ h => List.mem_cons_of_mem _ (List.mem_append_left _ (List.mem_append_left _ (List.mem_append_left _ (List.mem_append_left _ (List.mem_append_left _ (List.mem_append_left _ (List.mem_append_right _ (h)))))))))
  have hin2 : ∀ w ∈ wsX20, w ∈ wsX5_look := (fun _ h => List.mem_cons_of_mem _ (List.mem_append_left _ (List.mem_append_left _ (List.mem_append_left _ (List.mem_append_left _ (List.mem_append_left _ (List.mem_append_right _ (h))))))))
  have hin3 : ∀ w ∈ wsX30, w ∈ wsX5_look := (fun _ h => List.mem_cons_of_mem _ (List.mem_append_left _ (List.mem_append_left _ (List.mem_append_left _ (List.mem_append_left _ (List.mem_append_right _ (h)))))))
  have hin4 : ∀ w ∈ wsX40, w ∈ wsX5_look := (fun _ h => List.mem_cons_of_mem _ (List.mem_append_left _ (List.mem_append_left _ (List.mem_append_left _ (List.mem_append_right _ (h))))))
  have hin5 : ∀ w ∈ wsX50, w ∈ wsX5_look := (fun _ h => List.mem_cons_of_mem _ (List.mem_append_left _ (List.mem_append_left _ (List.mem_append_left _ (List.mem_append_left _ (List.mem_append_left _ (List.mem_append_left _ (List.mem_append_left _ (List.mem_append_left _ (List.mem_append_right _ (h)))))))))))
  have hin8 : ∀ w ∈ wsX80, w ∈ wsX5_look := (fun _ h => List.mem_cons_of_mem _ (List.mem_append_left _ (List.mem_append_left _ (List.mem_append_right _ (h)))))
  have hin10 : ∀ w ∈ wsX100, w ∈ wsX5_look := (fun _ h => List.mem_cons_of_mem _ (List.mem_append_left _ (List.mem_append_right _ (h))))
  have wF32 := hts (.fieldLink RX5 32 "WhoSitsBy$Room" "facts" "[I") (z_mem 1 rfl)
  have wF152 := hts (.fieldLink RX5 152 "WhoSitsBy$Pupil" "number" "I") (z_mem 2 rfl)
  have wF155 := hts (.fieldLink RX5 155 "WhoSitsBy$Pupil" "knowing" "I") (z_mem 3 rfl)
  have wM41 := hts (.methodLink RX5 41 Lib.Math.max.name) (z_mem 4 rfl)
  have wMs41 := hts (.static Lib.Math.max.name) (z_mem 5 rfl)
  have wMi := hts (.initialized "java/lang/Math") (z_mem 6 rfl)
  have wMc41 := hts (.code Lib.Math.max.name Lib.Math.max.code 2 (some .int)) (z_mem 7 rfl)
  have wF158 := hts (.fieldLink RX5 158 "WhoSitsBy$Pupil" "talkative" "I") (z_mem 8 rfl)
  have wF161 := hts (.fieldLink RX5 161 "WhoSitsBy$Pupil" "tongue" "I") (z_mem 9 rfl)
  have h8 := hn.1
  have hrb := zRm_b hb0
  have hp6 : zob x p1 ≠ b + 6 := by have h9 := (hn.2.2.1 p1 hp).2.1; omega
  have hq6 : zob x q1 ≠ b + 6 := by have h9 := (hn.2.2.1 q1 hq9).2.1; omega
  have h56 : 5 ≠ b + 6 := by omega
  refine lv_aload_n hx hb dX5_look_0 rfl (lv_at hl 0 rfl) ?_
  refine z_get (C := RX5) (T := TX5) (N := 11) (ci := 5) (v := .ref (za G (b + 6))) hx hb hts hin5 hown hK hI (zor hG hb0) rfl 10 (by decide) wF32 (fun _ h9 => h9) rfl dX5_look_1 ?_
  refine lv_iconst (v := (nI 0)) hx hb dX5_look_4 rfl ?_
  refine lv_aload_n hx hb dX5_look_5 rfl (lv_at hl 1 rfl) ?_
  refine z_getP hx hb hts ⟨hin0, hin1, hin2, hin3, hin4, hin8, hin10⟩ hown hK hG hI (hn.2.2.1 p1 hp).2.1 (hn.2.2.1 p1 hp).2.2.1 0 (by decide) wF152 (fun _ h9 => h9) dX5_look_6 ?_
  rw [show (x.1 (zob x p1) 0) = nI p1 from (hn.2.2.1 p1 hp).2.2.2]
  refine z_iast (y := (nI p1)) hx hb hK hI (zor6 hG hb0) 0 rfl (by decide) (by decide) dX5_look_9 (fun H locs hI => ?_)
  refine lv_aload_n hx hb dX5_look_10 rfl (lv_at hl 0 rfl) ?_
  refine z_get (C := RX5) (T := TX5) (N := 11) (ci := 5) (v := .ref (za G (b + 6))) hx hb hts hin5 hown hK hI (zor hG hb0) rfl 10 (by decide) wF32 (fun _ h9 => h9) rfl dX5_look_11 ?_
  refine lv_iconst (v := (nI 1)) hx hb dX5_look_14 rfl ?_
  refine lv_aload_n hx hb dX5_look_15 rfl (lv_at hl 2 rfl) ?_
  refine z_getP hx hb hts ⟨hin0, hin1, hin2, hin3, hin4, hin8, hin10⟩ hown hK hG hI (hn.2.2.1 q1 hq9).2.1 (hn.2.2.1 q1 hq9).2.2.1 0 (by decide) wF152 (fun _ h9 => h9) dX5_look_16 ?_
  rw [show ((zsI x (b + 6) 0 (nI p1)).1 (zob x q1) 0) = nI q1 from (by rw [zsI_n hq6]; exact (hn.2.2.1 q1 hq9).2.2.2)]
  refine z_iast (y := (nI q1)) hx hb hK hI (zor6 hG hb0) 1 rfl (by decide) (by decide) dX5_look_19 (fun H locs hI => ?_)
  refine lv_aload_n hx hb dX5_look_20 rfl (lv_at hl 0 rfl) ?_
  refine z_get (C := RX5) (T := TX5) (N := 11) (ci := 5) (v := .ref (za G (b + 6))) hx hb hts hin5 hown hK hI (zor hG hb0) rfl 10 (by decide) wF32 (fun _ h9 => h9) rfl dX5_look_21 ?_
  refine lv_iconst (v := (nI 2)) hx hb dX5_look_24 rfl ?_
  refine lv_iconst (v := (nI 0)) hx hb dX5_look_25 rfl ?_
  refine lv_aload_n hx hb dX5_look_26 rfl (lv_at hl 2 rfl) ?_
  refine z_getP hx hb hts ⟨hin0, hin1, hin2, hin3, hin4, hin8, hin10⟩ hown hK hG hI (hn.2.2.1 q1 hq9).2.1 (hn.2.2.1 q1 hq9).2.2.1 3 (by decide) wF155 (fun _ h9 => h9) dX5_look_27 ?_
  rw [show ((zsI (zsI x (b + 6) 0 (nI p1)) (b + 6) 1 (nI q1)).1 (zob x q1) 3) = (x.1 (zob x q1) 3) from (by rw [zsI_n hq6, zsI_n hq6])]
  refine lv_aload_n hx hb dX5_look_30 rfl (lv_at hl 1 rfl) ?_
  refine z_getP hx hb hts ⟨hin0, hin1, hin2, hin3, hin4, hin8, hin10⟩ hown hK hG hI (hn.2.2.1 p1 hp).2.1 (hn.2.2.1 p1 hp).2.2.1 3 (by decide) wF155 (fun _ h9 => h9) dX5_look_31 ?_
  rw [show ((zsI (zsI x (b + 6) 0 (nI p1)) (b + 6) 1 (nI q1)).1 (zob x p1) 3) = (x.1 (zob x p1) 3) from (by rw [zsI_n hp6, zsI_n hp6])]
  refine lv_isub hx hb dX5_look_34 ?_
  refine va_mmax hx hb (hml.trans hl.1.symm) hown wM41 wMs41 wMi wMc41 (Nat.le_of_ble_eq_true rfl) (Nat.le_of_ble_eq_true rfl) (Nat.zero_le _) (Nat.zero_le _) dX5_look_35 ?_
  refine z_iast (y := (if (nI 0) < ((x.1 (zob x q1) 3) - (x.1 (zob x p1) 3)) then ((x.1 (zob x q1) 3) - (x.1 (zob x p1) 3)) else (nI 0))) hx hb hK hI (zor6 hG hb0) 2 rfl (by decide) (by decide) dX5_look_38 (fun H locs hI => ?_)
  refine lv_aload_n hx hb dX5_look_39 rfl (lv_at hl 0 rfl) ?_
  refine z_get (C := RX5) (T := TX5) (N := 11) (ci := 5) (v := .ref (za G (b + 6))) hx hb hts hin5 hown hK hI (zor hG hb0) rfl 10 (by decide) wF32 (fun _ h9 => h9) rfl dX5_look_40 ?_
  refine lv_iconst (v := (nI 3)) hx hb dX5_look_43 rfl ?_
  refine lv_aload_n hx hb dX5_look_44 rfl (lv_at hl 1 rfl) ?_
  refine z_getP hx hb hts ⟨hin0, hin1, hin2, hin3, hin4, hin8, hin10⟩ hown hK hG hI (hn.2.2.1 p1 hp).2.1 (hn.2.2.1 p1 hp).2.2.1 2 (by decide) wF158 (fun _ h9 => h9) dX5_look_45 ?_
  rw [show ((zsI (zsI (zsI x (b + 6) 0 (nI p1)) (b + 6) 1 (nI q1)) (b + 6) 2 (if (nI 0) < ((x.1 (zob x q1) 3) - (x.1 (zob x p1) 3)) then ((x.1 (zob x q1) 3) - (x.1 (zob x p1) 3)) else (nI 0))).1 (zob x p1) 2) = (x.1 (zob x p1) 2) from (by rw [zsI_n hp6, zsI_n hp6, zsI_n hp6])]
  refine lv_aload_n hx hb dX5_look_48 rfl (lv_at hl 2 rfl) ?_
  refine z_getP hx hb hts ⟨hin0, hin1, hin2, hin3, hin4, hin8, hin10⟩ hown hK hG hI (hn.2.2.1 q1 hq9).2.1 (hn.2.2.1 q1 hq9).2.2.1 2 (by decide) wF158 (fun _ h9 => h9) dX5_look_49 ?_
  rw [show ((zsI (zsI (zsI x (b + 6) 0 (nI p1)) (b + 6) 1 (nI q1)) (b + 6) 2 (if (nI 0) < ((x.1 (zob x q1) 3) - (x.1 (zob x p1) 3)) then ((x.1 (zob x q1) 3) - (x.1 (zob x p1) 3)) else (nI 0))).1 (zob x q1) 2) = (x.1 (zob x q1) 2) from (by rw [zsI_n hq6, zsI_n hq6, zsI_n hq6])]
  refine lv_iadd hx hb dX5_look_52 ?_
  refine z_iast (y := ((x.1 (zob x p1) 2) + (x.1 (zob x q1) 2))) hx hb hK hI (zor6 hG hb0) 3 rfl (by decide) (by decide) dX5_look_53 (fun H locs hI => ?_)
  refine lv_aload_n hx hb dX5_look_54 rfl (lv_at hl 0 rfl) ?_
  refine z_get (C := RX5) (T := TX5) (N := 11) (ci := 5) (v := .ref (za G (b + 6))) hx hb hts hin5 hown hK hI (zor hG hb0) rfl 10 (by decide) wF32 (fun _ h9 => h9) rfl dX5_look_55 ?_
  refine lv_iconst (v := (nI 4)) hx hb dX5_look_58 rfl ?_
  have J59 : ∀ (jv : Int32), jv = (if x.1 (zob x p1) 4 = x.1 (zob x q1) 4 then nI 1 else nI 0) → ∀ (H : Heap) (locs : List Loc), zI G (zsI (zsI (zsI (zsI x (b + 6) 0 (nI p1)) (b + 6) 1 (nI q1)) (b + 6) 2 (if (nI 0) < ((x.1 (zob x q1) 3) - (x.1 (zob x p1) 3)) then ((x.1 (zob x q1) 3) - (x.1 (zob x p1) 3)) else (nI 0))) (b + 6) 3 ((x.1 (zob x p1) 2) + (x.1 (zob x q1) 2))) A s.heap H locs → W p l e { frames := 1, cells := 0, slots := 0, locals := 40 } s m ([.ref (za G b), .ref (za G (zob x p1)), .ref (za G (zob x q1)), .int row, .ref (za G 1)] : List Value).toArray below meth c H locs 0 0 (MQ below (va_Qv (fun (u : zX) => zlook x b p1 q1 row = u) (fun u t => zJ G u A t.heap) A) ([.ref (za G b), .ref (za G (zob x p1)), .ref (za G (zob x q1)), .int row, .ref (za G 1)] : List Value).toArray s 0 0 A) (F0 m 75 ls [.int jv, .int (nI 4), .ref (za G (b + 6))]) := by
    intro jv hjv H locs hI
    subst hjv
    refine z_iast (y := (if x.1 (zob x p1) 4 = x.1 (zob x q1) 4 then nI 1 else nI 0)) hx hb hK hI (zor6 hG hb0) 4 rfl (by decide) (by decide) dX5_look_75 (fun H locs hI => ?_)
    refine lv_aload_n hx hb dX5_look_76 rfl (lv_at hl 0 rfl) ?_
    refine z_get (C := RX5) (T := TX5) (N := 11) (ci := 5) (v := .ref (za G (b + 6))) hx hb hts hin5 hown hK hI (zor hG hb0) rfl 10 (by decide) wF32 (fun _ h9 => h9) rfl dX5_look_77 ?_
    refine lv_iconst (v := (nI 5)) hx hb dX5_look_80 rfl ?_
    have J81 : ∀ (jv : Int32), jv = (if znm x p1 q1 then nI 1 else nI 0) → ∀ (H : Heap) (locs : List Loc), zI G (zsI (zsI (zsI (zsI (zsI x (b + 6) 0 (nI p1)) (b + 6) 1 (nI q1)) (b + 6) 2 (if (nI 0) < ((x.1 (zob x q1) 3) - (x.1 (zob x p1) 3)) then ((x.1 (zob x q1) 3) - (x.1 (zob x p1) 3)) else (nI 0))) (b + 6) 3 ((x.1 (zob x p1) 2) + (x.1 (zob x q1) 2))) (b + 6) 4 (if x.1 (zob x p1) 4 = x.1 (zob x q1) 4 then nI 1 else nI 0)) A s.heap H locs → W p l e { frames := 1, cells := 0, slots := 0, locals := 40 } s m ([.ref (za G b), .ref (za G (zob x p1)), .ref (za G (zob x q1)), .int row, .ref (za G 1)] : List Value).toArray below meth c H locs 0 0 (MQ below (va_Qv (fun (u : zX) => zlook x b p1 q1 row = u) (fun u t => zJ G u A t.heap) A) ([.ref (za G b), .ref (za G (zob x p1)), .ref (za G (zob x q1)), .int row, .ref (za G 1)] : List Value).toArray s 0 0 A) (F0 m 102 ls [.int jv, .int (nI 5), .ref (za G (b + 6))]) := by
      intro jv hjv H locs hI
      subst hjv
      have J102 : ∀ (jv : Int32), jv = (if znm x q1 p1 then nI 1 else nI 0) → ∀ (H : Heap) (locs : List Loc), zI G (zsI (zsI (zsI (zsI (zsI x (b + 6) 0 (nI p1)) (b + 6) 1 (nI q1)) (b + 6) 2 (if (nI 0) < ((x.1 (zob x q1) 3) - (x.1 (zob x p1) 3)) then ((x.1 (zob x q1) 3) - (x.1 (zob x p1) 3)) else (nI 0))) (b + 6) 3 ((x.1 (zob x p1) 2) + (x.1 (zob x q1) 2))) (b + 6) 4 (if x.1 (zob x p1) 4 = x.1 (zob x q1) 4 then nI 1 else nI 0)) A s.heap H locs → W p l e { frames := 1, cells := 0, slots := 0, locals := 40 } s m ([.ref (za G b), .ref (za G (zob x p1)), .ref (za G (zob x q1)), .int row, .ref (za G 1)] : List Value).toArray below meth c H locs 0 0 (MQ below (va_Qv (fun (u : zX) => zlook x b p1 q1 row = u) (fun u t => zJ G u A t.heap) A) ([.ref (za G b), .ref (za G (zob x p1)), .ref (za G (zob x q1)), .int row, .ref (za G 1)] : List Value).toArray s 0 0 A) (F0 m 123 ls [.int jv, .int (if znm x p1 q1 then nI 1 else nI 0), .int (nI 5), .ref (za G (b + 6))]) := by
        intro jv hjv H locs hI
        subst hjv
        refine lv_iadd hx hb dX5_look_123 ?_
        refine z_iast (y := ((if znm x p1 q1 then nI 1 else nI 0) + (if znm x q1 p1 then nI 1 else nI 0))) hx hb hK hI (zor6 hG hb0) 5 rfl (by decide) (by decide) dX5_look_124 (fun H locs hI => ?_)
        refine lv_aload_n hx hb dX5_look_125 rfl (lv_at hl 0 rfl) ?_
        refine z_get (C := RX5) (T := TX5) (N := 11) (ci := 5) (v := .ref (za G (b + 6))) hx hb hts hin5 hown hK hI (zor hG hb0) rfl 10 (by decide) wF32 (fun _ h9 => h9) rfl dX5_look_126 ?_
        refine lv_bipush (v := (nI 6)) hx hb dX5_look_129 rfl ?_
        refine lv_iload_n hx hb dX5_look_131 rfl (lv_at hl 3 rfl) ?_
        refine z_iast (y := row) hx hb hK hI (zor6 hG hb0) 6 rfl (by decide) (by decide) dX5_look_132 (fun H locs hI => ?_)
        exact z_vret hx hb hr hlocks hI (rfl) dX5_look_133
      refine lv_aload hx hb dX5_look_102 (lv_at hl 4 rfl) ?_
      refine lv_aload_n hx hb dX5_look_104 rfl (lv_at hl 2 rfl) ?_
      refine z_getP hx hb hts ⟨hin0, hin1, hin2, hin3, hin4, hin8, hin10⟩ hown hK hG hI (hn.2.2.1 q1 hq9).2.1 (hn.2.2.1 q1 hq9).2.2.1 0 (by decide) wF152 (fun _ h9 => h9) dX5_look_105 ?_
      rw [show ((zsI (zsI (zsI (zsI (zsI x (b + 6) 0 (nI p1)) (b + 6) 1 (nI q1)) (b + 6) 2 (if (nI 0) < ((x.1 (zob x q1) 3) - (x.1 (zob x p1) 3)) then ((x.1 (zob x q1) 3) - (x.1 (zob x p1) 3)) else (nI 0))) (b + 6) 3 ((x.1 (zob x p1) 2) + (x.1 (zob x q1) 2))) (b + 6) 4 (if x.1 (zob x p1) 4 = x.1 (zob x q1) 4 then nI 1 else nI 0)).1 (zob x q1) 0) = nI q1 from (by rw [zsI_n hq6, zsI_n hq6, zsI_n hq6, zsI_n hq6, zsI_n hq6]; exact (hn.2.2.1 q1 hq9).2.2.2)]
      refine lv_aload_n hx hb dX5_look_108 rfl (lv_at hl 1 rfl) ?_
      refine z_getP hx hb hts ⟨hin0, hin1, hin2, hin3, hin4, hin8, hin10⟩ hown hK hG hI (hn.2.2.1 p1 hp).2.1 (hn.2.2.1 p1 hp).2.2.1 0 (by decide) wF152 (fun _ h9 => h9) dX5_look_109 ?_
      rw [show ((zsI (zsI (zsI (zsI (zsI x (b + 6) 0 (nI p1)) (b + 6) 1 (nI q1)) (b + 6) 2 (if (nI 0) < ((x.1 (zob x q1) 3) - (x.1 (zob x p1) 3)) then ((x.1 (zob x q1) 3) - (x.1 (zob x p1) 3)) else (nI 0))) (b + 6) 3 ((x.1 (zob x p1) 2) + (x.1 (zob x q1) 2))) (b + 6) 4 (if x.1 (zob x p1) 4 = x.1 (zob x q1) 4 then nI 1 else nI 0)).1 (zob x p1) 0) = nI p1 from (by rw [zsI_n hp6, zsI_n hp6, zsI_n hp6, zsI_n hp6, zsI_n hp6]; exact (hn.2.2.1 p1 hp).2.2.2)]
      refine z_calli (va_runV (As := [.int (nI q1), .int (nI p1)]) (rest := [.int (if znm x p1 q1 then nI 1 else nI 0), .int (nI 5), .ref (za G (b + 6))]) ⟨hx, hb, hml, hown, hts⟩ ((c_X7_isNaming l hG (zsI (zsI (zsI (zsI (zsI x (b + 6) 0 (nI p1)) (b + 6) 1 (nI q1)) (b + 6) 2 (if (nI 0) < ((x.1 (zob x q1) 3) - (x.1 (zob x p1) 3)) then ((x.1 (zob x q1) 3) - (x.1 (zob x p1) 3)) else (nI 0))) (b + 6) 3 ((x.1 (zob x p1) 2) + (x.1 (zob x q1) 2))) (b + 6) 4 (if x.1 (zob x p1) 4 = x.1 (zob x q1) 4 then nI 1 else nI 0)) N q1 (nI p1) (zNow_6 hb0 (zNow_6 hb0 (zNow_6 hb0 (zNow_6 hb0 (zNow_6 hb0 hn))))) (by omega)) A) (cwV 2 hts gX5_look_X7_isNaming rfl rfl rfl (by decide +kernel) ⟨Nat.le_of_ble_eq_true rfl, Nat.le_of_ble_eq_true rfl⟩) (z_pV hI hK hN (z_recv hK hI (zo1 hG) rfl)) rfl rfl hl.1 rfl (lv_room (Nat.le_of_ble_eq_true rfl)) dX5_look_112 ⟨Nat.zero_le _, Nat.zero_le _⟩) hI (fun r_112 u H locs hw hI => ?_)
      obtain ⟨rfl, rfl⟩ := hw
      refine lv_if_eq (tgt := 122) hx hb dX5_look_115 (by decide) (fun c_115 => ?_) (fun c_115 => ?_)
      · skip
        rw [zb_0] at c_115
        refine lv_iconst (v := (nI 0)) hx hb dX5_look_122 rfl ?_
        exact J102 _ (if_neg (fun h : znm x q1 p1 => c_115 ⟨h.1, by rw [zsI_n h56, zsI_n h56, zsI_n h56, zsI_n h56, zsI_n h56]; exact h.2⟩)).symm _ _ hI
      · skip
        rw [zb_0, Classical.not_not] at c_115
        refine lv_iconst (v := (nI 1)) hx hb dX5_look_118 rfl ?_
        refine lv_goto (tgt := 123) hx hb dX5_look_119 (by decide) ?_
        exact J102 _ (if_pos (show znm x q1 p1 from ⟨c_115.1, by have h9 := c_115.2; rw [zsI_n h56, zsI_n h56, zsI_n h56, zsI_n h56, zsI_n h56] at h9; exact h9⟩)).symm _ _ hI
    refine lv_aload hx hb dX5_look_81 (lv_at hl 4 rfl) ?_
    refine lv_aload_n hx hb dX5_look_83 rfl (lv_at hl 1 rfl) ?_
    refine z_getP hx hb hts ⟨hin0, hin1, hin2, hin3, hin4, hin8, hin10⟩ hown hK hG hI (hn.2.2.1 p1 hp).2.1 (hn.2.2.1 p1 hp).2.2.1 0 (by decide) wF152 (fun _ h9 => h9) dX5_look_84 ?_
    rw [show ((zsI (zsI (zsI (zsI (zsI x (b + 6) 0 (nI p1)) (b + 6) 1 (nI q1)) (b + 6) 2 (if (nI 0) < ((x.1 (zob x q1) 3) - (x.1 (zob x p1) 3)) then ((x.1 (zob x q1) 3) - (x.1 (zob x p1) 3)) else (nI 0))) (b + 6) 3 ((x.1 (zob x p1) 2) + (x.1 (zob x q1) 2))) (b + 6) 4 (if x.1 (zob x p1) 4 = x.1 (zob x q1) 4 then nI 1 else nI 0)).1 (zob x p1) 0) = nI p1 from (by rw [zsI_n hp6, zsI_n hp6, zsI_n hp6, zsI_n hp6, zsI_n hp6]; exact (hn.2.2.1 p1 hp).2.2.2)]
    refine lv_aload_n hx hb dX5_look_87 rfl (lv_at hl 2 rfl) ?_
    refine z_getP hx hb hts ⟨hin0, hin1, hin2, hin3, hin4, hin8, hin10⟩ hown hK hG hI (hn.2.2.1 q1 hq9).2.1 (hn.2.2.1 q1 hq9).2.2.1 0 (by decide) wF152 (fun _ h9 => h9) dX5_look_88 ?_
    rw [show ((zsI (zsI (zsI (zsI (zsI x (b + 6) 0 (nI p1)) (b + 6) 1 (nI q1)) (b + 6) 2 (if (nI 0) < ((x.1 (zob x q1) 3) - (x.1 (zob x p1) 3)) then ((x.1 (zob x q1) 3) - (x.1 (zob x p1) 3)) else (nI 0))) (b + 6) 3 ((x.1 (zob x p1) 2) + (x.1 (zob x q1) 2))) (b + 6) 4 (if x.1 (zob x p1) 4 = x.1 (zob x q1) 4 then nI 1 else nI 0)).1 (zob x q1) 0) = nI q1 from (by rw [zsI_n hq6, zsI_n hq6, zsI_n hq6, zsI_n hq6, zsI_n hq6]; exact (hn.2.2.1 q1 hq9).2.2.2)]
    refine z_calli (va_runV (As := [.int (nI p1), .int (nI q1)]) (rest := [.int (nI 5), .ref (za G (b + 6))]) ⟨hx, hb, hml, hown, hts⟩ ((c_X7_isNaming l hG (zsI (zsI (zsI (zsI (zsI x (b + 6) 0 (nI p1)) (b + 6) 1 (nI q1)) (b + 6) 2 (if (nI 0) < ((x.1 (zob x q1) 3) - (x.1 (zob x p1) 3)) then ((x.1 (zob x q1) 3) - (x.1 (zob x p1) 3)) else (nI 0))) (b + 6) 3 ((x.1 (zob x p1) 2) + (x.1 (zob x q1) 2))) (b + 6) 4 (if x.1 (zob x p1) 4 = x.1 (zob x q1) 4 then nI 1 else nI 0)) N p1 (nI q1) (zNow_6 hb0 (zNow_6 hb0 (zNow_6 hb0 (zNow_6 hb0 (zNow_6 hb0 hn))))) (by omega)) A) (cwV 2 hts gX5_look_X7_isNaming rfl rfl rfl (by decide +kernel) ⟨Nat.le_of_ble_eq_true rfl, Nat.le_of_ble_eq_true rfl⟩) (z_pV hI hK hN (z_recv hK hI (zo1 hG) rfl)) rfl rfl hl.1 rfl (lv_room (Nat.le_of_ble_eq_true rfl)) dX5_look_91 ⟨Nat.zero_le _, Nat.zero_le _⟩) hI (fun r_91 u H locs hw hI => ?_)
    obtain ⟨rfl, rfl⟩ := hw
    refine lv_if_eq (tgt := 101) hx hb dX5_look_94 (by decide) (fun c_94 => ?_) (fun c_94 => ?_)
    · skip
      rw [zb_0] at c_94
      refine lv_iconst (v := (nI 0)) hx hb dX5_look_101 rfl ?_
      exact J81 _ (if_neg (fun h : znm x p1 q1 => c_94 ⟨h.1, by rw [zsI_n h56, zsI_n h56, zsI_n h56, zsI_n h56, zsI_n h56]; exact h.2⟩)).symm _ _ hI
    · skip
      rw [zb_0, Classical.not_not] at c_94
      refine lv_iconst (v := (nI 1)) hx hb dX5_look_97 rfl ?_
      refine lv_goto (tgt := 102) hx hb dX5_look_98 (by decide) ?_
      exact J81 _ (if_pos (show znm x p1 q1 from ⟨c_94.1, by have h9 := c_94.2; rw [zsI_n h56, zsI_n h56, zsI_n h56, zsI_n h56, zsI_n h56] at h9; exact h9⟩)).symm _ _ hI
  refine lv_aload_n hx hb dX5_look_59 rfl (lv_at hl 1 rfl) ?_
  refine z_getP hx hb hts ⟨hin0, hin1, hin2, hin3, hin4, hin8, hin10⟩ hown hK hG hI (hn.2.2.1 p1 hp).2.1 (hn.2.2.1 p1 hp).2.2.1 4 (by decide) wF161 (fun _ h9 => h9) dX5_look_60 ?_
  rw [show ((zsI (zsI (zsI (zsI x (b + 6) 0 (nI p1)) (b + 6) 1 (nI q1)) (b + 6) 2 (if (nI 0) < ((x.1 (zob x q1) 3) - (x.1 (zob x p1) 3)) then ((x.1 (zob x q1) 3) - (x.1 (zob x p1) 3)) else (nI 0))) (b + 6) 3 ((x.1 (zob x p1) 2) + (x.1 (zob x q1) 2))).1 (zob x p1) 4) = (x.1 (zob x p1) 4) from (by rw [zsI_n hp6, zsI_n hp6, zsI_n hp6, zsI_n hp6])]
  refine lv_aload_n hx hb dX5_look_63 rfl (lv_at hl 2 rfl) ?_
  refine z_getP hx hb hts ⟨hin0, hin1, hin2, hin3, hin4, hin8, hin10⟩ hown hK hG hI (hn.2.2.1 q1 hq9).2.1 (hn.2.2.1 q1 hq9).2.2.1 4 (by decide) wF161 (fun _ h9 => h9) dX5_look_64 ?_
  rw [show ((zsI (zsI (zsI (zsI x (b + 6) 0 (nI p1)) (b + 6) 1 (nI q1)) (b + 6) 2 (if (nI 0) < ((x.1 (zob x q1) 3) - (x.1 (zob x p1) 3)) then ((x.1 (zob x q1) 3) - (x.1 (zob x p1) 3)) else (nI 0))) (b + 6) 3 ((x.1 (zob x p1) 2) + (x.1 (zob x q1) 2))).1 (zob x q1) 4) = (x.1 (zob x q1) 4) from (by rw [zsI_n hq6, zsI_n hq6, zsI_n hq6, zsI_n hq6])]
  refine lv_icmp_ne (tgt := 74) hx hb dX5_look_67 (by decide) (fun c_67 => ?_) (fun c_67 => ?_)
  · skip
    refine lv_iconst (v := (nI 0)) hx hb dX5_look_74 rfl ?_
    exact J59 _ (if_neg c_67).symm _ _ hI
  · skip
    refine lv_iconst (v := (nI 1)) hx hb dX5_look_70 rfl ?_
    refine lv_goto (tgt := 75) hx hb dX5_look_71 (by decide) ?_
    exact J59 _ (if_pos c_67).symm _ _ hI
