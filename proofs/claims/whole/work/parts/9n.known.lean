/-! WHAT IS KNOWN AT THE START: classes, arrays' classes, links, texts -/
theorem z_arr {s : State} {args : Array Value} {ty : FieldType} (h : (Cond.arrayClass ty).before args s = true) : ∃ c : ClassId, ArrOfT s c ty ∧ s.vm.findClass ("[" ++ ty.toString) = some c := by
  obtain ⟨c, k, comp, h1, h2, h3⟩ := Cond.arrayClass_spec h
  exact ⟨c, fun n z => ⟨fun k h => (by cases h), k, h2, comp, h3⟩, h1⟩
theorem z_arro {s : State} {C : String} (h : va_AO C s) : ∃ c : ClassId, ArrOfT s c (.object C) ∧ va_RA s c (.object C) := by
  obtain ⟨comp, c, k, h1, h2, h3, h4, h5⟩ := Cond.arrayOver_spec h
  exact ⟨c, fun n z => ⟨fun k h => (by cases h), k, h3, comp, h4⟩, k, comp, h3, h4, h1, h5⟩
theorem z_arra {s : State} {ty : FieldType} (h : va_AOA ty s) : ∃ c : ClassId, ArrOfT s c (.array ty) ∧ s.vm.findClass ("[" ++ (FieldType.array ty).toString) = some c := by
  obtain ⟨comp, c, k, h1, h3, h4, h5⟩ := Cond.arrayOver_specA h
  exact ⟨c, fun n z => ⟨fun k h => (by cases h), k, h3, comp, h4⟩, h5⟩
theorem z_known {s : State} {b : Nat} (hts : ∀ w ∈ lw_tbl, w.before #[.ref b] s = true) : ∃ (D : va_G) (T : Nat → ClassId), va_K D vwCl (zTs T) s ∧ zAs s := by
  obtain ⟨c0, i0, k0⟩ := u_known (C := RX0) (T := TX0) (N := 5) (n := 5) hts t_wsX00 (hts (.instantiable RX0 5) (by decide +kernel))
  obtain ⟨c1, i1, k1⟩ := u_known (C := RX1) (T := TX1) (N := 5) (n := 5) hts t_wsX10 (hts (.instantiable RX1 5) (by decide +kernel))
  obtain ⟨c2, i2, k2⟩ := u_known (C := RX2) (T := TX2) (N := 5) (n := 5) hts t_wsX20 (hts (.instantiable RX2 5) (by decide +kernel))
  obtain ⟨c3, i3, k3⟩ := u_known (C := RX3) (T := TX3) (N := 5) (n := 5) hts t_wsX30 (hts (.instantiable RX3 5) (by decide +kernel))
  obtain ⟨c4, i4, k4⟩ := u_known (C := RX4) (T := TX4) (N := 5) (n := 5) hts t_wsX40 (hts (.instantiable RX4 5) (by decide +kernel))
  obtain ⟨c5, i5, k5⟩ := u_known (C := RX5) (T := TX5) (N := 11) (n := 11) hts t_wsX50 (hts (.instantiable RX5 11) (by decide +kernel))
  obtain ⟨c6, i6, k6⟩ := u_known (C := RX6) (T := TX6) (N := 8) (n := 8) hts t_wsX60 (hts (.instantiable RX6 8) (by decide +kernel))
  obtain ⟨c7, i7, k7⟩ := u_known (C := RX7) (T := TX7) (N := 7) (n := 7) hts t_wsX70 (hts (.instantiable RX7 7) (by decide +kernel))
  obtain ⟨c8, i8, k8⟩ := u_known (C := RX8) (T := TX8) (N := 5) (n := 5) hts t_wsX80 (hts (.instantiable RX8 5) (by decide +kernel))
  obtain ⟨c9, i9, k9⟩ := u_known (C := RX9) (T := TX9) (N := 2) (n := 2) hts t_wsX90 (hts (.instantiable RX9 2) (by decide +kernel))
  obtain ⟨c10, i10, k10⟩ := u_known (C := RX10) (T := TX10) (N := 5) (n := 5) hts t_wsX100 (hts (.instantiable RX10 5) (by decide +kernel))
  obtain ⟨c11, i11, k11⟩ := u_known (C := RX11) (T := TX11) (N := 14) (n := 14) hts t_wsX110 (hts (.instantiable RX11 14) (by decide +kernel))
  obtain ⟨c12, i12, k12⟩ := u_known (C := RX12) (T := TX12) (N := 51) (n := 51) hts t_wsX120 (hts (.instantiable RX12 51) (by decide +kernel))
  have hAs : zAs s := ⟨va_AO.of (hts (.arrayOver (.object "WhoSitsBy$Pupil")) (by decide +kernel)), va_AO.of (hts (.arrayOver (.object "WhoSitsBy$Room")) (by decide +kernel)), hts (.arrayOver (.array .long)) (by decide +kernel)⟩
  obtain ⟨a0, u0, v0⟩ := z_arr (hts (.arrayClass .int) (by decide +kernel))
  obtain ⟨a1, u1, v1⟩ := z_arr (hts (.arrayClass .boolean) (by decide +kernel))
  obtain ⟨a2, u2, v2⟩ := z_arr (hts (.arrayClass .byte) (by decide +kernel))
  obtain ⟨a3, u3, v3⟩ := z_arr (hts (.arrayClass .long) (by decide +kernel))
  obtain ⟨a4, u4, v4⟩ := z_arro hAs.1
  obtain ⟨a5, u5, v5⟩ := z_arro hAs.2.1
  obtain ⟨a6, u6, v6⟩ := z_arra hAs.2.2
  refine ⟨(fun k => [c0, c1, c2, c3, c4, c5, c6, c7, c8, c9, c10, c11, c12].getD k c0, fun k => match k with | 0 => i0 | 1 => i1 | 2 => i2 | 3 => i3 | 4 => i4 | 5 => i5 | 6 => i6 | 7 => i7 | 8 => i8 | 9 => i9 | 10 => i10 | 11 => i11 | _ => i12), fun k => [a0, a1, a2, a3, a4, a5, a6].getD k a0, ⟨?_, ?_⟩, hAs⟩
  · intro k q hq
    match k, hq with
    | 0, hq => cases hq; exact k0
    | 1, hq => cases hq; exact k1
    | 2, hq => cases hq; exact k2
    | 3, hq => cases hq; exact k3
    | 4, hq => cases hq; exact k4
    | 5, hq => cases hq; exact k5
    | 6, hq => cases hq; exact k6
    | 7, hq => cases hq; exact k7
    | 8, hq => cases hq; exact k8
    | 9, hq => cases hq; exact k9
    | 10, hq => cases hq; exact k10
    | 11, hq => cases hq; exact k11
    | 12, hq => cases hq; exact k12
    | k + 13, hq => cases hq
  · intro k q hq
    match k, hq with
    | 0, hq => cases hq; exact ⟨u0, v0⟩
    | 1, hq => cases hq; exact ⟨u1, v1⟩
    | 2, hq => cases hq; exact ⟨u2, v2⟩
    | 3, hq => cases hq; exact ⟨u3, v3⟩
    | 4, hq => cases hq; exact ⟨u4, v4⟩
    | 5, hq => cases hq; exact ⟨u5, v5⟩
    | 6, hq => cases hq; exact ⟨u6, v6⟩
    | k + 7, hq => cases hq
def zFl1 : List Cond := flatC (Jvm.Cond.and given_1 narrow_1)
def ztm (i : Nat) : Term := .string RX5 ((zSl.getD i (0, "")).1)
theorem z_l1 : ∀ q ∈ zNl, (Cond.methodLinkNest q.1 q.2.1 q.2.2 "WhoSitsBy") ∈ lw_tbl := by decide +kernel
theorem z_l2 : ∀ q ∈ zCl, (Cond.castable q.1 q.2) ∈ lw_tbl := by decide +kernel
theorem z_l3 : ∀ q ∈ zXl, (Cond.not (Cond.castable q.1 q.2)) ∈ zFl1 := by decide +kernel
theorem z_l4 : ∀ w ∈ zWl, w ∈ lw_tbl := by decide +kernel
theorem z_l5 : ∀ q ∈ zSl, (Cond.stringRef RX5 q.1 q.2) ∈ lw_tbl := by decide +kernel
theorem z_l6 : ∀ i : Fin 6, Cond.exactly (ztm i.val) "java/lang/String" ∈ zFl1 := by decide +kernel
theorem z_l7 : ∀ i : Fin 6, (Cond.eq (.field (ztm i.val) "java/lang/String" "coder" "B") (.int 0)) ∈ zFl1 := by decide +kernel
theorem z_l8 : ∀ i : Fin 6, (Cond.arrayOf (.field (ztm i.val) "java/lang/String" "value" "[B") .byte) ∈ zFl1 := by decide +kernel
theorem z_l9 : ∀ i : Fin 6, (Cond.eq (.length (.field (ztm i.val) "java/lang/String" "value" "[B")) (.int (Int32.ofNat (zSlen.getD i.val 0)))) ∈ zFl1 := by decide +kernel
theorem z_l10 : ∀ i : Fin 6, ∀ j : Fin 7, j.val < zSlen.getD i.val 0 → (Cond.eq (.elem (.field (ztm i.val) "java/lang/String" "value" "[B") (.int (Int32.ofNat j.val))) (.int ((zSbyt.getD i.val []).getD j.val 0))) ∈ zFl1 := by decide +kernel
theorem z_l11 : ∀ i : Fin 6, ∀ j : Fin 6, i.val ≠ j.val → (Cond.not (Cond.eq (ztm i.val) (ztm j.val))) ∈ zFl1 ∨ (Cond.not (Cond.eq (ztm j.val) (ztm i.val))) ∈ zFl1 := by decide +kernel
theorem z_l12 : (Cond.eq (.static "java/lang/String" "COMPACT_STRINGS" "Z") (.int 1)) ∈ zFl1 ∧ (Cond.isRef (.static "jdk/internal/util/Preconditions" "SIOOBE_FORMATTER" "Ljava/util/function/BiFunction;")) ∈ zFl1 := by decide +kernel
theorem z_l13 : (Cond.laysStatic "java/lang/String" "COMPACT_STRINGS" "Z") ∈ lw_tbl ∧ (Cond.initialized "java/lang/String") ∈ lw_tbl ∧ (Cond.laysStatic "jdk/internal/util/Preconditions" "SIOOBE_FORMATTER" "Ljava/util/function/BiFunction;") ∈ lw_tbl ∧ (Cond.initialized "jdk/internal/util/Preconditions") ∈ lw_tbl := by decide +kernel
theorem z_nets {s : State} {b : Nat} (hts : ∀ w ∈ lw_tbl, w.before #[.ref b] s = true) (hgv : (Jvm.Cond.and given_1 narrow_1).before #[.ref b] s = true) : zN (fun q => s.heap.size ≤ q) s := by
  have hfl : ∀ w ∈ zFl1, w.before #[.ref b] s = true := flat_of_before _ hgv
  have hA : ∀ a : Nat, a < s.heap.size → ¬ (fun q : Nat => s.heap.size ≤ q) a := fun a h => Nat.not_le.mpr h
  obtain ⟨adK, adV, h1, h2⟩ := vk_Sof (args := #[.ref b]) (s := s) (N := 6) (tm := ztm) (len := zSlen) (byt := zSbyt) (A := fun q => s.heap.size ≤ q) (fun i hi => by have := zsl_lt hi; omega)
    (fun i hi => hfl _ (z_l6 ⟨i, hi⟩)) (fun i hi => hfl _ (z_l7 ⟨i, hi⟩)) (fun i hi => hfl _ (z_l8 ⟨i, hi⟩)) (fun i hi => hfl _ (z_l9 ⟨i, hi⟩))
    (fun i hi j hj => hfl _ (z_l10 ⟨i, hi⟩ ⟨j, by have := zsl_lt hi; omega⟩ hj))
    (fun i j hi hj hij => (z_l11 ⟨i, hi⟩ ⟨j, hj⟩ hij).elim (fun h => Or.inl (hfl _ h)) (fun h => Or.inr (hfl _ h))) hA
  refine ⟨fun q hq => va_Nw.of rfl (hts _ (z_l1 q hq)), fun q hq => va_Nw.of rfl (hts _ (z_l2 q hq)), fun q hq => va_Nc.of (hfl _ (z_l3 q hq)), adK, adV, ⟨?_, h1, va_Zof (hts _ z_l13.1) (hts _ z_l13.2.1) (va_eqt (hfl _ z_l12.1)) hA, va_Zqof (hts _ z_l13.2.2.1) (hts _ z_l13.2.2.2) (hfl _ z_l12.2) hA⟩, fun w hw => va_tabs (u := s) (U := s) (Bool.and_eq_true_iff.mp (zWl_ok w hw)).1 rfl (hts _ (z_l4 w hw))⟩
  intro i q hq
  have hi : i < 6 := (List.getElem?_eq_some_iff.mp hq).1
  have he : ztm i = .string RX5 q.1 := by
    unfold ztm
    rw [List.getD_eq_getElem?_getD, hq]
    rfl
  exact vk_R.of (hts _ (z_l5 q (List.mem_of_getElem? hq))) (by rw [← he]; exact h2 i hi)
