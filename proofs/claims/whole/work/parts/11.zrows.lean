/-! ROWS OVER THE UNIVERSE: the kit's rows, read at a number of the universe, the state's new value named by zsI, zsL, zsP. -/
theorem zw_of {G : zG} {x : zX} {i : Nat} {e : va_E} (h : i < zn G) (he : zf G x i = e) : (zW G x)[i]? = some (za G i, e) := by rw [zw_get h, he]
theorem zset_I {G : zG} {x : zX} {i k : Nat} {y : Int32} {e : va_E} (h : i < zn G) (he : zf G (zsI x i k y) i = e) : (zW G x).set i (za G i, e) = zW G (zsI x i k y) := by
  rw [← he]
  exact zw_set h (fun j hj => zf_I hj)
theorem zset_L {G : zG} {x : zX} {i k : Nat} {y : Int64} {e : va_E} (h : i < zn G) (he : zf G (zsL x i k y) i = e) : (zW G x).set i (za G i, e) = zW G (zsL x i k y) := by
  rw [← he]
  exact zw_set h (fun j hj => zf_L hj)
theorem zset_P {G : zG} {x : zX} {i k : Nat} {y : Option Nat} {e : va_E} (h : i < zn G) (he : zf G (zsP x i k y) i = e) : (zW G x).set i (za G i, e) = zW G (zsP x i k y) := by
  rw [← he]
  exact zw_set h (fun j hj => zf_P hj)
theorem z_mem {α : Type} {l : List α} {a : α} (i : Nat) (h : l[i]? = some a) : a ∈ l := List.mem_of_getElem? h
section ZW
variable {p : Program} {l : Launch} {e : Env} {R : Room} {s : State} {m : MethodId} {args : Array Value} {below : List Frame} {meth : Method} {c : Code} {H : Heap} {locs : List Loc} {cells slots : Nat} {Q : State → Prop}
variable {cc : ByteArray} {pc : Nat} {ls : Array Slot} {rest : List Value} {G : zG} {x : zX} {A : Nat → Prop} {H0 : Heap}
theorem z_get (hx : p.tables.exec = Jvm.exec) (hb : c.code = cc) {own ref C : String} {T : u_T} {N ci index : Nat} {Ts : List Cond} (hts : ∀ w ∈ Ts, w.before args s = true) (hin : ∀ w ∈ u_ws C T N, w ∈ Ts) (hown : s.vm.findClass own = some m.cls) (hK : va_K G.1 vwCl (zT G) s) (hI : zI G x A H0 H locs) {i : Nat} {F : (Nat → Int32) → (Nat → Int64) → List Value} (ho : zOB G i ci F) (hc : vwCl[ci]? = some (C, T, N)) (k : Nat) (hk : k < N) (hlink : (Cond.fieldLink own index ref (T k).2.1 (T k).2.2.1).before args s = true) (hsame : ∀ x, s.fieldFound? (T k).1 (T k).2.1 (T k).2.2.1 = some x → s.fieldFound? ref (T k).2.1 (T k).2.2.1 = some x) {v : Value} (hv : (F (x.1 i) (x.2.1 i))[k]? = some v) (hdg : decode cc pc = .ok (.getfield index, 3))
    (kk : W p l e R s m args below meth c H locs cells slots Q (F0 m (pc + 3) ls (v :: rest))) : W p l e R s m args below meth c H locs cells slots Q (F0 m pc ls (.ref (za G i) :: rest)) :=
  va_get hx hb hts hin hown hK hI.1.1 i (zw_of ho.1 (ho.2 x)) hc k hk hlink hsame hv hdg kk
theorem z_putI (hx : p.tables.exec = Jvm.exec) (hb : c.code = cc) {own ref C : String} {T : u_T} {N ci index : Nat} {Ts : List Cond} (hts : ∀ w ∈ Ts, w.before args s = true) (hin : ∀ w ∈ u_ws C T N, w ∈ Ts) (ty0 : Nat → FieldType) (hty : ∀ k, k < N → parseFieldDescriptor (T k).2.2.1 = some (ty0 k)) (hnm : ∀ a, a < N → ∀ b, b < N → a ≠ b → (T a).2.1 ≠ (T b).2.1) (hown : s.vm.findClass own = some m.cls) (hK : va_K G.1 vwCl (zT G) s) (hI : zI G x A H0 H locs) {i : Nat} {F : (Nat → Int32) → (Nat → Int64) → List Value} (ho : zOB G i ci F) (hc : vwCl[ci]? = some (C, T, N)) (k : Nat) (hk : k < N) (hlink : (Cond.fieldLink own index ref (T k).2.1 (T k).2.2.1).before args s = true) (hsame : ∀ x, s.fieldFound? (T k).1 (T k).2.1 (T k).2.2.1 = some x → s.fieldFound? ref (T k).2.1 (T k).2.2.1 = some x) (hfin : (T k).2.2.2 = false) {ty : FieldType} {y : Int32}
    (hF : ∀ v l, F (upd v k y) l = (F v l).set k (.int y)) (hd : parseFieldDescriptor (T k).2.2.1 = some ty) (hn : narrow ty (.int y) = .int y) (hfit : fits ty (.int y) = true) (hl : ∀ v l, k < (F v l).length) (hdg : decode cc pc = .ok (.putfield index, 3))
    (kk : ∀ (H1 : Heap) (locs1 : List Loc), zI G (zsI x i k y) A H0 H1 locs1 → W p l e R s m args below meth c H1 locs1 cells slots Q (F0 m (pc + 3) ls rest)) : W p l e R s m args below meth c H locs cells slots Q (F0 m pc ls (.int y :: .ref (za G i) :: rest)) := by
  have e1 := zset_I (k := k) (y := y) ho.1 (ho.2 (zsI x i k y))
  rw [zsI_u, hF] at e1
  refine va_put hx hb hts hin ty0 hty hnm hown hK hI.1.1 hI.1.2 hI.2 i (zw_of ho.1 (ho.2 x)) hc k hk hlink hsame hfin hd hn hfit (hl _ _) hdg (fun H1 locs1 hP hD hS => ?_)
  have e2 : (zW G x).set i (za G i, .inr (ci, (F (x.1 i) (x.2.1 i)).set k (.int y))) = zW G (zsI x i k y) := e1
  rw [e2] at hP hD
  exact kk H1 locs1 ⟨⟨hP, hD⟩, hS⟩
theorem z_putL (hx : p.tables.exec = Jvm.exec) (hb : c.code = cc) {own ref C : String} {T : u_T} {N ci index : Nat} {Ts : List Cond} (hts : ∀ w ∈ Ts, w.before args s = true) (hin : ∀ w ∈ u_ws C T N, w ∈ Ts) (ty0 : Nat → FieldType) (hty : ∀ k, k < N → parseFieldDescriptor (T k).2.2.1 = some (ty0 k)) (hnm : ∀ a, a < N → ∀ b, b < N → a ≠ b → (T a).2.1 ≠ (T b).2.1) (hown : s.vm.findClass own = some m.cls) (hK : va_K G.1 vwCl (zT G) s) (hI : zI G x A H0 H locs) {i : Nat} {F : (Nat → Int32) → (Nat → Int64) → List Value} (ho : zOB G i ci F) (hc : vwCl[ci]? = some (C, T, N)) (k : Nat) (hk : k < N) (hlink : (Cond.fieldLink own index ref (T k).2.1 (T k).2.2.1).before args s = true) (hsame : ∀ x, s.fieldFound? (T k).1 (T k).2.1 (T k).2.2.1 = some x → s.fieldFound? ref (T k).2.1 (T k).2.2.1 = some x) (hfin : (T k).2.2.2 = false) {ty : FieldType} {y : Int64}
    (hF : ∀ v l, F v (vp_updL l k y) = (F v l).set k (.long y)) (hd : parseFieldDescriptor (T k).2.2.1 = some ty) (hn : narrow ty (.long y) = .long y) (hfit : fits ty (.long y) = true) (hl : ∀ v l, k < (F v l).length) (hdg : decode cc pc = .ok (.putfield index, 3))
    (kk : ∀ (H1 : Heap) (locs1 : List Loc), zI G (zsL x i k y) A H0 H1 locs1 → W p l e R s m args below meth c H1 locs1 cells slots Q (F0 m (pc + 3) ls rest)) : W p l e R s m args below meth c H locs cells slots Q (F0 m pc ls (.long y :: .ref (za G i) :: rest)) := by
  have e1 := zset_L (k := k) (y := y) ho.1 (ho.2 (zsL x i k y))
  rw [zsL_u, hF] at e1
  refine va_put hx hb hts hin ty0 hty hnm hown hK hI.1.1 hI.1.2 hI.2 i (zw_of ho.1 (ho.2 x)) hc k hk hlink hsame hfin hd hn hfit (hl _ _) hdg (fun H1 locs1 hP hD hS => ?_)
  have e2 : (zW G x).set i (za G i, .inr (ci, (F (x.1 i) (x.2.1 i)).set k (.long y))) = zW G (zsL x i k y) := e1
  rw [e2] at hP hD
  exact kk H1 locs1 ⟨⟨hP, hD⟩, hS⟩
theorem z_iald (hx : p.tables.exec = Jvm.exec) (hb : c.code = cc) (hK : va_K G.1 vwCl (zT G) s) (hI : zI G x A H0 H locs) {i N : Nat} (ha : zIA G i N) {j : Int32} (k : Nat) (hj : j = nI k) (hk : k < N) (hN : N < 2 ^ 31) {v : Int32} (hv : x.1 i k = v) (hdg : decode cc pc = .ok (.iaload, 1))
    (kk : W p l e R s m args below meth c H locs cells slots Q (F0 m (pc + 1) ls (.int v :: rest))) : W p l e R s m args below meth c H locs cells slots Q (F0 m pc ls (.int j :: .ref (za G i) :: rest)) := by
  subst hj
  refine va_iald hx hb hK hI.1.1 i 0 (zw_of ha.1 (ha.2 x)) rfl (vp_in_nI hk hN) hdg ?_
  rw [nI_clamp (Nat.lt_trans hk hN), hv]
  exact kk
theorem z_zald (hx : p.tables.exec = Jvm.exec) (hb : c.code = cc) (hK : va_K G.1 vwCl (zT G) s) (hI : zI G x A H0 H locs) {i N : Nat} (ha : zZA G i N) {j : Int32} (k : Nat) (hj : j = nI k) (hk : k < N) (hN : N < 2 ^ 31) {v : Int32} (hv : x.1 i k = v) (hdg : decode cc pc = .ok (.baload, 1))
    (kk : W p l e R s m args below meth c H locs cells slots Q (F0 m (pc + 1) ls (.int v :: rest))) : W p l e R s m args below meth c H locs cells slots Q (F0 m pc ls (.int j :: .ref (za G i) :: rest)) := by
  subst hj
  refine va_zald hx hb hK hI.1.1 i 1 (zw_of ha.1 (ha.2 x)) rfl (vp_in_nI hk hN) hdg ?_
  rw [nI_clamp (Nat.lt_trans hk hN), hv]
  exact kk
theorem z_bald (hx : p.tables.exec = Jvm.exec) (hb : c.code = cc) (hK : va_K G.1 vwCl (zT G) s) (hI : zI G x A H0 H locs) {i N : Nat} (ha : zBA G i N) {j : Int32} (k : Nat) (hj : j = nI k) (hk : k < N) (hN : N < 2 ^ 31) {v : Int32} (hv : x.1 i k = v) (hdg : decode cc pc = .ok (.baload, 1))
    (kk : W p l e R s m args below meth c H locs cells slots Q (F0 m (pc + 1) ls (.int v :: rest))) : W p l e R s m args below meth c H locs cells slots Q (F0 m pc ls (.int j :: .ref (za G i) :: rest)) := by
  subst hj
  refine va_bald hx hb hK hI.1.1 i 2 (zw_of ha.1 (ha.2 x)) rfl (vp_in_nI hk hN) hdg ?_
  rw [nI_clamp (Nat.lt_trans hk hN), hv]
  exact kk
theorem z_lald (hx : p.tables.exec = Jvm.exec) (hb : c.code = cc) (hK : va_K G.1 vwCl (zT G) s) (hI : zI G x A H0 H locs) {i N : Nat} (ha : zLA G i N) {j : Int32} (k : Nat) (hj : j = nI k) (hk : k < N) (hN : N < 2 ^ 31) {v : Int64} (hv : x.2.1 i k = v) (hdg : decode cc pc = .ok (.laload, 1))
    (kk : W p l e R s m args below meth c H locs cells slots Q (F0 m (pc + 1) ls (.long v :: rest))) : W p l e R s m args below meth c H locs cells slots Q (F0 m pc ls (.int j :: .ref (za G i) :: rest)) := by
  subst hj
  refine va_lald hx hb hK hI.1.1 i 3 (zw_of ha.1 (ha.2 x)) rfl (vp_in_nI hk hN) hdg ?_
  rw [nI_clamp (Nat.lt_trans hk hN), hv]
  exact kk
theorem z_pald (hx : p.tables.exec = Jvm.exec) (hb : c.code = cc) (hK : va_K G.1 vwCl (zT G) s) (hI : zI G x A H0 H locs) {i N : Nat} (ha : zPA G i N) {j : Int32} (k : Nat) (hj : j = nI k) (hk : k < N) (hN : N < 2 ^ 31) {o : Option Nat} (ho : x.2.2 i k = o) (hdg : decode cc pc = .ok (.aaload, 1))
    (kk : W p l e R s m args below meth c H locs cells slots Q (F0 m (pc + 1) ls (va_rf (o.map (za G)) :: rest))) : W p l e R s m args below meth c H locs cells slots Q (F0 m pc ls (.int j :: .ref (za G i) :: rest)) := by
  subst hj
  subst ho
  refine va_aldq hx hb hK hI.1.1 i 4 (zw_of ha.1 (ha.2 x)) rfl (vp_in_nI hk hN) hdg ?_
  rw [nI_clamp (Nat.lt_trans hk hN)]
  exact kk
/-- rooms[k] -/
theorem z_rald (hx : p.tables.exec = Jvm.exec) (hb : c.code = cc) (hK : va_K G.1 vwCl (zT G) s) (hG : zOK G) (hI : zI G x A H0 H locs) {j : Int32} (k : Nat) (hj : j = nI k) (hk : k < 6) (hdg : decode cc pc = .ok (.aaload, 1))
    (kk : W p l e R s m args below meth c H locs cells slots Q (F0 m (pc + 1) ls (.ref (za G (28 + 7 * k)) :: rest))) : W p l e R s m args below meth c H locs cells slots Q (F0 m pc ls (.int j :: .ref (za G 10) :: rest)) := by
  subst hj
  refine va_aldq hx hb hK hI.1.1 10 5 (zw_of (zlt hG (by decide)) (zo10 x)) rfl (vp_in_nI hk (by decide)) hdg ?_
  rw [nI_clamp (by omega), if_pos hk]
  exact kk
/-- items[k] -/
theorem z_jald (hx : p.tables.exec = Jvm.exec) (hb : c.code = cc) (hK : va_K G.1 vwCl (zT G) s) (hG : zOK G) (hI : zI G x A H0 H locs) {j : Int32} (k : Nat) (hj : j = nI k) (hk : k < 6) (hdg : decode cc pc = .ok (.aaload, 1))
    (kk : W p l e R s m args below meth c H locs cells slots Q (F0 m (pc + 1) ls (.ref (za G (20 + k)) :: rest))) : W p l e R s m args below meth c H locs cells slots Q (F0 m pc ls (.int j :: .ref (za G 19) :: rest)) := by
  subst hj
  have hc : k < 2 ^ 31 := by omega
  have hP := hI.1.1 19 _ (zw_of (zlt hG (by decide)) (zo19 x))
  have e1 : (nI k).toNatClampNeg = k := nI_clamp hc
  have hin : vp_in (nI k) 6 := vp_in_nI hk (by decide)
  refine W.aald (v := .ref (za G (20 + k))) (ty := .array .long) hx hb hP ((hK.2 6 _ rfl).1 6 (fun j => va_rf (if j < 6 then some (za G (20 + j)) else none))) rfl (fun q => by cases q) (by show ¬ (_ ∨ (arrV _ _ _).slots.size ≤ _); rw [arrV_size]; exact hin) ?_ rfl rfl hdg kk
  show (arrV _ _ _).slots[_]? = _
  rw [e1, arrV_read _ _ hk]
  show some (va_rf (if k < 6 then some (za G (20 + k)) else none)) = _
  rw [if_pos hk]
  rfl
theorem z_alen (hx : p.tables.exec = Jvm.exec) (hb : c.code = cc) (hK : va_K G.1 vwCl (zT G) s) (hI : zI G x A H0 H locs) {i : Nat} (t0 : Nat) (hi : i < zn G) {cA : ClassId} {a : vp_A} (ha : zf G x i = .inl (cA, a)) {ty : FieldType} (ht : (zT G)[t0]? = some (cA, ty)) {v : Int32} (hv : Int32.ofNat a.1 = v) (hdg : decode cc pc = .ok (.arraylength, 1))
    (kk : W p l e R s m args below meth c H locs cells slots Q (F0 m (pc + 1) ls (.int v :: rest))) : W p l e R s m args below meth c H locs cells slots Q (F0 m pc ls (.ref (za G i) :: rest)) :=
  va_alen hx hb hK hI.1.1 i t0 (zw_of hi ha) ht hv hdg kk
theorem z_iast (hx : p.tables.exec = Jvm.exec) (hb : c.code = cc) (hK : va_K G.1 vwCl (zT G) s) (hI : zI G x A H0 H locs) {i N : Nat} (ha : zIA G i N) {j y : Int32} (k : Nat) (hj : j = nI k) (hk : k < N) (hN : N < 2 ^ 31) (hdg : decode cc pc = .ok (.iastore, 1))
    (kk : ∀ (H1 : Heap) (locs1 : List Loc), zI G (zsI x i k y) A H0 H1 locs1 → W p l e R s m args below meth c H1 locs1 cells slots Q (F0 m (pc + 1) ls rest)) : W p l e R s m args below meth c H locs cells slots Q (F0 m pc ls (.int y :: .int j :: .ref (za G i) :: rest)) := by
  subst hj
  refine va_iast hx hb hK hI.1.1 hI.1.2 hI.2 i 0 (zw_of ha.1 (ha.2 x)) rfl (vp_in_nI hk hN) hdg (fun H1 locs1 hP hD hS => ?_)
  rw [nI_clamp (Nat.lt_trans hk hN)] at hP hD
  have e1 := zset_I (k := k) (y := y) ha.1 (ha.2 (zsI x i k y))
  rw [zsI_u] at e1
  have hP2 : va_P G.1 vwCl (zW G (zsI x i k y)) H1 := e1 ▸ hP
  have hD2 : va_D A (zW G (zsI x i k y)) := e1 ▸ hD
  exact kk H1 locs1 ⟨⟨hP2, hD2⟩, hS⟩
theorem z_zast (hx : p.tables.exec = Jvm.exec) (hb : c.code = cc) (hK : va_K G.1 vwCl (zT G) s) (hI : zI G x A H0 H locs) {i N : Nat} (ha : zZA G i N) {j y : Int32} (k : Nat) (hj : j = nI k) (hk : k < N) (hN : N < 2 ^ 31) (hy : y = 0 ∨ y = 1) (hdg : decode cc pc = .ok (.bastore, 1))
    (kk : ∀ (H1 : Heap) (locs1 : List Loc), zI G (zsI x i k y) A H0 H1 locs1 → W p l e R s m args below meth c H1 locs1 cells slots Q (F0 m (pc + 1) ls rest)) : W p l e R s m args below meth c H locs cells slots Q (F0 m pc ls (.int y :: .int j :: .ref (za G i) :: rest)) := by
  subst hj
  have hv : vp_nar .boolean y = y := by rcases hy with rfl | rfl <;> decide
  refine va_zast hx hb hK hI.1.1 hI.1.2 hI.2 i 1 (zw_of ha.1 (ha.2 x)) rfl (vp_in_nI hk hN) hdg (fun H1 locs1 hP hD hS => ?_)
  rw [nI_clamp (Nat.lt_trans hk hN), hv] at hP hD
  have e1 := zset_I (k := k) (y := y) ha.1 (ha.2 (zsI x i k y))
  rw [zsI_u] at e1
  have hP2 : va_P G.1 vwCl (zW G (zsI x i k y)) H1 := e1 ▸ hP
  have hD2 : va_D A (zW G (zsI x i k y)) := e1 ▸ hD
  exact kk H1 locs1 ⟨⟨hP2, hD2⟩, hS⟩
theorem z_bast (hx : p.tables.exec = Jvm.exec) (hb : c.code = cc) (hK : va_K G.1 vwCl (zT G) s) (hI : zI G x A H0 H locs) {i N : Nat} (ha : zBA G i N) {j y : Int32} (k : Nat) (hj : j = nI k) (hk : k < N) (hN : N < 2 ^ 31) (hy : vp_nar .byte y = y) (hdg : decode cc pc = .ok (.bastore, 1))
    (kk : ∀ (H1 : Heap) (locs1 : List Loc), zI G (zsI x i k y) A H0 H1 locs1 → W p l e R s m args below meth c H1 locs1 cells slots Q (F0 m (pc + 1) ls rest)) : W p l e R s m args below meth c H locs cells slots Q (F0 m pc ls (.int y :: .int j :: .ref (za G i) :: rest)) := by
  subst hj
  refine va_bast hx hb hK hI.1.1 hI.1.2 hI.2 i 2 (zw_of ha.1 (ha.2 x)) rfl (vp_in_nI hk hN) hdg (fun H1 locs1 hP hD hS => ?_)
  rw [nI_clamp (Nat.lt_trans hk hN), hy] at hP hD
  have e1 := zset_I (k := k) (y := y) ha.1 (ha.2 (zsI x i k y))
  rw [zsI_u] at e1
  have hP2 : va_P G.1 vwCl (zW G (zsI x i k y)) H1 := e1 ▸ hP
  have hD2 : va_D A (zW G (zsI x i k y)) := e1 ▸ hD
  exact kk H1 locs1 ⟨⟨hP2, hD2⟩, hS⟩
theorem z_last (hx : p.tables.exec = Jvm.exec) (hb : c.code = cc) (hK : va_K G.1 vwCl (zT G) s) (hI : zI G x A H0 H locs) {i N : Nat} (ha : zLA G i N) {j : Int32} {y : Int64} (k : Nat) (hj : j = nI k) (hk : k < N) (hN : N < 2 ^ 31) (hdg : decode cc pc = .ok (.lastore, 1))
    (kk : ∀ (H1 : Heap) (locs1 : List Loc), zI G (zsL x i k y) A H0 H1 locs1 → W p l e R s m args below meth c H1 locs1 cells slots Q (F0 m (pc + 1) ls rest)) : W p l e R s m args below meth c H locs cells slots Q (F0 m pc ls (.long y :: .int j :: .ref (za G i) :: rest)) := by
  subst hj
  refine va_last hx hb hK hI.1.1 hI.1.2 hI.2 i 3 (zw_of ha.1 (ha.2 x)) rfl (vp_in_nI hk hN) hdg (fun H1 locs1 hP hD hS => ?_)
  rw [nI_clamp (Nat.lt_trans hk hN)] at hP hD
  have e1 := zset_L (k := k) (y := y) ha.1 (ha.2 (zsL x i k y))
  rw [zsL_u] at e1
  have hP2 : va_P G.1 vwCl (zW G (zsL x i k y)) H1 := e1 ▸ hP
  have hD2 : va_D A (zW G (zsL x i k y)) := e1 ▸ hD
  exact kk H1 locs1 ⟨⟨hP2, hD2⟩, hS⟩
theorem z_pastN (hx : p.tables.exec = Jvm.exec) (hb : c.code = cc) (hK : va_K G.1 vwCl (zT G) s) (hI : zI G x A H0 H locs) {i N : Nat} (ha : zPA G i N) {j : Int32} (k : Nat) (hj : j = nI k) (hk : k < N) (hN : N < 2 ^ 31) (hdg : decode cc pc = .ok (.aastore, 1))
    (kk : ∀ (H1 : Heap) (locs1 : List Loc), zI G (zsP x i k none) A H0 H1 locs1 → W p l e R s m args below meth c H1 locs1 cells slots Q (F0 m (pc + 1) ls rest)) : W p l e R s m args below meth c H locs cells slots Q (F0 m pc ls (.null :: .int j :: .ref (za G i) :: rest)) := by
  subst hj
  refine va_astqN hx hb hK hI.1.1 hI.1.2 hI.2 i 4 (zw_of ha.1 (ha.2 x)) rfl (vp_in_nI hk hN) hdg (fun H1 locs1 hP hD hS => ?_)
  rw [nI_clamp (Nat.lt_trans hk hN)] at hP hD
  have hfe : (va_up (fun j => (x.2.2 i j).map (za G)) k none) = fun j => ((zsP x i k none).2.2 i j).map (za G) := by
    funext q
    rw [zsP_u]
    show (if q = k then none else (x.2.2 i q).map (za G)) = (if q = k then none else x.2.2 i q).map (za G)
    by_cases h : q = k
    · rw [if_pos h, if_pos h]; rfl
    · rw [if_neg h, if_neg h]
  rw [hfe] at hP hD
  have e1 := zset_P (k := k) (y := none) ha.1 (ha.2 (zsP x i k none))
  have hP2 : va_P G.1 vwCl (zW G (zsP x i k none)) H1 := e1 ▸ hP
  have hD2 : va_D A (zW G (zsP x i k none)) := e1 ▸ hD
  exact kk H1 locs1 ⟨⟨hP2, hD2⟩, hS⟩
theorem z_past (hx : p.tables.exec = Jvm.exec) (hb : c.code = cc) (hK : va_K G.1 vwCl (zT G) s) (hI : zI G x A H0 H locs) {i N o ci : Nat} {r : vw_C} {F : (Nat → Int32) → (Nat → Int64) → List Value} (ha : zPA G i N) (ho : zOB G o ci F) (hc : vwCl[ci]? = some r) (hca : va_Nw (.castable r.1 "WhoSitsBy$Pupil") s ∨ r.1 = "WhoSitsBy$Pupil") {j : Int32} (k : Nat) (hj : j = nI k) (hk : k < N) (hN : N < 2 ^ 31) (hdg : decode cc pc = .ok (.aastore, 1))
    (kk : ∀ (H1 : Heap) (locs1 : List Loc), zI G (zsP x i k (some o)) A H0 H1 locs1 → W p l e R s m args below meth c H1 locs1 cells slots Q (F0 m (pc + 1) ls rest)) : W p l e R s m args below meth c H locs cells slots Q (F0 m pc ls (.ref (za G o) :: .int j :: .ref (za G i) :: rest)) := by
  subst hj
  have hfe : (va_up (fun j => (x.2.2 i j).map (za G)) k (some (za G o))) = fun j => ((zsP x i k (some o)).2.2 i j).map (za G) := by
    funext q
    rw [zsP_u]
    show (if q = k then some (za G o) else (x.2.2 i q).map (za G)) = (if q = k then some o else x.2.2 i q).map (za G)
    by_cases h : q = k
    · rw [if_pos h, if_pos h]; rfl
    · rw [if_neg h, if_neg h]
  have e1 := zset_P (k := k) (y := some o) ha.1 (ha.2 (zsP x i k (some o)))
  have kk2 : ∀ (H1 : Heap) (locs1 : List Loc), va_P G.1 vwCl ((zW G x).set i (za G i, .inl (G.2.1 4, N, .inr (.inr (.inr (.inr (va_up (fun j => (x.2.2 i j).map (za G)) (nI k).toNatClampNeg (some (za G o))))))))) H1 → va_D A ((zW G x).set i (za G i, .inl (G.2.1 4, N, .inr (.inr (.inr (.inr (va_up (fun j => (x.2.2 i j).map (za G)) (nI k).toNatClampNeg (some (za G o))))))))) → va_S A H0 H1 locs1 → W p l e R s m args below meth c H1 locs1 cells slots Q (F0 m (pc + 1) ls rest) := by
    intro H1 locs1 hP hD hS
    rw [nI_clamp (Nat.lt_trans hk hN), hfe] at hP hD
    have hP2 : va_P G.1 vwCl (zW G (zsP x i k (some o))) H1 := e1 ▸ hP
    have hD2 : va_D A (zW G (zsP x i k (some o))) := e1 ▸ hD
    exact kk H1 locs1 ⟨⟨hP2, hD2⟩, hS⟩
  rcases hca with hca | hca
  · exact va_astqO hx hb hK hI.1.1 hI.1.2 hI.2 i 4 o ci (zw_of ha.1 (ha.2 x)) rfl hca (zw_of ho.1 (ho.2 x)) hc (vp_in_nI hk hN) hdg kk2
  · exact va_astq hx hb hK hI.1.1 hI.1.2 hI.2 i 4 o ci (zw_of ha.1 (ha.2 x)) (by rw [hca]; rfl) (zw_of ho.1 (ho.2 x)) hc (vp_in_nI hk hN) hdg kk2
end ZW
/-! CONTRACTS -/
/-- the links that no list holds: private members of nest mates -/
def zNl : List (String × Nat × MethodName) := [(RX7, 38, yX11_seatIn), (RX7, 42, yX11_hasBit), (RX5, 113, yX11_isDigit), (RX6, 58, yX11_sittersAt), (RX6, 88, yX11_exchange), (RX11, 31, yX5_init), (RX11, 38, yX6_init), (RX11, 45, yX9_init)]
/-- the kinds of pupils: which is one of which -/
def zCl : List (String × String) := [("WhoSitsBy$Left", "WhoSitsBy$Helping"), ("WhoSitsBy$Carrier", "WhoSitsBy$Talker"), ("WhoSitsBy$Hoped", "WhoSitsBy$Wished"), ("WhoSitsBy$Helping", "WhoSitsBy$Pupil"), ("WhoSitsBy$Talker", "WhoSitsBy$Pupil"), ("WhoSitsBy$Wished", "WhoSitsBy$Pupil"), ("WhoSitsBy$Left", "WhoSitsBy$Pupil"), ("WhoSitsBy$Carrier", "WhoSitsBy$Pupil"), ("WhoSitsBy$Hoped", "WhoSitsBy$Pupil")]
/-- and which is none of which -/
def zXl : List (String × String) := [("WhoSitsBy$Pupil", "WhoSitsBy$Helping"), ("WhoSitsBy$Pupil", "WhoSitsBy$Talker"), ("WhoSitsBy$Pupil", "WhoSitsBy$Wished"), ("WhoSitsBy$Pupil", "WhoSitsBy$Left"), ("WhoSitsBy$Pupil", "WhoSitsBy$Carrier"), ("WhoSitsBy$Pupil", "WhoSitsBy$Hoped"),
  ("WhoSitsBy$Helping", "WhoSitsBy$Talker"), ("WhoSitsBy$Helping", "WhoSitsBy$Wished"), ("WhoSitsBy$Helping", "WhoSitsBy$Left"), ("WhoSitsBy$Helping", "WhoSitsBy$Carrier"), ("WhoSitsBy$Helping", "WhoSitsBy$Hoped"),
  ("WhoSitsBy$Talker", "WhoSitsBy$Helping"), ("WhoSitsBy$Talker", "WhoSitsBy$Wished"), ("WhoSitsBy$Talker", "WhoSitsBy$Left"), ("WhoSitsBy$Talker", "WhoSitsBy$Carrier"), ("WhoSitsBy$Talker", "WhoSitsBy$Hoped"),
  ("WhoSitsBy$Wished", "WhoSitsBy$Helping"), ("WhoSitsBy$Wished", "WhoSitsBy$Talker"), ("WhoSitsBy$Wished", "WhoSitsBy$Left"), ("WhoSitsBy$Wished", "WhoSitsBy$Carrier"), ("WhoSitsBy$Wished", "WhoSitsBy$Hoped"),
  ("WhoSitsBy$Left", "WhoSitsBy$Talker"), ("WhoSitsBy$Left", "WhoSitsBy$Wished"), ("WhoSitsBy$Left", "WhoSitsBy$Carrier"), ("WhoSitsBy$Left", "WhoSitsBy$Hoped"),
  ("WhoSitsBy$Carrier", "WhoSitsBy$Helping"), ("WhoSitsBy$Carrier", "WhoSitsBy$Wished"), ("WhoSitsBy$Carrier", "WhoSitsBy$Left"), ("WhoSitsBy$Carrier", "WhoSitsBy$Hoped"),
  ("WhoSitsBy$Hoped", "WhoSitsBy$Helping"), ("WhoSitsBy$Hoped", "WhoSitsBy$Talker"), ("WhoSitsBy$Hoped", "WhoSitsBy$Left"), ("WhoSitsBy$Hoped", "WhoSitsBy$Carrier")]
/-- what a call of a superclass's method needs, where that class has it from its own -/
def zWl : List Cond := ([.methodLink RX3 39 ⟨"WhoSitsBy$Helping", "sits", "(ILWhoSitsBy$Trace;)I"⟩, .sameMethod "WhoSitsBy$Helping" "WhoSitsBy$Pupil" "sits" "(ILWhoSitsBy$Trace;)I", .superclass RX3 RX1, .superclass RX1 RX4,
  .methodLink RX2 35 ⟨"WhoSitsBy$Wished", "talks", "(ILWhoSitsBy$Trace;)I"⟩, .sameMethod "WhoSitsBy$Wished" "WhoSitsBy$Pupil" "talks" "(ILWhoSitsBy$Trace;)I", .superclass RX2 RX10, .superclass RX10 RX4,
  .methodLink RX2 39 ⟨"WhoSitsBy$Wished", "sits", "(ILWhoSitsBy$Trace;)I"⟩, .sameMethod "WhoSitsBy$Wished" "WhoSitsBy$Pupil" "sits" "(ILWhoSitsBy$Trace;)I",
  .methodLink RX0 22 ⟨"WhoSitsBy$Talker", "tells", "(ILWhoSitsBy$Trace;)I"⟩, .sameMethod "WhoSitsBy$Talker" "WhoSitsBy$Pupil" "tells" "(ILWhoSitsBy$Trace;)I", .superclass RX0 RX8, .superclass RX8 RX4,
  .instanceMethod yX4_sits, .instanceMethod yX4_talks, .instanceMethod yX4_tells, .initialized RX4] : List Cond) ++ (wsX4_sits ++ (wsX4_talks ++ wsX4_tells))
theorem zWl_ok : ∀ w ∈ zWl, (w.onTables && w.keeps) = true := by
  have h : zWl.all (fun w => w.onTables && w.keeps) = true := by decide +kernel
  exact List.all_eq_true.mp h
/-- the texts that the class holds, by their places in Room's pool -/
def zSl : List (Nat × String) := [(97, "learn"), (99, "loud"), (101, "bar"), (103, "hush"), (131, "abkjtwr"), (137, "<=>")]
def zSlen : List Nat := [5, 4, 3, 4, 7, 3]
def zSbyt : List (List Int32) := [[108, 101, 97, 114, 110], [108, 111, 117, 100], [98, 97, 114], [104, 117, 115, 104], [97, 98, 107, 106, 116, 119, 114], [60, 61, 62]]
def zSS (adK adV : Nat → Nat) (A : Nat → Prop) (U : State) (H : Heap) : Prop := (∀ (i : Nat) (q : Nat × String), zSl[i]? = some q → vk_R RX5 q.1 q.2 (adK i) U) ∧ vk_S 6 zSlen zSbyt adK adV A U H ∧ va_Z "java/lang/String" "COMPACT_STRINGS" "Z" (.int 1) A U H ∧ va_Zq "jdk/internal/util/Preconditions" "SIOOBE_FORMATTER" "Ljava/util/function/BiFunction;" A U H
def zN (A : Nat → Prop) (U : State) : Prop := (∀ q ∈ zNl, va_Nw (.methodLinkNest q.1 q.2.1 q.2.2 "WhoSitsBy") U) ∧ (∀ q ∈ zCl, va_Nw (.castable q.1 q.2) U) ∧ (∀ q ∈ zXl, va_Nc q.1 q.2 U) ∧ ∃ adK adV : Nat → Nat, zSS adK adV A U U.heap ∧ ∀ w ∈ zWl, w.before #[] U = true
theorem zSS.kept {adK adV : Nat → Nat} {A : Nat → Prop} {U : State} {H H1 : Heap} (h : zSS adK adV A U H) (hq : ∀ a : Nat, a < H.size → ¬ A a → H1[a]? = H[a]?) : zSS adK adV A U H1 := ⟨h.1, h.2.1.kept hq, h.2.2.1.kept hq, h.2.2.2.kept hq⟩
theorem zSS.warm {adK adV : Nat → Nat} {A : Nat → Prop} {s U : State} {H : Heap} (hW : s.WarmedH U.vm) (h : zSS adK adV A s H) : zSS adK adV A U H := ⟨fun i q hq => vk_R.warm hW (h.1 i q hq), h.2.1.moved hW.alike, h.2.2.1.moved hW.alike, h.2.2.2.moved hW.alike⟩
theorem zSS.same {adK adV : Nat → Nat} {A : Nat → Prop} {s U : State} {H : Heap} (hv : U.vm = s.vm) (h : zSS adK adV A s H) : zSS adK adV A U H := by
  have ha : s.vm.Alike U.vm := by rw [hv]; exact Vm.Alike.refl _
  exact ⟨fun i q hq => vk_R.same hv (h.1 i q hq), h.2.1.moved ha, h.2.2.1.moved ha, h.2.2.2.moved ha⟩
theorem zN.go {A : Nat → Prop} {s U : State} {H : Heap} {locs : List Loc} (h : zN A s) (hS : va_S A s.heap H locs) (hU : U.heap = H) (hW : s.WarmedH U.vm) : zN A U := by
  obtain ⟨h1, h2, h3, adK, adV, h4, h5⟩ := h
  refine ⟨fun q hq => va_Nw.warmM hW (h1 q hq), fun q hq => va_Nw.warmC hW (h2 q hq), fun q hq => va_Nc.moved hW.alike (h3 q hq), adK, adV, ?_, fun w hw => word_at hW (Or.inl (zWl_ok w hw)) (h5 w hw)⟩
  rw [hU]
  exact (h4.kept hS.2.1).warm hW
theorem zN.blind {A : Nat → Prop} {U : State} {g : JFrame} {mk : MethodId} {a : Array Value} (h : zN A U) : zN A (U.calling g mk a) := by
  obtain ⟨h1, h2, h3, adK, adV, h4, h5⟩ := h
  exact ⟨fun q hq => va_Nw.same rfl rfl (h1 q hq), fun q hq => va_Nw.same rfl rfl (h2 q hq), fun q hq => va_Nc.moved (u := U) (U := U.calling g mk a) (Vm.Alike.refl U.vm) (h3 q hq), adK, adV, zSS.same rfl h4, fun w hw => va_tabs (u := U) (U := U.calling g mk a) (Bool.and_eq_true_iff.mp (zWl_ok w hw)).1 rfl (h5 w hw)⟩
/-- where a method begins -/
def zPre (G : zG) (x : zX) (A : Nat → Prop) (U : State) : Prop := zJ G x A U.heap ∧ va_K G.1 vwCl (zT G) U ∧ zN A U
theorem zPre.blind {G : zG} {x : zX} {A : Nat → Prop} {av : List Value} : FrameBlind (va_Pc av (zPre G x A)) := fun a U g mk h => ⟨h.1, h.2.1, va_K.moved (u := U) (U := U.calling g mk a) (Vm.Alike.refl U.vm) h.2.2.1, h.2.2.2.blind⟩
theorem zPre.go {G : zG} {x : zX} {A : Nat → Prop} {s U : State} {H : Heap} {locs : List Loc} (hI : zI G x A s.heap H locs) (hK : va_K G.1 vwCl (zT G) s) (hN : zN A s) (hU : U.heap = H) (hW : s.WarmedH U.vm) : zPre G x A U := ⟨by rw [hU]; exact hI.1, va_K.moved hW.alike hK, hN.go hI.2 hU hW⟩
/-- a method that makes no cell, and answers an int (a boolean is one), a long, nothing, or a pupil -/
def zMi (l : Launch) (y : MethodName) (ws : List Cond) (rm : Room) (G : zG) (av : List Value) (x : zX) (post : Int32 → zX → Prop) : Prop := ∀ A : Nat → Prop, Met l y ws rm (va_Pc av (zPre G x A)) (va_Qi post (fun u t => zJ G u A t.heap) A) 0 0 A
def zMl (l : Launch) (y : MethodName) (ws : List Cond) (rm : Room) (G : zG) (av : List Value) (x : zX) (post : Int64 → zX → Prop) : Prop := ∀ A : Nat → Prop, Met l y ws rm (va_Pc av (zPre G x A)) (va_Ql post (fun u t => zJ G u A t.heap) A) 0 0 A
def zMv (l : Launch) (y : MethodName) (ws : List Cond) (rm : Room) (G : zG) (av : List Value) (x : zX) (post : zX → Prop) : Prop := ∀ A : Nat → Prop, Met l y ws rm (va_Pc av (zPre G x A)) (va_Qv post (fun u t => zJ G u A t.heap) A) 0 0 A
def zMq (l : Launch) (y : MethodName) (ws : List Cond) (rm : Room) (G : zG) (av : List Value) (x : zX) (post : Option Nat → zX → Prop) : Prop := ∀ A : Nat → Prop, Met l y ws rm (va_Pc av (zPre G x A)) (va_Qq (fun r u => ∃ o : Option Nat, r = o.map (za G) ∧ post o u) (fun u t => zJ G u A t.heap) A) 0 0 A
section ZC
variable {p : Program} {l : Launch} {e : Env} {R : Room} {s : State} {m : MethodId} {args : Array Value} {below : List Frame} {meth : Method} {c : Code} {H : Heap} {locs : List Loc} {cells slots : Nat} {Q : State → Prop}
variable {cc : ByteArray} {pc : Nat} {ls : Array Slot} {rest st0 : List Value} {G : zG} {x : zX} {A : Nat → Prop} {H0 : Heap} {a : Array Value}
/-- what a walk of a body needs -/
theorem zBody {y : MethodName} {ws ws' : List Cond} {rm : Room} {av : List Value} {ret : Option FieldType} {maxL : Nat} {Qc : Array Value → State → Outcome → State → Prop} (hy : plainName y.cls = true) (hw : ws = Cond.code y cc maxL ret :: ws') (h1 : (lg_sl av).length ≤ maxL)
    (body : ∀ (p : Program) (e : Env) (s : State) (m : MethodId) (below : List Frame) (meth : Method) (c : Code), p.tables.exec = Jvm.exec → c.code = cc → c.maxLocals = maxL → s.vm.findClass y.cls = some m.cls → (∀ w ∈ ws, w.before av.toArray s = true) → meth.sig.returnType = ret → meth.locks = false → va_K G.1 vwCl (zT G) s → zN A s → zI G x A s.heap s.heap [] → ∀ ls : Array Slot, lv_has ls maxL (lv_args 0 av) →
      W p l e rm s m av.toArray below meth c s.heap [] 0 0 (MQ below Qc av.toArray s 0 0 A) (F0 m 0 ls [])) : Met l y ws rm (va_Pc av (zPre G x A)) Qc 0 0 A := by
  refine Met.ofW (cc := cc) (maxL := maxL) (ret := ret) hy hw ?_
  intro p e s m args below meth c s₁ B hml hv
  obtain ⟨rfl, hJ, hK, hN⟩ := hv
  have hl := lv_entry av (n := maxL) h1
  rw [lg_entry_eq]
  generalize (lg_sl av ++ List.replicate (maxL - (lg_sl av).length) Slot.unset).toArray = ls at hl ⊢
  exact body p e s m below meth c B.exec B.bytes hml (findClass_of_methodNamed B.named) (atoms_spec (ws := ws) B.pre) B.returns B.notSynchronized hK hN ⟨hJ, va_S.rf⟩ ls hl
theorem z_calli {post : Int32 → zX → Prop} (hr : va_Run p l e R s m args below meth c H locs cells slots 0 0 (F0 m pc ls st0) rest (va_Qi post (fun u t => zJ G u A t.heap) A a) A) (hI : zI G x A H0 H locs)
    (kk : ∀ (r : Int32) (u : zX) (H1 : Heap) (locs1 : List Loc), post r u → zI G u A H0 H1 locs1 → W p l e R s m args below meth c H1 locs1 cells slots Q (F0 m (pc + 3) ls (.int r :: rest))) : W p l e R s m args below meth c H locs cells slots Q (F0 m pc ls st0) :=
  va_calli hr hI.2 (fun _ _ h => h) (fun _ h => h) (fun r u t H1 locs1 ht _ hw hB _ _ hS => kk r u H1 locs1 hw ⟨(by rw [← ht]; exact hB), hS⟩)
theorem z_calll {post : Int64 → zX → Prop} (hr : va_Run p l e R s m args below meth c H locs cells slots 0 0 (F0 m pc ls st0) rest (va_Ql post (fun u t => zJ G u A t.heap) A a) A) (hI : zI G x A H0 H locs)
    (kk : ∀ (r : Int64) (u : zX) (H1 : Heap) (locs1 : List Loc), post r u → zI G u A H0 H1 locs1 → W p l e R s m args below meth c H1 locs1 cells slots Q (F0 m (pc + 3) ls (.long r :: rest))) : W p l e R s m args below meth c H locs cells slots Q (F0 m pc ls st0) :=
  va_calll hr hI.2 (fun _ _ h => h) (fun _ h => h) (fun r u t H1 locs1 ht _ hw hB _ _ hS => kk r u H1 locs1 hw ⟨(by rw [← ht]; exact hB), hS⟩)
theorem z_callv {post : zX → Prop} (hr : va_Run p l e R s m args below meth c H locs cells slots 0 0 (F0 m pc ls st0) rest (va_Qv post (fun u t => zJ G u A t.heap) A a) A) (hI : zI G x A H0 H locs)
    (kk : ∀ (u : zX) (H1 : Heap) (locs1 : List Loc), post u → zI G u A H0 H1 locs1 → W p l e R s m args below meth c H1 locs1 cells slots Q (F0 m (pc + 3) ls rest)) : W p l e R s m args below meth c H locs cells slots Q (F0 m pc ls st0) :=
  va_callv hr hI.2 (fun _ _ h => h) (fun _ h => h) (fun u t H1 locs1 ht _ hw hB _ _ hS => kk u H1 locs1 hw ⟨(by rw [← ht]; exact hB), hS⟩)
theorem z_callq {post : Option Nat → zX → Prop} (hr : va_Run p l e R s m args below meth c H locs cells slots 0 0 (F0 m pc ls st0) rest (va_Qq (fun r u => ∃ o : Option Nat, r = o.map (za G) ∧ post o u) (fun u t => zJ G u A t.heap) A a) A) (hI : zI G x A H0 H locs)
    (kk : ∀ (r : Option Nat) (u : zX) (H1 : Heap) (locs1 : List Loc), post r u → zI G u A H0 H1 locs1 → W p l e R s m args below meth c H1 locs1 cells slots Q (F0 m (pc + 3) ls (va_rf (r.map (za G)) :: rest))) : W p l e R s m args below meth c H locs cells slots Q (F0 m pc ls st0) :=
  va_callq hr hI.2 (fun _ _ h => h) (fun _ h => h) (fun r u t H1 locs1 ht _ hw hB _ _ hS => by
    obtain ⟨o, rfl, ho⟩ := hw
    exact kk o u H1 locs1 ho ⟨(by rw [← ht]; exact hB), hS⟩)
theorem z_recv (hK : va_K G.1 vwCl (zT G) s) (hI : zI G x A H0 H locs) {i ci : Nat} {q : vw_C} {F : (Nat → Int32) → (Nat → Int64) → List Value} (ho : zOB G i ci F) (hc : vwCl[ci]? = some q) : ∃ cell : Cell, H[za G i]? = some cell ∧ cell.vm.isStatics = false ∧ s.vm.findClass q.1 = some cell.cls := va_recv hK hI.1.1 (q0 := i) hc (zw_of ho.1 (ho.2 x))
/-- the ways to call: an instance's method, a static one, a nest mate's, super's, an inherited or overriding one -/
theorem z_pV {C : String} {b : Addr} {As : List Value} (hI : zI G x A s.heap H locs) (hK : va_K G.1 vwCl (zT G) s) (hN : zN A s) (hr : ∃ cell : Cell, H[b]? = some cell ∧ cell.vm.isStatics = false ∧ s.vm.findClass C = some cell.cls) : PreV s H C b (va_Pc (.ref b :: As) (zPre G x A)) As := ⟨zPre.blind, hr, fun U hU hW => ⟨rfl, zPre.go hI hK hN hU hW⟩⟩
theorem z_pS {As : List Value} (hI : zI G x A s.heap H locs) (hK : va_K G.1 vwCl (zT G) s) (hN : zN A s) : PreS s H (va_Pc As (zPre G x A)) As := ⟨zPre.blind, fun U hU hW => ⟨rfl, zPre.go hI hK hN hU hW⟩⟩
theorem z_iret {post : Int32 → zX → Prop} {v : Int32} (hx : p.tables.exec = Jvm.exec) (hb : c.code = cc) (hr : meth.sig.returnType = some .int) (hlocks : meth.locks = false) (hI : zI G x A s.heap H locs) (hp : post v x) (hdg : decode cc pc = .ok (.ireturn, 1)) :
    W p l e R s m args below meth c H locs cells slots (MQ below (va_Qi post (fun u t => zJ G u A t.heap) A) args s cells slots A) (F0 m pc ls [.int v]) :=
  W.iret hx hb hr (fun t ht hW => ⟨⟨v, x, rfl, hp, by show zJ G x A t.heap; rw [ht]; exact hI.1⟩, hI.2.F ht⟩) hI.2.2.2 hdg hlocks
theorem z_zret {post : Int32 → zX → Prop} {v : Int32} (hx : p.tables.exec = Jvm.exec) (hb : c.code = cc) (hr : meth.sig.returnType = some .boolean) (hlocks : meth.locks = false) (hI : zI G x A s.heap H locs) (hv : v = 0 ∨ v = 1) (hp : post v x) (hdg : decode cc pc = .ok (.ireturn, 1)) :
    W p l e R s m args below meth c H locs cells slots (MQ below (va_Qi post (fun u t => zJ G u A t.heap) A) args s cells slots A) (F0 m pc ls [.int v]) :=
  W.zret hx hb hr (by rcases hv with rfl | rfl <;> rfl) (fun t ht hW => ⟨⟨v, x, rfl, hp, by show zJ G x A t.heap; rw [ht]; exact hI.1⟩, hI.2.F ht⟩) hI.2.2.2 hdg hlocks
theorem z_lret {post : Int64 → zX → Prop} {v : Int64} (hx : p.tables.exec = Jvm.exec) (hb : c.code = cc) (hr : meth.sig.returnType = some .long) (hlocks : meth.locks = false) (hI : zI G x A s.heap H locs) (hp : post v x) (hdg : decode cc pc = .ok (.lreturn, 1)) :
    W p l e R s m args below meth c H locs cells slots (MQ below (va_Ql post (fun u t => zJ G u A t.heap) A) args s cells slots A) (F0 m pc ls [.long v]) :=
  W.lret hx hb hr (fun t ht hW => ⟨⟨v, x, rfl, hp, by show zJ G x A t.heap; rw [ht]; exact hI.1⟩, hI.2.F ht⟩) hI.2.2.2 hdg hlocks
theorem z_vret {post : zX → Prop} (hx : p.tables.exec = Jvm.exec) (hb : c.code = cc) (hr : meth.sig.returnType = none) (hlocks : meth.locks = false) (hI : zI G x A s.heap H locs) (hp : post x) (hdg : decode cc pc = .ok (.return_, 1)) :
    W p l e R s m args below meth c H locs cells slots (MQ below (va_Qv post (fun u t => zJ G u A t.heap) A) args s cells slots A) (F0 m pc ls []) :=
  W.vret hx hb hr (fun t ht hW => ⟨⟨x, rfl, hp, by show zJ G x A t.heap; rw [ht]; exact hI.1⟩, hI.2.F ht⟩) hI.2.2.2 hdg hlocks
theorem z_qret {post : Option Nat → zX → Prop} {o : Option Nat} {rt : FieldType} (hx : p.tables.exec = Jvm.exec) (hb : c.code = cc) (hr : meth.sig.returnType = some rt) (hrt : (∃ n, rt = .object n) ∨ ∃ t, rt = .array t) (hlocks : meth.locks = false) (hI : zI G x A s.heap H locs) (hp : post o x) (hdg : decode cc pc = .ok (.areturn, 1)) :
    W p l e R s m args below meth c H locs cells slots (MQ below (va_Qq (fun r u => ∃ o : Option Nat, r = o.map (za G) ∧ post o u) (fun u t => zJ G u A t.heap) A) args s cells slots A) (F0 m pc ls [va_rf (o.map (za G))]) :=
  W.aret hx hb hr hrt (va_rf_or _) (fun t ht hW => ⟨⟨o.map (za G), x, rfl, ⟨o, rfl, hp⟩, by show zJ G x A t.heap; rw [ht]; exact hI.1⟩, hI.2.F ht⟩) hI.2.2.2 hdg hlocks
end ZC
