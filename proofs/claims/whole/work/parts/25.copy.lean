/-! WHOLE ROWS: a row put in a row's place, System.arraycopy -/
def zsrI (x : zX) (i : Nat) (f : Nat → Int32) : zX := (zup x.1 i f, x.2)
def zsrL (x : zX) (i : Nat) (f : Nat → Int64) : zX := (x.1, zup x.2.1 i f, x.2.2)
theorem zsrI_u {x : zX} {i : Nat} {f : Nat → Int32} : (zsrI x i f).1 i = f := zup_s
theorem zsrI_n {x : zX} {i j : Nat} {f : Nat → Int32} (h : j ≠ i) : (zsrI x i f).1 j = x.1 j := zup_n h
theorem zsrL_u {x : zX} {i : Nat} {f : Nat → Int64} : (zsrL x i f).2.1 i = f := zup_s
theorem zsrL_n {x : zX} {i j : Nat} {f : Nat → Int64} (h : j ≠ i) : (zsrL x i f).2.1 j = x.2.1 j := zup_n h
theorem zf_rI {G : zG} {x : zX} {i j : Nat} {f : Nat → Int32} (h : j ≠ i) : zf G (zsrI x i f) j = zf G x j := by
  show zB _ _ _ j ((zsrI x i f).1 j) _ _ = zB _ _ _ j (x.1 j) _ _
  rw [zsrI_n h]
  rfl
theorem zf_rL {G : zG} {x : zX} {i j : Nat} {f : Nat → Int64} (h : j ≠ i) : zf G (zsrL x i f) j = zf G x j := by
  show zB _ _ _ j _ ((zsrL x i f).2.1 j) _ = zB _ _ _ j _ (x.2.1 j) _
  rw [zsrL_n h]
  rfl
section ZY
variable {p : Program} {l : Launch} {e : Env} {R : Room} {s : State} {m : MethodId} {args : Array Value} {below : List Frame} {meth : Method} {c : Code} {H : Heap} {locs : List Loc} {cells slots : Nat} {Q : State → Prop}
variable {cc : ByteArray} {pc : Nat} {ls : Array Slot} {rest : List Value} {G : zG} {x : zX} {A : Nat → Prop} {H0 : Heap}
theorem z_copyl (hx : p.tables.exec = Jvm.exec) (hb : c.code = cc) (hml : c.maxLocals = ls.size) {own : String} {index : Nat} (hown : s.vm.findClass own = some m.cls) (hlink : (Cond.methodLink own index arraycopyName).before args s = true) (hnat : (Cond.native arraycopyName).before args s = true) (hstat : (Cond.static arraycopyName).before args s = true) (hini : (Cond.initialized "java/lang/System").before args s = true)
    (hK : va_K G.1 vwCl (zT G) s) (hI : zI G x A H0 H locs) {i0 i1 N0 N1 : Nat} (h0 : zLA G i0 N0) (h1 : zLA G i1 N1) {sp dp n : Nat} (hs : sp + n ≤ N0) (hd : dp + n ≤ N1) (h02 : N0 < 2 ^ 31) (h12 : N1 < 2 ^ 31)
    (hframes : 1 ≤ R.frames) (hlocals : (rest.map fun v => v.category).sum + (nativeFrameWords "java/lang/System" "arraycopy" 5 + 11) ≤ R.locals) (hdg : decode cc pc = .ok (.invokestatic index, 3))
    (kk : ∀ (H1 : Heap) (locs1 : List Loc), zI G (zsrL x i1 (va_cpy (x.2.1 i0) (x.2.1 i1) sp dp n)) A H0 H1 locs1 → W p l e R s m args below meth c H1 locs1 cells slots Q (F0 m (pc + 3) ls rest)) : W p l e R s m args below meth c H locs cells slots Q (F0 m pc ls (.int (nI n) :: .int (nI dp) :: .ref (za G i1) :: .int (nI sp) :: .ref (za G i0) :: rest)) := by
  have en : (nI n).toNatClampNeg = n := nI_clamp (by omega)
  have es : (nI sp).toNatClampNeg = sp := nI_clamp (by omega)
  have ed : (nI dp).toNatClampNeg = dp := nI_clamp (by omega)
  refine va_copyl hx hb hml hown hlink hnat hstat hini hK hI.1.1 hI.1.2 hI.2 i0 i1 3 3 (zw_of h0.1 (h0.2 x)) (zw_of h1.1 (h1.2 x)) rfl rfl rfl (nI_pos (by omega)) (nI_pos (by omega)) (nI_pos (by omega)) (by rw [es, en]; exact hs) (by rw [ed, en]; exact hd) (fun _ _ => rfl) hframes hlocals hdg (fun H1 locs1 hP hD hS => ?_)
  rw [en, es, ed] at hP hD
  have he := h1.2 (zsrL x i1 (va_cpy (x.2.1 i0) (x.2.1 i1) sp dp n))
  rw [zsrL_u] at he
  have e1 : (zW G x).set i1 (za G i1, .inl (G.2.1 3, N1, .inr (.inl (va_cpy (x.2.1 i0) (x.2.1 i1) sp dp n)))) = zW G (zsrL x i1 (va_cpy (x.2.1 i0) (x.2.1 i1) sp dp n)) := by
    rw [← he]
    exact zw_set h1.1 (fun j hj => zf_rL hj)
  have hP2 : va_P G.1 vwCl (zW G (zsrL x i1 (va_cpy (x.2.1 i0) (x.2.1 i1) sp dp n))) H1 := e1 ▸ hP
  have hD2 : va_D A (zW G (zsrL x i1 (va_cpy (x.2.1 i0) (x.2.1 i1) sp dp n))) := e1 ▸ hD
  exact kk H1 locs1 ⟨⟨hP2, hD2⟩, hS⟩
theorem z_copyi (hx : p.tables.exec = Jvm.exec) (hb : c.code = cc) (hml : c.maxLocals = ls.size) {own : String} {index : Nat} (hown : s.vm.findClass own = some m.cls) (hlink : (Cond.methodLink own index arraycopyName).before args s = true) (hnat : (Cond.native arraycopyName).before args s = true) (hstat : (Cond.static arraycopyName).before args s = true) (hini : (Cond.initialized "java/lang/System").before args s = true)
    (hK : va_K G.1 vwCl (zT G) s) (hI : zI G x A H0 H locs) (t : Nat) (ty : FieldType) {cT : ClassId} (ht : (zT G)[t]? = some (cT, ty)) (hprim : refKind ty = false) {i0 i1 N0 N1 : Nat} (h0 : i0 < zn G ∧ ∀ x, zf G x i0 = .inl (cT, N0, .inl (x.1 i0))) (h1 : i1 < zn G ∧ ∀ x, zf G x i1 = .inl (cT, N1, .inl (x.1 i1))) {sp dp n : Nat} (hs : sp + n ≤ N0) (hd : dp + n ≤ N1) (h02 : N0 < 2 ^ 31) (h12 : N1 < 2 ^ 31) (hfit : ∀ i, i < n → fits ty (.int (x.1 i0 (sp + i))) = true)
    (hframes : 1 ≤ R.frames) (hlocals : (rest.map fun v => v.category).sum + (nativeFrameWords "java/lang/System" "arraycopy" 5 + 11) ≤ R.locals) (hdg : decode cc pc = .ok (.invokestatic index, 3))
    (kk : ∀ (H1 : Heap) (locs1 : List Loc), zI G (zsrI x i1 (va_cpy (x.1 i0) (x.1 i1) sp dp n)) A H0 H1 locs1 → W p l e R s m args below meth c H1 locs1 cells slots Q (F0 m (pc + 3) ls rest)) : W p l e R s m args below meth c H locs cells slots Q (F0 m pc ls (.int (nI n) :: .int (nI dp) :: .ref (za G i1) :: .int (nI sp) :: .ref (za G i0) :: rest)) := by
  have en : (nI n).toNatClampNeg = n := nI_clamp (by omega)
  have es : (nI sp).toNatClampNeg = sp := nI_clamp (by omega)
  have ed : (nI dp).toNatClampNeg = dp := nI_clamp (by omega)
  refine va_copyi hx hb hml hown hlink hnat hstat hini hK hI.1.1 hI.1.2 hI.2 i0 i1 t t (zw_of h0.1 (h0.2 x)) (zw_of h1.1 (h1.2 x)) ht ht hprim (nI_pos (by omega)) (nI_pos (by omega)) (nI_pos (by omega)) (by rw [es, en]; exact hs) (by rw [ed, en]; exact hd) (by rw [es, en]; exact hfit) hframes hlocals hdg (fun H1 locs1 hP hD hS => ?_)
  rw [en, es, ed] at hP hD
  have he := h1.2 (zsrI x i1 (va_cpy (x.1 i0) (x.1 i1) sp dp n))
  rw [zsrI_u] at he
  have e1 : (zW G x).set i1 (za G i1, .inl (cT, N1, .inl (va_cpy (x.1 i0) (x.1 i1) sp dp n))) = zW G (zsrI x i1 (va_cpy (x.1 i0) (x.1 i1) sp dp n)) := by
    rw [← he]
    exact zw_set h1.1 (fun j hj => zf_rI hj)
  have hP2 : va_P G.1 vwCl (zW G (zsrI x i1 (va_cpy (x.1 i0) (x.1 i1) sp dp n))) H1 := e1 ▸ hP
  have hD2 : va_D A (zW G (zsrI x i1 (va_cpy (x.1 i0) (x.1 i1) sp dp n))) := e1 ▸ hD
  exact kk H1 locs1 ⟨⟨hP2, hD2⟩, hS⟩
end ZY
/-- a tape's length, in the class and in the reference -/
def zsz (x : zX) (t : Nat) : Nat := (x.1 27 t).toNatClampNeg
def zszR (x : zX) (t : Nat) : Nat := (x.1 109 t).toNatClampNeg
def zTp (x : zX) : Prop := ∀ t, t < 6 → x.1 27 t = nI (zsz x t) ∧ zsz x t ≤ 60
def zTpR (x : zX) : Prop := ∀ t, t < 6 → x.1 109 t = nI (zszR x t) ∧ zszR x t ≤ 60
theorem z_mono {a b : Nat} {i : Int32} (h : ¬ nI a ≤ i) (hab : a ≤ b) (hb : b < 2 ^ 31) : ¬ nI b ≤ i := by
  rw [Int32.le_iff_toInt_le, nI_toInt (by omega)] at h
  rw [Int32.le_iff_toInt_le, nI_toInt hb]
  omega
/-- in a place from lo to a length less one, as the reference asks it -/
theorem zin_n {n : Nat} {i : Int32} (hn : n ≤ 60) : (¬ i < nI 0 ∧ ¬ (nI n - nI 1) < i) ↔ zin n i := by
  have h1 : (nI n - nI 1).toInt = (n : Int) - 1 := pk_sub_toInt (by omega) (by omega)
  have h2 : (nI n).toInt = (n : Int) := nI_toInt (by omega)
  have h3 : (nI 0) = (0 : Int32) := rfl
  unfold zin
  rw [h3, Int32.lt_iff_toInt_lt, Int32.le_iff_toInt_le, Int32.lt_iff_toInt_lt, h1, h2, Int32.toInt_zero]
  omega
/-- the first j places of a row of longs are 0 -/
def zclr (f : Nat → Int64) (o j : Nat) : Nat → Int64 := fun k => if o ≤ k ∧ k < o + j then 0 else f k
theorem zclr_0 {f : Nat → Int64} {o : Nat} : zclr f o 0 = f := funext fun k => if_neg (by omega)
theorem zclr_s {f : Nat → Int64} {o j : Nat} : vp_updL (zclr f o j) (o + j) 0 = zclr f o (j + 1) := by
  funext k
  unfold vp_updL zclr
  by_cases h : k = o + j
  · rw [if_pos h, if_pos (by omega)]
  · rw [if_neg h]
    by_cases h2 : o ≤ k ∧ k < o + j
    · rw [if_pos h2, if_pos (by omega)]
    · rw [if_neg h2, if_neg (by omega)]
theorem zsL_r {x : zX} {i k : Nat} {y : Int64} : zsL x i k y = zsrL x i (vp_updL (x.2.1 i) k y) := rfl
theorem zsrL_t {x : zX} {i : Nat} {f g : Nat → Int64} : zsrL (zsrL x i f) i g = zsrL x i g := by
  unfold zsrL
  refine congrArg (fun q => (x.1, q, x.2.2)) (funext fun k => ?_)
  by_cases h : k = i
  · subst h; rw [zup_s, zup_s]
  · rw [zup_n h, zup_n h]; exact zup_n h
theorem zsrL_e {x : zX} {i : Nat} : zsrL x i (x.2.1 i) = x := by
  unfold zsrL
  refine congrArg (fun q => (x.1, q, x.2.2)) (funext fun k => ?_)
  by_cases h : k = i
  · subst h; rw [zup_s]
  · rw [zup_n h]
theorem zsI_r {x : zX} {i k : Nat} {y : Int32} : zsI x i k y = zsrI x i (upd (x.1 i) k y) := rfl
theorem zsrI_t {x : zX} {i : Nat} {f g : Nat → Int32} : zsrI (zsrI x i f) i g = zsrI x i g := by
  unfold zsrI
  refine congrArg (fun q => (q, x.2)) (funext fun k => ?_)
  by_cases h : k = i
  · subst h; rw [zup_s, zup_s]
  · rw [zup_n h, zup_n h]; exact zup_n h
theorem zsrI_e {x : zX} {i : Nat} : zsrI x i (x.1 i) = x := by
  unfold zsrI
  refine congrArg (fun q => (q, x.2)) (funext fun k => ?_)
  by_cases h : k = i
  · subst h; rw [zup_s]
  · rw [zup_n h]
