/-! PUPILS MADE: a setting with one more cell, the constructors of the seven kinds -/
def zGx (G : zG) (q kd : Nat) : zG := (G.1, G.2.1, zup (za G) (zn G) q, zup (zk G) (zn G) kd, zn G + 1)
/-- a row of pupils names cells that are there -/
def zPw (G : zG) (x : zX) : Prop := ∀ i j k : Nat, x.2.2 i j = some k → k < zn G
def zpN (x : zX) (i : Nat) (a1 a2 a3 a4 a5 : Int32) : zX := zsI (zsI (zsI (zsI (zsI x i 0 a1) i 1 a2) i 2 a3) i 3 a4) i 4 a5
def zp0 (x : zX) (i : Nat) : zX := (zup x.1 i (fun _ => 0), x.2)
def zMade (x : zX) (i : Nat) (a1 a2 a3 a4 a5 : Int32) : zX := zpN (zp0 x i) i a1 a2 a3 a4 a5
theorem zGx_ok {G : zG} {q kd : Nat} (hG : zOK G) (hk : kd = 0 ∨ kd = 1 ∨ kd = 2 ∨ kd = 3 ∨ kd = 4 ∨ kd = 8 ∨ kd = 10) : zOK (zGx G q kd) := by
  refine ⟨Nat.le_succ_of_le hG.1, fun i h1 h2 => ?_⟩
  show zup (zk G) (zn G) kd i = 0 ∨ _
  by_cases e : i = zn G
  · subst e
    show zup (zk G) (zn G) kd (zn G) = 0 ∨ zup (zk G) (zn G) kd (zn G) = 1 ∨ zup (zk G) (zn G) kd (zn G) = 2 ∨ zup (zk G) (zn G) kd (zn G) = 3 ∨ zup (zk G) (zn G) kd (zn G) = 4 ∨ zup (zk G) (zn G) kd (zn G) = 8 ∨ zup (zk G) (zn G) kd (zn G) = 10
    rw [zup_s]
    exact hk
  · have h3 : i < zn G + 1 := h2
    have h4 := hG.2 i h1 (by omega)
    show zup (zk G) (zn G) kd i = 0 ∨ zup (zk G) (zn G) kd i = 1 ∨ zup (zk G) (zn G) kd i = 2 ∨ zup (zk G) (zn G) kd i = 3 ∨ zup (zk G) (zn G) kd i = 4 ∨ zup (zk G) (zn G) kd i = 8 ∨ zup (zk G) (zn G) kd i = 10
    rw [zup_n e]
    exact h4
theorem zGx_a {G : zG} {q kd i : Nat} (h : i ≠ zn G) : za (zGx G q kd) i = za G i := zup_n h
theorem zGx_s {G : zG} {q kd : Nat} : za (zGx G q kd) (zn G) = q := zup_s
theorem zGx_k {G : zG} {q kd : Nat} : zk (zGx G q kd) (zn G) = kd := zup_s
theorem zGx_kn {G : zG} {q kd i : Nat} (h : i ≠ zn G) : zk (zGx G q kd) i = zk G i := zup_n h
theorem zGx_n {G : zG} {q kd : Nat} : zn (zGx G q kd) = zn G + 1 := rfl
section ZBE
variable {aT : Nat → ClassId} {ad ad' kd kd' : Nat → Nat} {i : Nat} {v : Nat → Int32} {l : Nat → Int64} {p : Nat → Option Nat}
theorem zBm_e (e : ∀ j, j < 112 → ad j = ad' j) : zBm aT ad i v l p = zBm aT ad' i v l p := by
  unfold zBm
  simp only [e 78 (by decide), e 79 (by decide), e 80 (by decide), e 81 (by decide), e 82 (by decide), e 83 (by decide), e 84 (by decide), e 85 (by decide), e 86 (by decide), e 87 (by decide), e 88 (by decide), e 89 (by decide), e 90 (by decide), e 91 (by decide), e 92 (by decide), e 93 (by decide), e 94 (by decide), e 95 (by decide), e 96 (by decide), e 97 (by decide), e 98 (by decide), e 99 (by decide), e 100 (by decide), e 101 (by decide), e 102 (by decide), e 103 (by decide), e 104 (by decide), e 105 (by decide), e 106 (by decide), e 107 (by decide), e 108 (by decide), e 109 (by decide), e 110 (by decide), e 111 (by decide)]
theorem zBc_e (e : ∀ j, j < 112 → ad j = ad' j) (hp : ∀ j k, p j = some k → ad k = ad' k) : zBc aT ad i v l p = zBc aT ad' i v l p := by
  have ep : (fun j => (p j).map ad) = fun j => (p j).map ad' := funext fun j => by
    cases h : p j with
    | none => rfl
    | some k => exact congrArg some (hp j k h)
  have er : (fun j => if j < 6 then some (ad (28 + 7 * j)) else none) = fun j => if j < 6 then some (ad' (28 + 7 * j)) else none := funext fun j => by
    by_cases h : j < 6
    · rw [if_pos h, if_pos h, e _ (by omega)]
    · rw [if_neg h, if_neg h]
  have ei : (fun j => if j < 6 then some (ad (20 + j)) else none) = fun j => if j < 6 then some (ad' (20 + j)) else none := funext fun j => by
    by_cases h : j < 6
    · rw [if_pos h, if_pos h, e _ (by omega)]
    · rw [if_neg h, if_neg h]
  unfold zBc
  rw [ep, er, ei]
  simp only [e 1 (by decide), e 2 (by decide), e 3 (by decide), e 4 (by decide), e 5 (by decide), e 6 (by decide), e 7 (by decide), e 8 (by decide), e 9 (by decide), e 10 (by decide), e 11 (by decide), e 12 (by decide), e 13 (by decide), e 14 (by decide), e 15 (by decide), e 16 (by decide), e 17 (by decide), e 18 (by decide), e 19 (by decide), e 26 (by decide), e 27 (by decide), e 70 (by decide)]
theorem zBr_e (e : ∀ j, j < 112 → ad j = ad' j) (hi : i < 77) {j : Nat} : zBr aT ad i j v = zBr aT ad' i j v := by
  unfold zBr
  simp only [e (i + 1) (by omega), e (i + 2) (by omega), e (i + 3) (by omega), e (i + 4) (by omega), e (i + 5) (by omega), e (i + 6) (by omega)]
theorem zB_e (e : ∀ j, j < 112 → ad j = ad' j) (hk : kd i = kd' i) (hp : ∀ j k, p j = some k → ad k = ad' k) : zB aT ad kd i v l p = zB aT ad' kd' i v l p := by
  unfold zB
  by_cases h1 : i < 28
  · rw [if_pos h1, if_pos h1]
    exact zBc_e e hp
  · rw [if_neg h1, if_neg h1]
    by_cases h2 : i < 77
    · rw [if_pos h2, if_pos h2]
      exact zBr_e e h2
    · rw [if_neg h2, if_neg h2]
      by_cases h3 : i < 112
      · rw [if_pos h3, if_pos h3]
        exact zBm_e e
      · rw [if_neg h3, if_neg h3, hk]
end ZBE
theorem zf_x {G : zG} {q kd : Nat} (hG : zOK G) {x : zX} (hp : zPw G x) {i : Nat} (hi : i < zn G) : zf (zGx G q kd) x i = zf G x i := by
  have h112 := hG.1
  exact zB_e (fun j hj => zup_n (by omega)) (zup_n (by omega)) (fun j k hk => zup_n (by have := hp i j k hk; omega))
theorem zf_p0 {G : zG} {x : zX} {i j : Nat} (h : j ≠ i) : zf G (zp0 x i) j = zf G x j := by
  show zB _ _ _ j ((zp0 x i).1 j) _ _ = zB _ _ _ j (x.1 j) _ _
  rw [show (zp0 x i).1 j = x.1 j from zup_n h]
  rfl
theorem zGx_W {G : zG} {q kd : Nat} (hG : zOK G) {x : zX} (hp : zPw G x) : zW (zGx G q kd) (zp0 x (zn G)) = zW G x ++ [(q, .inr (kd, [.int 0, .int 0, .int 0, .int 0, .int 0]))] := by
  show (List.range (zn G + 1)).map (fun i => (za (zGx G q kd) i, zf (zGx G q kd) (zp0 x (zn G)) i)) = (List.range (zn G)).map (fun i => (za G i, zf G x i)) ++ _
  rw [List.range_succ, List.map_append]
  congr 1
  · apply List.map_congr_left
    intro i hi
    have hi := List.mem_range.mp hi
    have h2 : zf (zGx G q kd) (zp0 x (zn G)) i = zf G x i := (zf_p0 (by omega)).trans (zf_x hG hp hi)
    have h1 : za (zGx G q kd) i = za G i := zup_n (by omega)
    show (za (zGx G q kd) i, zf (zGx G q kd) (zp0 x (zn G)) i) = (za G i, zf G x i)
    rw [h1, h2]
  · have h112 := hG.1
    have h1 : zf (zGx G q kd) (zp0 x (zn G)) (zn G) = .inr (kd, [.int 0, .int 0, .int 0, .int 0, .int 0]) := by
      show zB _ _ _ (zn G) _ _ _ = _
      unfold zB
      rw [if_neg (by omega), if_neg (by omega), if_neg (by omega)]
      show Sum.inr (zk (zGx G q kd) (zn G), _) = _
      rw [zGx_k]
      show Sum.inr (kd, [Value.int (zup x.1 (zn G) (fun _ => 0) (zn G) 0), Value.int (zup x.1 (zn G) (fun _ => 0) (zn G) 1), Value.int (zup x.1 (zn G) (fun _ => 0) (zn G) 2), Value.int (zup x.1 (zn G) (fun _ => 0) (zn G) 3), Value.int (zup x.1 (zn G) (fun _ => 0) (zn G) 4)]) = _
      rw [zup_s]
    show [(za (zGx G q kd) (zn G), zf (zGx G q kd) (zp0 x (zn G)) (zn G))] = _
    rw [h1, zGx_s]
theorem zPw.made {G : zG} {x : zX} (h : zPw G x) {q kd i : Nat} {a1 a2 a3 a4 a5 : Int32} : zPw (zGx G q kd) (zMade x i a1 a2 a3 a4 a5) := fun i j k hk => Nat.lt_succ_of_lt (h i j k hk)
/-! ROWS -/
def zPreN (G : zG) (x : zX) (A : Nat → Prop) (U : State) : Prop := zPre G x A U ∧ ∀ q : Nat, U.heap.size ≤ q → A q
theorem zPreN.blind {G : zG} {x : zX} {A : Nat → Prop} {av : List Value} : FrameBlind (va_Pc av (zPreN G x A)) := fun a U g mk h => ⟨h.1, ⟨h.2.1.1, va_K.moved (u := U) (U := U.calling g mk a) (Vm.Alike.refl U.vm) h.2.1.2.1, h.2.1.2.2.blind⟩, h.2.2⟩
theorem zPreN.go {G : zG} {x : zX} {A : Nat → Prop} {s U : State} {H : Heap} {locs : List Loc} (hI : zI G x A s.heap H locs) (hK : va_K G.1 vwCl (zT G) s) (hN : zN A s) (hA : ∀ q : Nat, s.heap.size ≤ q → A q) (hU : U.heap = H) (hW : s.WarmedH U.vm) : zPreN G x A U := ⟨zPre.go hI hK hN hU hW, fun q hq => hA q (by rw [hU] at hq; exact Nat.le_trans hI.2.1 hq)⟩
/-- makes a pupil, answers it -/
def zMm (l : Launch) (y : MethodName) (ws : List Cond) (rm : Room) (G : zG) (av : List Value) (x : zX) (post : zG × zX → Prop) : Prop := ∀ A : Nat → Prop, Met l y ws rm (va_Pc av (zPreN G x A)) (va_Qr post (fun u a t => a = za u.1 (zn G) ∧ zJ u.1 u.2 A t.heap) A) 1 5 A
/-- may make a pupil, answers a number -/
def zMg (l : Launch) (y : MethodName) (ws : List Cond) (rm : Room) (G : zG) (av : List Value) (x : zX) (post : Int32 → zG × zX → Prop) : Prop := ∀ A : Nat → Prop, Met l y ws rm (va_Pc av (zPreN G x A)) (va_Qi post (fun u t => zJ u.1 u.2 A t.heap) A) 1 5 A
section ZX
variable {p : Program} {l : Launch} {e : Env} {R : Room} {s : State} {m : MethodId} {args : Array Value} {below : List Frame} {meth : Method} {c : Code} {H : Heap} {locs : List Loc} {cells slots : Nat} {Q : State → Prop}
variable {cc : ByteArray} {pc : Nat} {ls : Array Slot} {rest st0 : List Value} {G : zG} {x : zX} {A : Nat → Prop} {H0 : Heap} {a : Array Value}
/-- a way that makes fewer cells than another -/
theorem zmore {c2 s2 : Nat} {g : JFrame} (h1 : cells ≤ c2) (h2 : slots ≤ s2) (kk : W p l e R s m args below meth c H locs c2 s2 Q g) : W p l e R s m args below meth c H locs cells slots Q g := by
  intro T hT X
  obtain ⟨q1, q2, q3, q4, q5, q6⟩ := X.same
  exact kk T hT ⟨X.admits, X.cas, X.clock, X.frames, X.room, X.hears, X.method, X.code, X.here, X.tail, X.warmed, X.limits, X.bytes, ⟨q1, q2, Nat.le_trans q3 (Nat.add_le_add_left h1 _), q4, Nat.le_trans q5 h2, q6⟩⟩
theorem zBodyI {y : MethodName} {ws ws' : List Cond} {rm : Room} {av : List Value} {ret : Option FieldType} {maxL : Nat} {Qc : Array Value → State → Outcome → State → Prop} (hy : plainName y.cls = true) (hw : ws = Cond.code y cc maxL ret :: ws') (h1 : (lg_sl av).length ≤ maxL)
    (body : ∀ (p : Program) (e : Env) (s : State) (m : MethodId) (below : List Frame) (meth : Method) (c : Code), p.tables.exec = Jvm.exec → c.code = cc → c.maxLocals = maxL → s.vm.findClass y.cls = some m.cls → (∀ w ∈ ws, w.before av.toArray s = true) → meth.sig.returnType = ret → meth.locks = false → meth.name = y.name → va_K G.1 vwCl (zT G) s → zN A s → zI G x A s.heap s.heap [] → ∀ ls : Array Slot, lv_has ls maxL (lv_args 0 av) →
      W p l e rm s m av.toArray below meth c s.heap [] 0 0 (MQ below Qc av.toArray s 0 0 A) (F0 m 0 ls [])) : Met l y ws rm (va_Pc av (zPre G x A)) Qc 0 0 A := by
  refine Met.ofW (cc := cc) (maxL := maxL) (ret := ret) hy hw ?_
  intro p e s m args below meth c s₁ B hml hv
  obtain ⟨rfl, hJ, hK, hN⟩ := hv
  have hl := lv_entry av (n := maxL) h1
  rw [lg_entry_eq]
  generalize (lg_sl av ++ List.replicate (maxL - (lg_sl av).length) Slot.unset).toArray = ls at hl ⊢
  exact body p e s m below meth c B.exec B.bytes hml (findClass_of_methodNamed B.named) (atoms_spec (ws := ws) B.pre) B.returns B.notSynchronized (name_of_methodNamed B.named B.method).1 hK hN ⟨hJ, va_S.rf⟩ ls hl
theorem zBodyN {y : MethodName} {ws ws' : List Cond} {rm : Room} {av : List Value} {ret : Option FieldType} {maxL mc ms : Nat} {Qc : Array Value → State → Outcome → State → Prop} (hy : plainName y.cls = true) (hw : ws = Cond.code y cc maxL ret :: ws') (h1 : (lg_sl av).length ≤ maxL)
    (body : ∀ (p : Program) (e : Env) (s : State) (m : MethodId) (below : List Frame) (meth : Method) (c : Code), p.tables.exec = Jvm.exec → c.code = cc → c.maxLocals = maxL → s.vm.findClass y.cls = some m.cls → (∀ w ∈ ws, w.before av.toArray s = true) → meth.sig.returnType = ret → meth.locks = false → va_K G.1 vwCl (zT G) s → zN A s → (∀ q : Nat, s.heap.size ≤ q → A q) → zI G x A s.heap s.heap [] → ∀ ls : Array Slot, lv_has ls maxL (lv_args 0 av) →
      W p l e rm s m av.toArray below meth c s.heap [] 0 0 (MQ below Qc av.toArray s mc ms A) (F0 m 0 ls [])) : Met l y ws rm (va_Pc av (zPreN G x A)) Qc mc ms A := by
  refine Met.ofW (cc := cc) (maxL := maxL) (ret := ret) hy hw ?_
  intro p e s m args below meth c s₁ B hml hv
  obtain ⟨rfl, ⟨hJ, hK, hN⟩, hA⟩ := hv
  have hl := lv_entry av (n := maxL) h1
  rw [lg_entry_eq]
  generalize (lg_sl av ++ List.replicate (maxL - (lg_sl av).length) Slot.unset).toArray = ls at hl ⊢
  exact body p e s m below meth c B.exec B.bytes hml (findClass_of_methodNamed B.named) (atoms_spec (ws := ws) B.pre) B.returns B.notSynchronized hK hN hA ⟨hJ, va_S.rf⟩ ls hl
theorem z_pSN {As : List Value} (hI : zI G x A s.heap H locs) (hK : va_K G.1 vwCl (zT G) s) (hN : zN A s) (hA : ∀ q : Nat, s.heap.size ≤ q → A q) : PreS s H (va_Pc As (zPreN G x A)) As := ⟨zPreN.blind, fun U hU hW => ⟨rfl, zPreN.go hI hK hN hA hU hW⟩⟩
theorem z_putT (hx : p.tables.exec = Jvm.exec) (hb : c.code = cc) {own ref C : String} {T : u_T} {ci index : Nat} {Ts : List Cond} (hts : ∀ w ∈ Ts, w.before args s = true) (hin : ∀ w ∈ u_ws C T 5, w ∈ Ts) (hT : ∀ k, T k = TX4 k) (hown : s.vm.findClass own = some m.cls) (hK : va_K G.1 vwCl (zT G) s) (hI : zI G x A H0 H locs) {i : Nat} (ho : zOB G i ci zFp) (hc : vwCl[ci]? = some (C, T, 5)) (k : Nat) (hk : k < 5) (hlink : (Cond.fieldLink own index ref (TX4 k).2.1 (TX4 k).2.2.1).before args s = true) (hsame : ∀ x, s.fieldFound? (TX4 k).1 (TX4 k).2.1 (TX4 k).2.2.1 = some x → s.fieldFound? ref (TX4 k).2.1 (TX4 k).2.2.1 = some x) (hin2 : meth.name = "<init>") (hdecl : "WhoSitsBy$Pupil" = own) {y : Int32} (hdg : decode cc pc = .ok (.putfield index, 3))
    (kk : ∀ (H1 : Heap) (locs1 : List Loc), zI G (zsI x i k y) A H0 H1 locs1 → W p l e R s m args below meth c H1 locs1 cells slots Q (F0 m (pc + 3) ls rest)) : W p l e R s m args below meth c H locs cells slots Q (F0 m pc ls (.int y :: .ref (za G i) :: rest)) := by
  have h5 : k = 0 ∨ k = 1 ∨ k = 2 ∨ k = 3 ∨ k = 4 := by omega
  have hF : ∀ (v : Nat → Int32) (l : Nat → Int64), zFp (upd v k y) l = (zFp v l).set k (.int y) := by
    intro v l
    rcases h5 with rfl | rfl | rfl | rfl | rfl <;> rfl
  have hTT : T = TX4 := funext hT
  subst hTT
  have hd : parseFieldDescriptor (TX4 k).2.2.1 = some .int := (tyX4_ok k hk).trans (congrArg some (by rcases h5 with rfl | rfl | rfl | rfl | rfl <;> rfl))
  refine va_putF hx hb hts hin tyX4 tyX4_ok nmX4 hown hK hI.1.1 hI.1.2 hI.2 i (zw_of ho.1 (ho.2 x)) hc k hk hlink hsame (by rcases h5 with rfl | rfl | rfl | rfl | rfl <;> rfl) hin2 (by rw [← hdecl]; rcases h5 with rfl | rfl | rfl | rfl | rfl <;> rfl) hd rfl rfl hk hdg (fun H1 locs1 hP hD hS => ?_)
  have e1 := zset_I (k := k) (y := y) ho.1 (ho.2 (zsI x i k y))
  rw [zsI_u, hF] at e1
  have e2 : (zW G x).set i (za G i, .inr (ci, (zFp (x.1 i) (x.2.1 i)).set k (.int y))) = zW G (zsI x i k y) := e1
  rw [e2] at hP hD
  exact kk H1 locs1 ⟨⟨hP, hD⟩, hS⟩
theorem z_putP (hx : p.tables.exec = Jvm.exec) (hb : c.code = cc) {own ref : String} {index : Nat} {Ts : List Cond} (hts : ∀ w ∈ Ts, w.before args s = true) (hin : (∀ w ∈ wsX00, w ∈ Ts) ∧ (∀ w ∈ wsX10, w ∈ Ts) ∧ (∀ w ∈ wsX20, w ∈ Ts) ∧ (∀ w ∈ wsX30, w ∈ Ts) ∧ (∀ w ∈ wsX40, w ∈ Ts) ∧ (∀ w ∈ wsX80, w ∈ Ts) ∧ (∀ w ∈ wsX100, w ∈ Ts)) (hown : s.vm.findClass own = some m.cls) (hK : va_K G.1 vwCl (zT G) s) (hG : zOK G) (hI : zI G x A H0 H locs) {i : Nat} (h1 : 112 ≤ i) (h2 : i < zn G) (k : Nat) (hk : k < 5) (hlink : (Cond.fieldLink own index ref (TX4 k).2.1 (TX4 k).2.2.1).before args s = true) (hsame : ∀ x, s.fieldFound? (TX4 k).1 (TX4 k).2.1 (TX4 k).2.2.1 = some x → s.fieldFound? ref (TX4 k).2.1 (TX4 k).2.2.1 = some x) (hin2 : meth.name = "<init>") (hdecl : "WhoSitsBy$Pupil" = own) {y : Int32} (hdg : decode cc pc = .ok (.putfield index, 3))
    (kk : ∀ (H1 : Heap) (locs1 : List Loc), zI G (zsI x i k y) A H0 H1 locs1 → W p l e R s m args below meth c H1 locs1 cells slots Q (F0 m (pc + 3) ls rest)) : W p l e R s m args below meth c H locs cells slots Q (F0 m pc ls (.int y :: .ref (za G i) :: rest)) := by
  obtain ⟨i0, i1, i2, i3, i4, i8, i10⟩ := hin
  have ho := zop (G := G) h1 h2
  rcases hG.2 i h1 h2 with h | h | h | h | h | h | h <;> rw [h] at ho
  · exact z_putT hx hb hts i0 zTe0 hown hK hI ho rfl k hk hlink hsame hin2 hdecl hdg kk
  · exact z_putT hx hb hts i1 zTe1 hown hK hI ho rfl k hk hlink hsame hin2 hdecl hdg kk
  · exact z_putT hx hb hts i2 zTe2 hown hK hI ho rfl k hk hlink hsame hin2 hdecl hdg kk
  · exact z_putT hx hb hts i3 zTe3 hown hK hI ho rfl k hk hlink hsame hin2 hdecl hdg kk
  · exact z_putT hx hb hts i4 (fun _ => rfl) hown hK hI ho rfl k hk hlink hsame hin2 hdecl hdg kk
  · exact z_putT hx hb hts i8 zTe8 hown hK hI ho rfl k hk hlink hsame hin2 hdecl hdg kk
  · exact z_putT hx hb hts i10 zTe10 hown hK hI ho rfl k hk hlink hsame hin2 hdecl hdg kk
/-- new, of a pupil's kind -/
theorem z_new (hx : p.tables.exec = Jvm.exec) (hb : c.code = cc) {own C : String} {T : u_T} {ci index : Nat} {Ts : List Cond} (hts : ∀ w ∈ Ts, w.before args s = true) (hin : ∀ w ∈ u_ws C T 5, w ∈ Ts) (hT : ∀ k, T k = TX4 k) (hown : s.vm.findClass own = some m.cls) (hcl : (Cond.classLink own index C).before args s = true) (hinst : (Cond.instantiable C 5).before args s = true) (hini : (Cond.initialized C).before args s = true)
    (hK : va_K G.1 vwCl (zT G) s) (hG : zOK G) (hp : zPw G x) (hI : zI G x A H0 H locs) (hA : ∀ q : Nat, H0.size ≤ q → A q) (hc : vwCl[ci]? = some (C, T, 5)) (hcells : cells + 1 ≤ R.cells) (hslots : slots + 5 ≤ R.slots) (hdg : decode cc pc = .ok (.new index, 3))
    (kk : ∀ (q : Nat) (H1 : Heap), zI (zGx G q ci) (zp0 x (zn G)) A H0 H1 locs → W p l e R s m args below meth c H1 locs (cells + 1) (slots + 5) Q (F0 m (pc + 3) ls (.ref (za (zGx G q ci) (zn G)) :: rest))) : W p l e R s m args below meth c H locs cells slots Q (F0 m pc ls rest) := by
  have hTT : T = TX4 := funext hT
  subst hTT
  refine va_new (ci := ci) (fs := [.int 0, .int 0, .int 0, .int 0, .int 0]) (C := C) (T := TX4) (N := 5) hx hb hts hin tyX4 tyX4_ok hown hcl hinst hini hK hI.1.1 hI.1.2 hI.2 hA hc (fun j hj => by rcases (show j = 0 ∨ j = 1 ∨ j = 2 ∨ j = 3 ∨ j = 4 by omega) with rfl | rfl | rfl | rfl | rfl <;> rfl) hcells hslots hdg (fun q H1 hP hD hS => ?_)
  rw [← zGx_W hG hp] at hP hD
  have h9 := kk q H1 ⟨⟨hP, hD⟩, hS⟩
  rw [zGx_s] at h9
  exact h9
theorem z_callm {post : zG × zX → Prop} (hr : va_Run p l e R s m args below meth c H locs cells slots 1 5 (F0 m pc ls st0) rest (va_Qr post (fun u a t => a = za u.1 (zn G) ∧ zJ u.1 u.2 A t.heap) A a) A) (hI : zI G x A H0 H locs)
    (kk : ∀ (u : zG × zX) (H1 : Heap) (locs1 : List Loc), post u → zI u.1 u.2 A H0 H1 locs1 → W p l e R s m args below meth c H1 locs1 (cells + 1) (slots + 5) Q (F0 m (pc + 3) ls (.ref (za u.1 (zn G)) :: rest))) : W p l e R s m args below meth c H locs cells slots Q (F0 m pc ls st0) :=
  va_callr hr hI.2 (fun _ _ h => h) (fun _ h => h) (fun u ra t H1 locs1 ht _ hw hB _ _ hS => by
    obtain ⟨rfl, hB⟩ := hB
    exact kk u H1 locs1 hw ⟨(by rw [← ht]; exact hB), hS⟩)
theorem z_mret {G' : zG} {x' : zX} {post : zG × zX → Prop} {o : Nat} {rt : FieldType} (hx : p.tables.exec = Jvm.exec) (hb : c.code = cc) (hr : meth.sig.returnType = some rt) (hrt : (∃ n, rt = .object n) ∨ ∃ t, rt = .array t) (hlocks : meth.locks = false) (hI : zI G' x' A s.heap H locs) (hp : post (G', x')) (ho : o = za G' (zn G)) (hdg : decode cc pc = .ok (.areturn, 1)) :
    W p l e R s m args below meth c H locs cells slots (MQ below (va_Qr post (fun u a t => a = za u.1 (zn G) ∧ zJ u.1 u.2 A t.heap) A) args s cells slots A) (F0 m pc ls [.ref o]) :=
  W.aret hx hb hr hrt (Or.inr ⟨_, rfl⟩) (fun t ht hW => ⟨⟨(G', x'), o, rfl, hp, ho, by show zJ G' x' A t.heap; rw [ht]; exact hI.1⟩, hI.2.F ht⟩) hI.2.2.2 hdg hlocks
theorem z_gret {G' : zG} {x' : zX} {post : Int32 → zG × zX → Prop} {v : Int32} (hx : p.tables.exec = Jvm.exec) (hb : c.code = cc) (hr : meth.sig.returnType = some .int) (hlocks : meth.locks = false) (hI : zI G' x' A s.heap H locs) (hp : post v (G', x')) (hdg : decode cc pc = .ok (.ireturn, 1)) :
    W p l e R s m args below meth c H locs cells slots (MQ below (va_Qi post (fun u t => zJ u.1 u.2 A t.heap) A) args s cells slots A) (F0 m pc ls [.int v]) :=
  W.iret hx hb hr (fun t ht hW => ⟨⟨v, (G', x'), rfl, hp, by show zJ G' x' A t.heap; rw [ht]; exact hI.1⟩, hI.2.F ht⟩) hI.2.2.2 hdg hlocks
end ZX
/-! THE CONSTRUCTORS -/
set_option maxHeartbeats 4000000 in
set_option maxRecDepth 100000 in
theorem c_X4_init (l : Launch) {G : zG} (hG : zOK G) (x : zX) (i : Nat) (h1 : 112 ≤ i) (h2 : i < zn G) (a1 a2 a3 a4 a5 : Int32) : zMv l yX4_init wsX4_init { frames := 1, cells := 0, slots := 0, locals := 12 } G [.ref (za G i), .int a1, .int a2, .int a3, .int a4, .int a5] x (fun u : zX => zpN x i a1 a2 a3 a4 a5 = u) := by
  intro A
  refine zBodyI (cc := cX4_init) (maxL := 6) (ret := none) (by decide) rfl (Nat.le_of_ble_eq_true rfl) ?_
  intro p e s m below meth c hx hb hml hown hts hr hlocks hin9 hK hN hI ls hl
  have hown : s.vm.findClass RX4 = some m.cls := hown
  have hl : lv_has ls 6 [(0, .ref (za G i)), (1, .int a1), (2, .int a2), (3, .int a3), (4, .int a4), (5, .int a5)] := hl
  have hin9 : meth.name = "<init>" := hin9
  have hin0 : ∀ w ∈ wsX00, w ∈ wsX4_init := fun _ h => List.mem_cons_of_mem _ (List.mem_append_left _ (List.mem_append_left _ (List.mem_append_left _ (List.mem_append_left _ (List.mem_append_left _ (List.mem_append_left _ (List.mem_append_right _ h)))))))
  have hin1 : ∀ w ∈ wsX10, w ∈ wsX4_init := fun _ h => List.mem_cons_of_mem _ (List.mem_append_left _ (List.mem_append_left _ (List.mem_append_left _ (List.mem_append_left _ (List.mem_append_left _ (List.mem_append_right _ h))))))
  have hin2 : ∀ w ∈ wsX20, w ∈ wsX4_init := fun _ h => List.mem_cons_of_mem _ (List.mem_append_left _ (List.mem_append_left _ (List.mem_append_left _ (List.mem_append_left _ (List.mem_append_right _ h)))))
  have hin3 : ∀ w ∈ wsX30, w ∈ wsX4_init := fun _ h => List.mem_cons_of_mem _ (List.mem_append_left _ (List.mem_append_left _ (List.mem_append_left _ (List.mem_append_right _ h))))
  have hin4 : ∀ w ∈ wsX40, w ∈ wsX4_init := fun _ h => List.mem_cons_of_mem _ (List.mem_append_left _ (List.mem_append_left _ (List.mem_append_right _ h)))
  have hin8 : ∀ w ∈ wsX80, w ∈ wsX4_init := fun _ h => List.mem_cons_of_mem _ (List.mem_append_left _ (List.mem_append_right _ h))
  have hin10 : ∀ w ∈ wsX100, w ∈ wsX4_init := fun _ h => List.mem_cons_of_mem _ (List.mem_append_right _ h)
  refine lv_aload_n hx hb dX4_init_0 rfl (lv_at hl 0 rfl) ?_
  refine W.objInit hx hb hown (hts (.methodLink RX4 1 objectInit) (z_mem 1 rfl)) (hts (.instanceMethod objectInit) (z_mem 2 rfl)) (hts (.code objectInit ⟨#[0xb1]⟩ 1 none) (z_mem 3 rfl)) rfl (by rw [hml]; exact hl.1) rfl dX4_init_1 (Nat.le_of_ble_eq_true rfl) (Nat.le_of_ble_eq_true rfl) ?_
  refine W.eq (g2 := F0 m 4 ls []) rfl ?_
  refine lv_aload_n hx hb dX4_init_4 rfl (lv_at hl 0 rfl) ?_
  refine lv_iload_n hx hb dX4_init_5 rfl (lv_at hl 1 rfl) ?_
  refine z_putP hx hb hts ⟨hin0, hin1, hin2, hin3, hin4, hin8, hin10⟩ hown hK hG hI h1 h2 0 (by decide) (hts (.fieldLink RX4 7 "WhoSitsBy$Pupil" "number" "I") (z_mem 4 rfl)) (fun _ h9 => h9) hin9 rfl dX4_init_6 (fun H locs hI => ?_)
  refine lv_aload_n hx hb dX4_init_9 rfl (lv_at hl 0 rfl) ?_
  refine lv_iload_n hx hb dX4_init_10 rfl (lv_at hl 2 rfl) ?_
  refine z_putP hx hb hts ⟨hin0, hin1, hin2, hin3, hin4, hin8, hin10⟩ hown hK hG hI h1 h2 1 (by decide) (hts (.fieldLink RX4 13 "WhoSitsBy$Pupil" "v" "I") (z_mem 5 rfl)) (fun _ h9 => h9) hin9 rfl dX4_init_11 (fun H locs hI => ?_)
  refine lv_aload_n hx hb dX4_init_14 rfl (lv_at hl 0 rfl) ?_
  refine lv_iload_n hx hb dX4_init_15 rfl (lv_at hl 3 rfl) ?_
  refine z_putP hx hb hts ⟨hin0, hin1, hin2, hin3, hin4, hin8, hin10⟩ hown hK hG hI h1 h2 2 (by decide) (hts (.fieldLink RX4 16 "WhoSitsBy$Pupil" "talkative" "I") (z_mem 6 rfl)) (fun _ h9 => h9) hin9 rfl dX4_init_16 (fun H locs hI => ?_)
  refine lv_aload_n hx hb dX4_init_19 rfl (lv_at hl 0 rfl) ?_
  refine lv_iload hx hb dX4_init_20 (lv_at hl 4 rfl) ?_
  refine z_putP hx hb hts ⟨hin0, hin1, hin2, hin3, hin4, hin8, hin10⟩ hown hK hG hI h1 h2 3 (by decide) (hts (.fieldLink RX4 19 "WhoSitsBy$Pupil" "knowing" "I") (z_mem 7 rfl)) (fun _ h9 => h9) hin9 rfl dX4_init_22 (fun H locs hI => ?_)
  refine lv_aload_n hx hb dX4_init_25 rfl (lv_at hl 0 rfl) ?_
  refine lv_iload hx hb dX4_init_26 (lv_at hl 5 rfl) ?_
  refine z_putP hx hb hts ⟨hin0, hin1, hin2, hin3, hin4, hin8, hin10⟩ hown hK hG hI h1 h2 4 (by decide) (hts (.fieldLink RX4 22 "WhoSitsBy$Pupil" "tongue" "I") (z_mem 8 rfl)) (fun _ h9 => h9) hin9 rfl dX4_init_28 (fun H locs hI => ?_)
  exact z_vret hx hb hr hlocks hI rfl dX4_init_31
set_option maxHeartbeats 4000000 in
set_option maxRecDepth 100000 in
theorem c_X1_init (l : Launch) {G : zG} (hG : zOK G) (x : zX) (i : Nat) (h1 : 112 ≤ i) (h2 : i < zn G) (a1 a2 a3 a4 a5 : Int32) : zMv l yX1_init wsX1_init { frames := 2, cells := 0, slots := 0, locals := 37 } G [.ref (za G i), .int a1, .int a2, .int a3, .int a4, .int a5] x (fun u : zX => zpN x i a1 a2 a3 a4 a5 = u) := by
  intro A
  refine zBodyI (cc := cX1_init) (maxL := 6) (ret := none) (by decide) rfl (Nat.le_of_ble_eq_true rfl) ?_
  intro p e s m below meth c hx hb hml hown hts hr hlocks hin9 hK hN hI ls hl
  have hown : s.vm.findClass RX1 = some m.cls := hown
  have hl : lv_has ls 6 [(0, .ref (za G i)), (1, .int a1), (2, .int a2), (3, .int a3), (4, .int a4), (5, .int a5)] := hl
  refine lv_aload_n hx hb dX1_init_0 rfl (lv_at hl 0 rfl) ?_
  refine lv_iload_n hx hb dX1_init_1 rfl (lv_at hl 1 rfl) ?_
  refine lv_iload_n hx hb dX1_init_2 rfl (lv_at hl 2 rfl) ?_
  refine lv_iload_n hx hb dX1_init_3 rfl (lv_at hl 3 rfl) ?_
  refine lv_iload hx hb dX1_init_4 (lv_at hl 4 rfl) ?_
  refine lv_iload hx hb dX1_init_6 (lv_at hl 5 rfl) ?_
  refine z_callv (va_runI (As := [.int a1, .int a2, .int a3, .int a4, .int a5]) (rest := []) ⟨hx, hb, hml, hown, hts⟩ ((c_X4_init l hG x i h1 h2 a1 a2 a3 a4 a5) A) (cwI 5 hts gX1_init_X4_init rfl rfl rfl (hts (.initialized RX4) (z_mem 3 rfl)) (hts (.methodLink RX1 1 yX4_init) (z_mem 1 rfl)) (hts (.instanceMethod yX4_init) (z_mem 2 rfl)) rfl (by decide +kernel) ⟨Nat.le_of_ble_eq_true rfl, Nat.le_of_ble_eq_true rfl⟩) (z_pS hI hK hN) rfl rfl hl.1 rfl (lv_room (Nat.le_of_ble_eq_true rfl)) dX1_init_8 ⟨Nat.zero_le _, Nat.zero_le _⟩) hI (fun u H locs hw hI => ?_)
  exact z_vret hx hb hr hlocks hI hw dX1_init_11
set_option maxHeartbeats 4000000 in
set_option maxRecDepth 100000 in
theorem c_X8_init (l : Launch) {G : zG} (hG : zOK G) (x : zX) (i : Nat) (h1 : 112 ≤ i) (h2 : i < zn G) (a1 a2 a3 a4 a5 : Int32) : zMv l yX8_init wsX8_init { frames := 2, cells := 0, slots := 0, locals := 37 } G [.ref (za G i), .int a1, .int a2, .int a3, .int a4, .int a5] x (fun u : zX => zpN x i a1 a2 a3 a4 a5 = u) := by
  intro A
  refine zBodyI (cc := cX8_init) (maxL := 6) (ret := none) (by decide) rfl (Nat.le_of_ble_eq_true rfl) ?_
  intro p e s m below meth c hx hb hml hown hts hr hlocks hin9 hK hN hI ls hl
  have hown : s.vm.findClass RX8 = some m.cls := hown
  have hl : lv_has ls 6 [(0, .ref (za G i)), (1, .int a1), (2, .int a2), (3, .int a3), (4, .int a4), (5, .int a5)] := hl
  refine lv_aload_n hx hb dX8_init_0 rfl (lv_at hl 0 rfl) ?_
  refine lv_iload_n hx hb dX8_init_1 rfl (lv_at hl 1 rfl) ?_
  refine lv_iload_n hx hb dX8_init_2 rfl (lv_at hl 2 rfl) ?_
  refine lv_iload_n hx hb dX8_init_3 rfl (lv_at hl 3 rfl) ?_
  refine lv_iload hx hb dX8_init_4 (lv_at hl 4 rfl) ?_
  refine lv_iload hx hb dX8_init_6 (lv_at hl 5 rfl) ?_
  refine z_callv (va_runI (As := [.int a1, .int a2, .int a3, .int a4, .int a5]) (rest := []) ⟨hx, hb, hml, hown, hts⟩ ((c_X4_init l hG x i h1 h2 a1 a2 a3 a4 a5) A) (cwI 5 hts gX8_init_X4_init rfl rfl rfl (hts (.initialized RX4) (z_mem 3 rfl)) (hts (.methodLink RX8 1 yX4_init) (z_mem 1 rfl)) (hts (.instanceMethod yX4_init) (z_mem 2 rfl)) rfl (by decide +kernel) ⟨Nat.le_of_ble_eq_true rfl, Nat.le_of_ble_eq_true rfl⟩) (z_pS hI hK hN) rfl rfl hl.1 rfl (lv_room (Nat.le_of_ble_eq_true rfl)) dX8_init_8 ⟨Nat.zero_le _, Nat.zero_le _⟩) hI (fun u H locs hw hI => ?_)
  exact z_vret hx hb hr hlocks hI hw dX8_init_11
set_option maxHeartbeats 4000000 in
set_option maxRecDepth 100000 in
theorem c_X10_init (l : Launch) {G : zG} (hG : zOK G) (x : zX) (i : Nat) (h1 : 112 ≤ i) (h2 : i < zn G) (a1 a2 a3 a4 a5 : Int32) : zMv l yX10_init wsX10_init { frames := 2, cells := 0, slots := 0, locals := 37 } G [.ref (za G i), .int a1, .int a2, .int a3, .int a4, .int a5] x (fun u : zX => zpN x i a1 a2 a3 a4 a5 = u) := by
  intro A
  refine zBodyI (cc := cX10_init) (maxL := 6) (ret := none) (by decide) rfl (Nat.le_of_ble_eq_true rfl) ?_
  intro p e s m below meth c hx hb hml hown hts hr hlocks hin9 hK hN hI ls hl
  have hown : s.vm.findClass RX10 = some m.cls := hown
  have hl : lv_has ls 6 [(0, .ref (za G i)), (1, .int a1), (2, .int a2), (3, .int a3), (4, .int a4), (5, .int a5)] := hl
  refine lv_aload_n hx hb dX10_init_0 rfl (lv_at hl 0 rfl) ?_
  refine lv_iload_n hx hb dX10_init_1 rfl (lv_at hl 1 rfl) ?_
  refine lv_iload_n hx hb dX10_init_2 rfl (lv_at hl 2 rfl) ?_
  refine lv_iload_n hx hb dX10_init_3 rfl (lv_at hl 3 rfl) ?_
  refine lv_iload hx hb dX10_init_4 (lv_at hl 4 rfl) ?_
  refine lv_iload hx hb dX10_init_6 (lv_at hl 5 rfl) ?_
  refine z_callv (va_runI (As := [.int a1, .int a2, .int a3, .int a4, .int a5]) (rest := []) ⟨hx, hb, hml, hown, hts⟩ ((c_X4_init l hG x i h1 h2 a1 a2 a3 a4 a5) A) (cwI 5 hts gX10_init_X4_init rfl rfl rfl (hts (.initialized RX4) (z_mem 3 rfl)) (hts (.methodLink RX10 1 yX4_init) (z_mem 1 rfl)) (hts (.instanceMethod yX4_init) (z_mem 2 rfl)) rfl (by decide +kernel) ⟨Nat.le_of_ble_eq_true rfl, Nat.le_of_ble_eq_true rfl⟩) (z_pS hI hK hN) rfl rfl hl.1 rfl (lv_room (Nat.le_of_ble_eq_true rfl)) dX10_init_8 ⟨Nat.zero_le _, Nat.zero_le _⟩) hI (fun u H locs hw hI => ?_)
  exact z_vret hx hb hr hlocks hI hw dX10_init_11
set_option maxHeartbeats 4000000 in
set_option maxRecDepth 100000 in
theorem c_X3_init (l : Launch) {G : zG} (hG : zOK G) (x : zX) (i : Nat) (h1 : 112 ≤ i) (h2 : i < zn G) (a1 a2 a3 a4 a5 : Int32) : zMv l yX3_init wsX3_init { frames := 3, cells := 0, slots := 0, locals := 62 } G [.ref (za G i), .int a1, .int a2, .int a3, .int a4, .int a5] x (fun u : zX => zpN x i a1 a2 a3 a4 a5 = u) := by
  intro A
  refine zBodyI (cc := cX3_init) (maxL := 6) (ret := none) (by decide) rfl (Nat.le_of_ble_eq_true rfl) ?_
  intro p e s m below meth c hx hb hml hown hts hr hlocks hin9 hK hN hI ls hl
  have hown : s.vm.findClass RX3 = some m.cls := hown
  have hl : lv_has ls 6 [(0, .ref (za G i)), (1, .int a1), (2, .int a2), (3, .int a3), (4, .int a4), (5, .int a5)] := hl
  refine lv_aload_n hx hb dX3_init_0 rfl (lv_at hl 0 rfl) ?_
  refine lv_iload_n hx hb dX3_init_1 rfl (lv_at hl 1 rfl) ?_
  refine lv_iload_n hx hb dX3_init_2 rfl (lv_at hl 2 rfl) ?_
  refine lv_iload_n hx hb dX3_init_3 rfl (lv_at hl 3 rfl) ?_
  refine lv_iload hx hb dX3_init_4 (lv_at hl 4 rfl) ?_
  refine lv_iload hx hb dX3_init_6 (lv_at hl 5 rfl) ?_
  refine z_callv (va_runI (As := [.int a1, .int a2, .int a3, .int a4, .int a5]) (rest := []) ⟨hx, hb, hml, hown, hts⟩ ((c_X1_init l hG x i h1 h2 a1 a2 a3 a4 a5) A) (cwI 5 hts gX3_init_X1_init rfl rfl rfl (hts (.initialized RX1) (z_mem 3 rfl)) (hts (.methodLink RX3 1 yX1_init) (z_mem 1 rfl)) (hts (.instanceMethod yX1_init) (z_mem 2 rfl)) rfl (by decide +kernel) ⟨Nat.le_of_ble_eq_true rfl, Nat.le_of_ble_eq_true rfl⟩) (z_pS hI hK hN) rfl rfl hl.1 rfl (lv_room (Nat.le_of_ble_eq_true rfl)) dX3_init_8 ⟨Nat.zero_le _, Nat.zero_le _⟩) hI (fun u H locs hw hI => ?_)
  exact z_vret hx hb hr hlocks hI hw dX3_init_11
set_option maxHeartbeats 4000000 in
set_option maxRecDepth 100000 in
theorem c_X0_init (l : Launch) {G : zG} (hG : zOK G) (x : zX) (i : Nat) (h1 : 112 ≤ i) (h2 : i < zn G) (a1 a2 a3 a4 a5 : Int32) : zMv l yX0_init wsX0_init { frames := 3, cells := 0, slots := 0, locals := 62 } G [.ref (za G i), .int a1, .int a2, .int a3, .int a4, .int a5] x (fun u : zX => zpN x i a1 a2 a3 a4 a5 = u) := by
  intro A
  refine zBodyI (cc := cX0_init) (maxL := 6) (ret := none) (by decide) rfl (Nat.le_of_ble_eq_true rfl) ?_
  intro p e s m below meth c hx hb hml hown hts hr hlocks hin9 hK hN hI ls hl
  have hown : s.vm.findClass RX0 = some m.cls := hown
  have hl : lv_has ls 6 [(0, .ref (za G i)), (1, .int a1), (2, .int a2), (3, .int a3), (4, .int a4), (5, .int a5)] := hl
  refine lv_aload_n hx hb dX0_init_0 rfl (lv_at hl 0 rfl) ?_
  refine lv_iload_n hx hb dX0_init_1 rfl (lv_at hl 1 rfl) ?_
  refine lv_iload_n hx hb dX0_init_2 rfl (lv_at hl 2 rfl) ?_
  refine lv_iload_n hx hb dX0_init_3 rfl (lv_at hl 3 rfl) ?_
  refine lv_iload hx hb dX0_init_4 (lv_at hl 4 rfl) ?_
  refine lv_iload hx hb dX0_init_6 (lv_at hl 5 rfl) ?_
  refine z_callv (va_runI (As := [.int a1, .int a2, .int a3, .int a4, .int a5]) (rest := []) ⟨hx, hb, hml, hown, hts⟩ ((c_X8_init l hG x i h1 h2 a1 a2 a3 a4 a5) A) (cwI 5 hts gX0_init_X8_init rfl rfl rfl (hts (.initialized RX8) (z_mem 3 rfl)) (hts (.methodLink RX0 1 yX8_init) (z_mem 1 rfl)) (hts (.instanceMethod yX8_init) (z_mem 2 rfl)) rfl (by decide +kernel) ⟨Nat.le_of_ble_eq_true rfl, Nat.le_of_ble_eq_true rfl⟩) (z_pS hI hK hN) rfl rfl hl.1 rfl (lv_room (Nat.le_of_ble_eq_true rfl)) dX0_init_8 ⟨Nat.zero_le _, Nat.zero_le _⟩) hI (fun u H locs hw hI => ?_)
  exact z_vret hx hb hr hlocks hI hw dX0_init_11
set_option maxHeartbeats 4000000 in
set_option maxRecDepth 100000 in
theorem c_X2_init (l : Launch) {G : zG} (hG : zOK G) (x : zX) (i : Nat) (h1 : 112 ≤ i) (h2 : i < zn G) (a1 a2 a3 a4 a5 : Int32) : zMv l yX2_init wsX2_init { frames := 3, cells := 0, slots := 0, locals := 62 } G [.ref (za G i), .int a1, .int a2, .int a3, .int a4, .int a5] x (fun u : zX => zpN x i a1 a2 a3 a4 a5 = u) := by
  intro A
  refine zBodyI (cc := cX2_init) (maxL := 6) (ret := none) (by decide) rfl (Nat.le_of_ble_eq_true rfl) ?_
  intro p e s m below meth c hx hb hml hown hts hr hlocks hin9 hK hN hI ls hl
  have hown : s.vm.findClass RX2 = some m.cls := hown
  have hl : lv_has ls 6 [(0, .ref (za G i)), (1, .int a1), (2, .int a2), (3, .int a3), (4, .int a4), (5, .int a5)] := hl
  refine lv_aload_n hx hb dX2_init_0 rfl (lv_at hl 0 rfl) ?_
  refine lv_iload_n hx hb dX2_init_1 rfl (lv_at hl 1 rfl) ?_
  refine lv_iload_n hx hb dX2_init_2 rfl (lv_at hl 2 rfl) ?_
  refine lv_iload_n hx hb dX2_init_3 rfl (lv_at hl 3 rfl) ?_
  refine lv_iload hx hb dX2_init_4 (lv_at hl 4 rfl) ?_
  refine lv_iload hx hb dX2_init_6 (lv_at hl 5 rfl) ?_
  refine z_callv (va_runI (As := [.int a1, .int a2, .int a3, .int a4, .int a5]) (rest := []) ⟨hx, hb, hml, hown, hts⟩ ((c_X10_init l hG x i h1 h2 a1 a2 a3 a4 a5) A) (cwI 5 hts gX2_init_X10_init rfl rfl rfl (hts (.initialized RX10) (z_mem 3 rfl)) (hts (.methodLink RX2 1 yX10_init) (z_mem 1 rfl)) (hts (.instanceMethod yX10_init) (z_mem 2 rfl)) rfl (by decide +kernel) ⟨Nat.le_of_ble_eq_true rfl, Nat.le_of_ble_eq_true rfl⟩) (z_pS hI hK hN) rfl rfl hl.1 rfl (lv_room (Nat.le_of_ble_eq_true rfl)) dX2_init_8 ⟨Nat.zero_le _, Nat.zero_le _⟩) hI (fun u H locs hw hI => ?_)
  exact z_vret hx hb hr hlocks hI hw dX2_init_11
