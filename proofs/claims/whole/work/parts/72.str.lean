/-! TEXTS that the class holds: what a method needs that reads one, by its place -/
def zPreS (aK aV : Nat → Nat) (G : zG) (x : zX) (A : Nat → Prop) (U : State) : Prop := zPre G x A U ∧ zSS aK aV A U U.heap
theorem zPreS.blind {aK aV : Nat → Nat} {G : zG} {x : zX} {A : Nat → Prop} {av : List Value} : FrameBlind (va_Pc av (zPreS aK aV G x A)) := fun a U g mk h => ⟨h.1, ⟨h.2.1.1, va_K.moved (u := U) (U := U.calling g mk a) (Vm.Alike.refl U.vm) h.2.1.2.1, h.2.1.2.2.blind⟩, zSS.same rfl h.2.2⟩
theorem zPreS.go {aK aV : Nat → Nat} {G : zG} {x : zX} {A : Nat → Prop} {s U : State} {H : Heap} {locs : List Loc} (hI : zI G x A s.heap H locs) (hK : va_K G.1 vwCl (zT G) s) (hN : zN A s) (hSS : zSS aK aV A s s.heap) (hU : U.heap = H) (hW : s.WarmedH U.vm) : zPreS aK aV G x A U := ⟨zPre.go hI hK hN hU hW, by rw [hU]; exact (hSS.kept hI.2.2.1).warm hW⟩
def zMiS (l : Launch) (y : MethodName) (ws : List Cond) (rm : Room) (G : zG) (aK aV : Nat → Nat) (av : List Value) (x : zX) (post : Int32 → zX → Prop) : Prop := ∀ A : Nat → Prop, Met l y ws rm (va_Pc av (zPreS aK aV G x A)) (va_Qi post (fun u t => zJ G u A t.heap) A) 0 0 A
def zMvS (l : Launch) (y : MethodName) (ws : List Cond) (rm : Room) (G : zG) (aK aV : Nat → Nat) (av : List Value) (x : zX) (post : zX → Prop) : Prop := ∀ A : Nat → Prop, Met l y ws rm (va_Pc av (zPreS aK aV G x A)) (va_Qv post (fun u t => zJ G u A t.heap) A) 0 0 A
def zMaS (l : Launch) (y : MethodName) (ws : List Cond) (rm : Room) (G : zG) (aK aV : Nat → Nat) (av : List Value) (x : zX) (post : zX × Nat → Prop) : Prop := ∀ A : Nat → Prop, Met l y ws rm (va_Pc av (zPreS aK aV G x A)) (va_Qr post (fun u a t => a = u.2 ∧ zJ G u.1 A t.heap) A) 0 0 A
section ZS
variable {p : Program} {l : Launch} {e : Env} {R : Room} {s : State} {m : MethodId} {args : Array Value} {below : List Frame} {meth : Method} {c : Code} {H : Heap} {locs : List Loc} {cells slots : Nat} {Q : State → Prop}
variable {cc : ByteArray} {pc : Nat} {ls : Array Slot} {rest st0 : List Value} {G : zG} {x : zX} {A : Nat → Prop} {H0 : Heap} {a : Array Value} {aK aV : Nat → Nat}
theorem zBodyS {y : MethodName} {ws ws' : List Cond} {rm : Room} {av : List Value} {ret : Option FieldType} {maxL : Nat} {Qc : Array Value → State → Outcome → State → Prop} (hy : plainName y.cls = true) (hw : ws = Cond.code y cc maxL ret :: ws') (h1 : (lg_sl av).length ≤ maxL)
    (body : ∀ (p : Program) (e : Env) (s : State) (m : MethodId) (below : List Frame) (meth : Method) (c : Code), p.tables.exec = Jvm.exec → c.code = cc → c.maxLocals = maxL → s.vm.findClass y.cls = some m.cls → (∀ w ∈ ws, w.before av.toArray s = true) → meth.sig.returnType = ret → meth.locks = false → va_K G.1 vwCl (zT G) s → zN A s → zSS aK aV A s s.heap → zI G x A s.heap s.heap [] → ∀ ls : Array Slot, lv_has ls maxL (lv_args 0 av) →
      W p l e rm s m av.toArray below meth c s.heap [] 0 0 (MQ below Qc av.toArray s 0 0 A) (F0 m 0 ls [])) : Met l y ws rm (va_Pc av (zPreS aK aV G x A)) Qc 0 0 A := by
  refine Met.ofW (cc := cc) (maxL := maxL) (ret := ret) hy hw ?_
  intro p e s m args below meth c s₁ B hml hv
  obtain ⟨rfl, ⟨hJ, hK, hN⟩, hSS⟩ := hv
  have hl := lv_entry av (n := maxL) h1
  rw [lg_entry_eq]
  generalize (lg_sl av ++ List.replicate (maxL - (lg_sl av).length) Slot.unset).toArray = ls at hl ⊢
  exact body p e s m below meth c B.exec B.bytes hml (findClass_of_methodNamed B.named) (atoms_spec (ws := ws) B.pre) B.returns B.notSynchronized hK hN hSS ⟨hJ, va_S.rf⟩ ls hl
theorem z_calla {post : zX × Nat → Prop} (hr : va_Run p l e R s m args below meth c H locs cells slots 0 0 (F0 m pc ls st0) rest (va_Qr post (fun u a t => a = u.2 ∧ zJ G u.1 A t.heap) A a) A) (hI : zI G x A H0 H locs)
    (kk : ∀ (u : zX × Nat) (H1 : Heap) (locs1 : List Loc), post u → zI G u.1 A H0 H1 locs1 → W p l e R s m args below meth c H1 locs1 cells slots Q (F0 m (pc + 3) ls (.ref u.2 :: rest))) : W p l e R s m args below meth c H locs cells slots Q (F0 m pc ls st0) :=
  va_callr hr hI.2 (fun _ _ h => h) (fun _ h => h) (fun u ra t H1 locs1 ht _ hw hB _ _ hS => by
    obtain ⟨rfl, hB⟩ := hB
    exact kk u H1 locs1 hw ⟨(by rw [← ht]; exact hB), hS⟩)
theorem z_pVS {C : String} {b : Addr} {As : List Value} (hI : zI G x A s.heap H locs) (hK : va_K G.1 vwCl (zT G) s) (hN : zN A s) (hSS : zSS aK aV A s s.heap) (hr : ∃ cell : Cell, H[b]? = some cell ∧ cell.vm.isStatics = false ∧ s.vm.findClass C = some cell.cls) : PreV s H C b (va_Pc (.ref b :: As) (zPreS aK aV G x A)) As := ⟨zPreS.blind, hr, fun U hU hW => ⟨rfl, zPreS.go hI hK hN hSS hU hW⟩⟩
theorem z_pSS {As : List Value} (hI : zI G x A s.heap H locs) (hK : va_K G.1 vwCl (zT G) s) (hN : zN A s) (hSS : zSS aK aV A s s.heap) : PreS s H (va_Pc As (zPreS aK aV G x A)) As := ⟨zPreS.blind, fun U hU hW => ⟨rfl, zPreS.go hI hK hN hSS hU hW⟩⟩
theorem z_nret {post : Int32 → zX → Prop} {v : Int32} {ty : FieldType} (hx : p.tables.exec = Jvm.exec) (hb : c.code = cc) (hr : meth.sig.returnType = some ty) (hlocks : meth.locks = false) (hI : zI G x A s.heap H locs) (hn : narrow ty (.int v) = .int v) (hp : post v x) (hdg : decode cc pc = .ok (.ireturn, 1)) :
    W p l e R s m args below meth c H locs cells slots (MQ below (va_Qi post (fun u t => zJ G u A t.heap) A) args s cells slots A) (F0 m pc ls [.int v]) :=
  W.zret hx hb hr hn (fun t ht hW => ⟨⟨v, x, rfl, hp, by show zJ G x A t.heap; rw [ht]; exact hI.1⟩, hI.2.F ht⟩) hI.2.2.2 hdg hlocks
theorem z_aret {post : zX × Nat → Prop} {o : Nat} {rt : FieldType} (hx : p.tables.exec = Jvm.exec) (hb : c.code = cc) (hr : meth.sig.returnType = some rt) (hrt : (∃ n, rt = .object n) ∨ ∃ t, rt = .array t) (hlocks : meth.locks = false) (hI : zI G x A s.heap H locs) (hp : post (x, o)) (hdg : decode cc pc = .ok (.areturn, 1)) :
    W p l e R s m args below meth c H locs cells slots (MQ below (va_Qr post (fun u a t => a = u.2 ∧ zJ G u.1 A t.heap) A) args s cells slots A) (F0 m pc ls [.ref o]) :=
  W.aret hx hb hr hrt (Or.inr ⟨_, rfl⟩) (fun t ht hW => ⟨⟨(x, o), o, rfl, hp, rfl, by show zJ G x A t.heap; rw [ht]; exact hI.1⟩, hI.2.F ht⟩) hI.2.2.2 hdg hlocks
end ZS
theorem zsl_lt {i : Nat} (h : i < 6) : zSlen.getD i 0 ≤ 7 := by
  have hd : ∀ i : Fin 6, zSlen.getD i.val 0 ≤ 7 := by decide +kernel
  exact hd ⟨i, h⟩
theorem zsl_pos {i : Nat} (h : i < 6) : 0 < zSlen.getD i 0 := by
  have hd : ∀ i : Fin 6, 0 < zSlen.getD i.val 0 := by decide +kernel
  exact hd ⟨i, h⟩
theorem zshr0 {n : Nat} (h : n ≤ 7) : nI n >>> ((0 : Int32) &&& 31) = nI n := by
  have hd : ∀ i : Fin 8, nI i.val >>> ((0 : Int32) &&& 31) = nI i.val := by decide +kernel
  exact hd ⟨n, by omega⟩
theorem zqb {q : Nat} (h : q < 128) : (nI q).toInt8.toInt32 = nI q := by
  have hd : ∀ i : Fin 128, (nI i.val).toInt8.toInt32 = nI i.val := by decide +kernel
  exact hd ⟨q, h⟩
theorem zsb_all : ∀ i : Fin 6, ∀ k : Fin 7, (((zSbyt.getD i.val []).getD k.val 0) &&& nI 255) = (zSbyt.getD i.val []).getD k.val 0 ∧ (((zSbyt.getD i.val []).getD k.val 0).toUInt32 % 65536).toInt32 = (zSbyt.getD i.val []).getD k.val 0 := by decide +kernel
theorem zsb_and {i k : Nat} (hi : i < 6) (hk : k < zSlen.getD i 0) : (((zSbyt.getD i []).getD k 0) &&& nI 255) = (zSbyt.getD i []).getD k 0 := (zsb_all ⟨i, hi⟩ ⟨k, by have := zsl_lt hi; omega⟩).1
theorem zsb_c {i k : Nat} (hi : i < 6) (hk : k < zSlen.getD i 0) : (((zSbyt.getD i []).getD k 0).toUInt32 % 65536).toInt32 = (zSbyt.getD i []).getD k 0 := (zsb_all ⟨i, hi⟩ ⟨k, by have := zsl_lt hi; omega⟩).2
theorem zsb_nar2 {i k : Nat} (hi : i < 6) (hk : k < zSlen.getD i 0) : narrow .char (.int ((zSbyt.getD i []).getD k 0)) = .int ((zSbyt.getD i []).getD k 0) := by
  show Value.int (((zSbyt.getD i []).getD k 0).toUInt32 % 65536).toInt32 = _
  rw [zsb_c hi hk]
theorem zsb_nar {i k : Nat} (hi : i < 6) (hk : k < zSlen.getD i 0) : narrow .char (.int (((zSbyt.getD i []).getD k 0).toUInt32 % 65536).toInt32) = .int (((zSbyt.getD i []).getD k 0).toUInt32 % 65536).toInt32 := by
  rw [zsb_c hi hk]
  exact zsb_nar2 hi hk
