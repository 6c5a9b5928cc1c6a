/-! SUPER, where the superclass has the method from its own superclass -/
theorem zW_use {A : Nat → Prop} {s : State} (h : zN A s) {w : Cond} (hw : w ∈ zWl) (args : Array Value) : w.before args s = true := by
  obtain ⟨-, -, -, adK, adV, -, h5⟩ := h
  exact va_tabs (u := s) (U := s) (Bool.and_eq_true_iff.mp (zWl_ok w hw)).1 rfl (h5 w hw)
section VSG
variable {p : Program} {l : Launch} {e : Env} {R : Room} {s : State} {m : MethodId} {args : Array Value} {below : List Frame} {meth : Method} {c : Code}
theorem zw_callSG {T : State} {locs : List Loc} {cells slots : Nat} (X : Stand p l e R s m args below meth c T locs cells slots) (hexec : p.tables.exec = Jvm.exec) {own : String} {index : Nat} {x y : MethodName} {bytes : ByteArray} {maxL : Nat} {ret : Option FieldType}
    (hown : s.vm.findClass own = some m.cls) (hlink : (Cond.methodLink own index x).before args s = true) (hsame : (Cond.sameMethod x.cls y.cls x.name x.desc).before args s = true) (hxy : y.name = x.name ∧ y.desc = x.desc) (hsup : (Cond.superclass own x.cls).before args s = true) (hsup2 : (Cond.superclass x.cls y.cls).before args s = true)
    (hinst : (Cond.instanceMethod y).before args s = true) (hcode : (Cond.code y bytes maxL ret).before args s = true) (hno : y.name ≠ "<init>")
    {W : Nat} {Pre : Pt → Array Value → Prop} {Post : Pt → Array Value → Option Value → Pt → Prop} (hK : Back l R p e below s args y 3 W Pre Post)
    {b : Addr} {cellB : Cell} {kB : Class} (hcell : T.heap[b]? = some cellB) (hobj : cellB.vm.isStatics = false) (hkB : s.vm.classes[cellB.cls]? = some kB)
    {g : JFrame} (hg : g.method = m) (hsize : g.locals.size = c.maxLocals) {argsL rest : List Value} (hlen : ∀ sig, parseMethodDescriptor y.desc = some sig → argsL.length = sig.parameters.length)
    (hstack : g.stack = argsL.reverse ++ .ref b :: rest) (hW : 2 * g.monitorRoom + (rest.map fun v => v.category).sum ≤ W) (hdg : decode c.code g.pc = .ok (.invokespecial index, 3))
    (hpre : ∀ vm₁, s.WarmedH vm₁ → Pre ⟨T.setVm vm₁, locs, cells, slots⟩ (Value.ref b :: argsL).toArray) :
    ∃ (v : Option Value) (vm₁ : Vm) (B : Pt), s.WarmedH vm₁ ∧ Stand p l e R s m args below meth c B.U B.locs B.cells B.slots ∧ Post ⟨T.setVm vm₁, locs, cells, slots⟩ (Value.ref b :: argsL).toArray v B ∧
      ∀ target, Steps p.tables e below (B.U.setTop { g with pc := g.pc + 3, stack := v.toList ++ rest }) target → Steps p.tables e below (T.setTop g) target := by
  obtain ⟨mk, methM, hnamed, hmethM, hstM, habM⟩ := Cond.instanceMethod_spec hinst
  obtain ⟨methM', cM, hmethM', -, -, -, -, -, -, hsigM⟩ := Cond.code_spec hnamed hcode
  cases hmethM.symm.trans hmethM'
  obtain ⟨ps, dk, kp, hps, hdk, hkp, hsuper, -, -, hnid⟩ := Cond.superclass_spec hown hsup
  obtain ⟨ps2, dk2, kp2, hps2, hdk2, hkp2, hsuper2, -, -, -⟩ := Cond.superclass_spec hps hsup2
  have hn : s.methodNamed? ⟨y.cls, x.name, x.desc⟩ = some mk := by rw [← hxy.1, ← hxy.2]; exact hnamed
  have hpm : ps2 = mk.cls := Option.some.inj (hps2.symm.trans (findClass_of_methodNamed hnamed))
  have hsub : s.vm.isSubclass ps mk.cls = true := by
    have hlt : ps < s.vm.classes.size := (Array.getElem?_eq_some_iff.mp hdk2).1
    obtain ⟨n, hn2⟩ : ∃ n, s.vm.classes.size = n + 1 := Nat.exists_eq_succ_of_ne_zero (Nat.ne_of_gt (Nat.lt_of_le_of_lt (Nat.zero_le _) hlt))
    rw [← hpm]
    unfold Vm.isSubclass
    rw [hn2]
    simp [Vm.isSubclassAux, hdk2, hsuper2]
  obtain ⟨vm₁, X₁, hstep₁⟩ := X.invokespecialUp hexec hown hlink hsame hn hmethM hstM habM (by rw [← hxy.1]; exact hno) hdk hnid hps hsuper hsub (a := b) (cell := cellB) hcell
    (fun z h => by rw [h] at hobj; cases hobj) hkB (g := g) hg (argsL := argsL) (rest := rest) (hlen _ hsigM) hstack hdg
  obtain ⟨v, B, X', hpost, hsteps⟩ := hK m meth c ⟨T.setVm vm₁, locs, cells, slots⟩ { g with stack := rest } (.invokespecial index) mk (Value.ref b :: argsL).toArray X₁ hg hsize hdg hW (X₁.named hnamed) (hpre vm₁ X₁.warmed)
  exact ⟨v, vm₁, B, X₁.warmed, X', hpost, fun target h => hstep₁ _ (by rw [doInvoke_state]; exact hsteps.trans h)⟩
variable {H : Heap} {locs : List Loc} {cells slots : Nat}
theorem zw_runSG {A : Nat → Prop} {x y : MethodName} {bytes cc : ByteArray} {maxL nL n index : Nat} {ret : Option FieldType} {ws : List Cond} {rm : Room} {Pc : Array Value → State → Prop} {Qc : Array Value → State → Outcome → State → Prop} {free : Addr → Prop} {Ts : List Cond} {own C : String} {cC : ClassId} {b : Addr} {As rest : List Value} {g : JFrame}
    (hN : zN A s) (hat : ClassAt s C cC) (S : CallFix p m c cc nL s args Ts own) (hM : Met l y ws rm Pc Qc 0 0 free) (hws : ∀ w ∈ ws, w ∈ zWl) (hl : Cond.methodLink own index x ∈ zWl ∧ Cond.sameMethod x.cls y.cls x.name x.desc ∈ zWl ∧ Cond.superclass own x.cls ∈ zWl ∧ Cond.superclass x.cls y.cls ∈ zWl ∧ Cond.instanceMethod y ∈ zWl ∧ Cond.initialized y.cls ∈ zWl) (hcw : Cond.code y bytes maxL ret ∈ ws)
    (hxy : y.name = x.name ∧ y.desc = x.desc) (hno : y.name ≠ "<init>") (hd : (parseMethodDescriptor y.desc).map (fun d => d.parameters.length) = some n) (hrc : rm.cells = 0) (hrs : rm.slots = 0) (hR : rm.frames + 1 ≤ R.frames ∧ 8 + (maxL + 11) + rm.locals ≤ R.locals) (hp : PreV s H C b Pc As)
    (hg : g.method = m) (hn : As.length = n) (hsize : g.locals.size = nL) (hstack : g.stack = As.reverse ++ .ref b :: rest) (hW : 2 * g.monitorRoom + (rest.map fun v => v.category).sum ≤ 8) (hdg : decode cc g.pc = .ok (.invokespecial index, 3)) (hf : cells + 0 ≤ R.cells ∧ slots + 0 ≤ R.slots) :
    va_Run p l e R s m args below meth c H locs cells slots 0 0 g rest (Qc (Value.ref b :: As).toArray) (free) := by
  have hpay : ∀ w ∈ ws, ∀ (a' : Array Value) (U : State), s.WarmedH U.vm → w.before a' U = true := fun w hw a' U hW => word_at hW (Or.inl (zWl_ok w (hws w hw))) (zW_use hN (hws w hw) #[])
  have hini := zW_use hN hl.2.2.2.2.2 args
  have hcode := zW_use hN (hws _ hcw) args
  have hK : Back l R p e below s args y 3 8 (PreOf R 0 0 Pc) (PostOf Qc 0 0 free) := back_of (bytes := bytes) (maxL := maxL) (ret := ret) hM hp.1 hrc hrs hR.1 hR.2 hpay hcw (fun a' U hW => word_at hW (Or.inl (zWl_ok _ hl.2.2.2.2.2)) hini)
  obtain ⟨hx, hb, hml, ho, -⟩ := S
  obtain ⟨-, ⟨cellB, hcB, hoB, hclB⟩, hPc⟩ := hp
  obtain ⟨hfc, kB, hkB, -⟩ := hat
  cases hfc.symm.trans hclB
  intro T hT X
  obtain ⟨v, vm₁, ⟨U', l2, c2, s2⟩, hW₁, X', ⟨g', mk, t, L, e1, e2, hq, h1, hL, h2, h3⟩, st⟩ := zw_callSG X hx (x := x) (y := y) (bytes := bytes) (maxL := maxL) (ret := ret) ho (zW_use hN hl.1 args) (zW_use hN hl.2.1 args) hxy (zW_use hN hl.2.2.1 args) (zW_use hN hl.2.2.2.1 args) (zW_use hN hl.2.2.2.2.1 args) hcode hno hK (by rw [hT]; exact hcB) hoB hkB hg (hsize.trans hml.symm) (argsL := As) (rest := rest)
    (fun sig h => by rw [hn]; rw [h] at hd; exact (Option.some.inj hd).symm) hstack hW (by rw [hb]; exact hdg)
    (fun vm₁ hW₁ => ⟨hf.1, hf.2, hPc (T.setVm vm₁) hT hW₁⟩)
  dsimp only [Pt.U, Pt.locs, Pt.cells, Pt.slots] at X' e1 e2 h1 h2 h3 st
  subst h1; subst h2; subst h3
  exact ⟨v, (T.setVm vm₁).calling g' mk (Value.ref b :: As).toArray, t, U', L, hT, X', hL, e1, e2, hq, st⟩
end VSG
/-- which class a pupil's object is of -/
theorem zclq {G : zG} (hG : zOK G) {i : Nat} (h1 : 112 ≤ i) (h2 : i < zn G) : ∃ r, vwCl[zk G i]? = some r := by
  rcases hG.2 i h1 h2 with h | h | h | h | h | h | h <;> rw [h] <;> exact ⟨_, rfl⟩
/-! ACTS: what a pupil's kind does, body by body -/
theorem zbeg_n {b : Int32} {x : zX} {i : Nat} (h1 : i ≠ 17) (h2 : i ≠ 18) : (zbeg b x).1 i = x.1 i := by
  unfold zbeg
  rw [zsI_n h1]
  by_cases h : ¬ x.1 17 1 < 0 ∧ ¬ nI 20 ≤ x.1 17 1
  · rw [if_pos h, zsI_n h2]
  · rw [if_neg h]
theorem zbgs_n {i : Nat} (h1 : i ≠ 17) (h2 : i ≠ 18) : ∀ (l : List Int32) (x : zX), (zbgs l x).1 i = x.1 i
  | [], _ => rfl
  | b :: l, x => (zbgs_n h1 h2 l (zbeg b x)).trans (zbeg_n h1 h2)
theorem zbgs_a (l1 l2 : List Int32) (x : zX) : zbgs (l1 ++ l2) x = zbgs l2 (zbgs l1 x) := List.foldl_append
def zsb (k : Nat) : List Int32 := if k = 8 ∨ k = 0 then [nI 30, nI 10] else if k = 3 then [nI 50, nI 10] else if k = 2 then [nI 71, nI 10] else [nI 10]
def zsv (k : Nat) (n v w : Int32) : Int32 := if k = 8 ∨ k = 0 then w * nI 3 + n else if k = 3 then -(w + n) else if k = 2 then (w + n) ^^^ v else w + n
def ztb (k : Nat) : List Int32 := if k = 1 then nI 20 :: nI 11 :: zsb 1 else if k = 3 then nI 51 :: nI 20 :: nI 11 :: zsb 3 else if k = 2 then nI 70 :: nI 11 :: (zsb 2 ++ [nI 10]) else nI 11 :: zsb k
def ztv (k : Nat) (n v w : Int32) : Int32 := if k = 1 then (zsv 1 n v w - v) ^^^ nI 6 else if k = 3 then (zsv 3 n v (w + nI 1) - v) ^^^ nI 6 else if k = 2 then (zsv 2 n v w - v) + (nI 2 + n) else zsv k n v w - v
def zeb (k : Nat) : List Int32 := if k = 10 ∨ k = 2 then nI 40 :: nI 12 :: (ztb k ++ ztb k) else if k = 0 then nI 60 :: nI 12 :: ztb 0 else nI 12 :: ztb k
def zev (k : Nat) (n v w : Int32) : Int32 := if k = 10 ∨ k = 2 then (ztv k n v w * nI 2) + ztv k n v (nI 1) else if k = 0 then ztv 0 n v (w - n) * nI 2 else ztv k n v w * nI 2
/-- what a kind adds to the gain -/
abbrev znm (x : zX) (a b : Nat) : Prop := ¬ nI b < 0 ∧ x.1 5 a = nI b
def zwhl (x : zX) (a b : Nat) (w : Int32) : Int32 := w + (if x.1 (zob x b) 3 < x.1 (zob x a) 3 then x.1 (zob x a) 1 else nI 0)
def zwlf (x : zX) (N a b : Nat) (w : Int32) : Int32 := zwhl x a b w + (if zsum (fun qq => if ¬ nI a < 0 ∧ x.1 5 qq = nI a then 1 else 0) N - (if znm x b a then nI 1 else nI 0) = 0 then x.1 (zob x a) 1 else nI 0)
def zwws (x : zX) (a b : Nat) (w : Int32) : Int32 := w + (if znm x b a then x.1 (zob x a) 1 else nI 0)
def zwhp (x : zX) (a b : Nat) (w : Int32) : Int32 := zwws x a b w + (if znm x a b then x.1 (zob x a) 1 else nI 0)
def zwby (x : zX) (N k a b : Nat) (w : Int32) : Int32 := if k = 1 then zwhl x a b w else if k = 3 then zwlf x N a b w else if k = 8 ∨ k = 0 then w - x.1 (zob x a) 2 else if k = 10 then zwws x a b w else if k = 2 then zwhp x a b w else w
