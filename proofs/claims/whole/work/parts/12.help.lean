/-! SMALL ROWS: numbers in branches, sums by name -/
theorem zqE {a b : Nat} (ha : a < 2 ^ 31) (hb : b < 2 ^ 31) : nI a = nI b ↔ a = b := nI_eq ha hb
theorem zqL {a b : Nat} (ha : a < 2 ^ 31) (hb : b < 2 ^ 31) : nI a < nI b ↔ a < b := nI_ltI ha hb
theorem zqG {a b : Nat} (ha : a < 2 ^ 31) (hb : b < 2 ^ 31) : nI a ≤ nI b ↔ a ≤ b := nI_leI ha hb
theorem zb_0 {P : Prop} [Decidable P] : (if P then (nI 1) else (nI 0)) = (0 : Int32) ↔ ¬ P := by
  by_cases h : P
  · rw [if_pos h]; exact ⟨fun q => absurd q (by decide), fun q => absurd h q⟩
  · rw [if_neg h]; exact ⟨fun _ => h, fun _ => rfl⟩
theorem zb01 {P : Prop} (_ : Decidable P) : (if P then (nI 1) else (nI 0)) = (0 : Int32) ∨ (if P then (nI 1) else (nI 0)) = (1 : Int32) := by
  by_cases h : P
  · rw [if_pos h]; exact Or.inr rfl
  · rw [if_neg h]; exact Or.inl rfl
theorem zinc (n : Nat) : nI n + Int32.ofInt 1 = nI (n + 1) := nI_1 n
theorem zincN (n k : Nat) : nI n + Int32.ofInt (k : Int) = nI (n + k) := nI_add n k
section ZH
variable {p : Program} {l : Launch} {e : Env} {R : Room} {s : State} {m : MethodId} {args : Array Value} {below : List Frame} {meth : Method} {c : Code} {H : Heap} {locs : List Loc} {cells slots : Nat} {Q : State → Prop}
variable {cc : ByteArray} {pc : Nat} {ls : Array Slot} {rest : List Value}
theorem z_iadd (hx : p.tables.exec = Jvm.exec) (hb : c.code = cc) {x y v : Int32} (hv : x + y = v) (hdg : decode cc pc = .ok (.iadd, 1)) (k : W p l e R s m args below meth c H locs cells slots Q (F0 m (pc + 1) ls (.int v :: rest))) : W p l e R s m args below meth c H locs cells slots Q (F0 m pc ls (.int y :: .int x :: rest)) := by
  subst hv; exact lv_iadd hx hb hdg k
theorem z_isub (hx : p.tables.exec = Jvm.exec) (hb : c.code = cc) {x y v : Int32} (hv : x - y = v) (hdg : decode cc pc = .ok (.isub, 1)) (k : W p l e R s m args below meth c H locs cells slots Q (F0 m (pc + 1) ls (.int v :: rest))) : W p l e R s m args below meth c H locs cells slots Q (F0 m pc ls (.int y :: .int x :: rest)) := by
  subst hv; exact lv_isub hx hb hdg k
theorem z_imul (hx : p.tables.exec = Jvm.exec) (hb : c.code = cc) {x y v : Int32} (hv : x * y = v) (hdg : decode cc pc = .ok (.imul, 1)) (k : W p l e R s m args below meth c H locs cells slots Q (F0 m (pc + 1) ls (.int v :: rest))) : W p l e R s m args below meth c H locs cells slots Q (F0 m pc ls (.int y :: .int x :: rest)) := by
  subst hv; exact lv_imul hx hb hdg k
theorem z_iand (hx : p.tables.exec = Jvm.exec) (hb : c.code = cc) {x y v : Int32} (hv : x &&& y = v) (hdg : decode cc pc = .ok (.iand, 1)) (k : W p l e R s m args below meth c H locs cells slots Q (F0 m (pc + 1) ls (.int v :: rest))) : W p l e R s m args below meth c H locs cells slots Q (F0 m pc ls (.int y :: .int x :: rest)) := by
  subst hv; exact lv_iand hx hb hdg k
theorem z_ior (hx : p.tables.exec = Jvm.exec) (hb : c.code = cc) {x y v : Int32} (hv : x ||| y = v) (hdg : decode cc pc = .ok (.ior, 1)) (k : W p l e R s m args below meth c H locs cells slots Q (F0 m (pc + 1) ls (.int v :: rest))) : W p l e R s m args below meth c H locs cells slots Q (F0 m pc ls (.int y :: .int x :: rest)) := by
  subst hv; exact lv_ior hx hb hdg k
theorem z_ixor (hx : p.tables.exec = Jvm.exec) (hb : c.code = cc) {x y v : Int32} (hv : x ^^^ y = v) (hdg : decode cc pc = .ok (.ixor, 1)) (k : W p l e R s m args below meth c H locs cells slots Q (F0 m (pc + 1) ls (.int v :: rest))) : W p l e R s m args below meth c H locs cells slots Q (F0 m pc ls (.int y :: .int x :: rest)) := by
  subst hv; exact lv_ixor hx hb hdg k
theorem z_ishl (hx : p.tables.exec = Jvm.exec) (hb : c.code = cc) {x y v : Int32} (hv : x <<< (y &&& 31) = v) (hdg : decode cc pc = .ok (.ishl, 1)) (k : W p l e R s m args below meth c H locs cells slots Q (F0 m (pc + 1) ls (.int v :: rest))) : W p l e R s m args below meth c H locs cells slots Q (F0 m pc ls (.int y :: .int x :: rest)) := by
  subst hv; exact lv_ishl hx hb hdg k
theorem z_ishr (hx : p.tables.exec = Jvm.exec) (hb : c.code = cc) {x y v : Int32} (hv : x >>> (y &&& 31) = v) (hdg : decode cc pc = .ok (.ishr, 1)) (k : W p l e R s m args below meth c H locs cells slots Q (F0 m (pc + 1) ls (.int v :: rest))) : W p l e R s m args below meth c H locs cells slots Q (F0 m pc ls (.int y :: .int x :: rest)) := by
  subst hv; exact lv_ishr hx hb hdg k
theorem z_idiv (hx : p.tables.exec = Jvm.exec) (hb : c.code = cc) {x y v : Int32} (hv : x / y = v) (hdg : decode cc pc = .ok (.idiv, 1)) (hne : ¬ y = 0) (k : W p l e R s m args below meth c H locs cells slots Q (F0 m (pc + 1) ls (.int v :: rest))) : W p l e R s m args below meth c H locs cells slots Q (F0 m pc ls (.int y :: .int x :: rest)) := by
  subst hv; exact lv_idiv hx hb hdg hne k
theorem z_irem (hx : p.tables.exec = Jvm.exec) (hb : c.code = cc) {x y v : Int32} (hv : x - x / y * y = v) (hdg : decode cc pc = .ok (.irem, 1)) (hne : ¬ y = 0) (k : W p l e R s m args below meth c H locs cells slots Q (F0 m (pc + 1) ls (.int v :: rest))) : W p l e R s m args below meth c H locs cells slots Q (F0 m pc ls (.int y :: .int x :: rest)) := by
  subst hv; exact lv_irem hx hb hdg hne k
end ZH
/-! a pupil's field, whatever the pupil's kind -/
theorem zTe0 : ∀ k, TX0 k = TX4 k := fun k => by match k with | 0 => rfl | 1 => rfl | 2 => rfl | 3 => rfl | (_ + 4) => rfl
theorem zTe1 : ∀ k, TX1 k = TX4 k := fun k => by match k with | 0 => rfl | 1 => rfl | 2 => rfl | 3 => rfl | (_ + 4) => rfl
theorem zTe2 : ∀ k, TX2 k = TX4 k := fun k => by match k with | 0 => rfl | 1 => rfl | 2 => rfl | 3 => rfl | (_ + 4) => rfl
theorem zTe3 : ∀ k, TX3 k = TX4 k := fun k => by match k with | 0 => rfl | 1 => rfl | 2 => rfl | 3 => rfl | (_ + 4) => rfl
theorem zTe8 : ∀ k, TX8 k = TX4 k := fun k => by match k with | 0 => rfl | 1 => rfl | 2 => rfl | 3 => rfl | (_ + 4) => rfl
theorem zTe10 : ∀ k, TX10 k = TX4 k := fun k => by match k with | 0 => rfl | 1 => rfl | 2 => rfl | 3 => rfl | (_ + 4) => rfl
section ZP
variable {p : Program} {l : Launch} {e : Env} {R : Room} {s : State} {m : MethodId} {args : Array Value} {below : List Frame} {meth : Method} {c : Code} {H : Heap} {locs : List Loc} {cells slots : Nat} {Q : State → Prop}
variable {cc : ByteArray} {pc : Nat} {ls : Array Slot} {rest : List Value} {G : zG} {x : zX} {A : Nat → Prop} {H0 : Heap}
theorem z_getT (hx : p.tables.exec = Jvm.exec) (hb : c.code = cc) {own ref C : String} {T : u_T} {ci index : Nat} {Ts : List Cond} (hts : ∀ w ∈ Ts, w.before args s = true) (hin : ∀ w ∈ u_ws C T 5, w ∈ Ts) (hT : ∀ k, T k = TX4 k) (hown : s.vm.findClass own = some m.cls) (hK : va_K G.1 vwCl (zT G) s) (hI : zI G x A H0 H locs) {i : Nat} (ho : zOB G i ci zFp) (hc : vwCl[ci]? = some (C, T, 5)) (k : Nat) (hk : k < 5) (hlink : (Cond.fieldLink own index ref (TX4 k).2.1 (TX4 k).2.2.1).before args s = true) (hsame : ∀ x, s.fieldFound? (TX4 k).1 (TX4 k).2.1 (TX4 k).2.2.1 = some x → s.fieldFound? ref (TX4 k).2.1 (TX4 k).2.2.1 = some x) (hdg : decode cc pc = .ok (.getfield index, 3))
    (kk : W p l e R s m args below meth c H locs cells slots Q (F0 m (pc + 3) ls (.int (x.1 i k) :: rest))) : W p l e R s m args below meth c H locs cells slots Q (F0 m pc ls (.ref (za G i) :: rest)) := by
  have hv : (zFp (x.1 i) (x.2.1 i))[k]? = some (.int (x.1 i k)) := by
    rcases (show k = 0 ∨ k = 1 ∨ k = 2 ∨ k = 3 ∨ k = 4 by omega) with rfl | rfl | rfl | rfl | rfl <;> rfl
  exact z_get (T := T) (ref := ref) hx hb hts hin hown hK hI ho hc k hk (by rw [hT]; exact hlink) (by rw [hT]; exact hsame) hv hdg kk
theorem z_getP (hx : p.tables.exec = Jvm.exec) (hb : c.code = cc) {own ref : String} {index : Nat} {Ts : List Cond} (hts : ∀ w ∈ Ts, w.before args s = true) (hin : (∀ w ∈ wsX00, w ∈ Ts) ∧ (∀ w ∈ wsX10, w ∈ Ts) ∧ (∀ w ∈ wsX20, w ∈ Ts) ∧ (∀ w ∈ wsX30, w ∈ Ts) ∧ (∀ w ∈ wsX40, w ∈ Ts) ∧ (∀ w ∈ wsX80, w ∈ Ts) ∧ (∀ w ∈ wsX100, w ∈ Ts)) (hown : s.vm.findClass own = some m.cls) (hK : va_K G.1 vwCl (zT G) s) (hG : zOK G) (hI : zI G x A H0 H locs) {i : Nat} (h1 : 112 ≤ i) (h2 : i < zn G) (k : Nat) (hk : k < 5) (hlink : (Cond.fieldLink own index ref (TX4 k).2.1 (TX4 k).2.2.1).before args s = true) (hsame : ∀ x, s.fieldFound? (TX4 k).1 (TX4 k).2.1 (TX4 k).2.2.1 = some x → s.fieldFound? ref (TX4 k).2.1 (TX4 k).2.2.1 = some x) (hdg : decode cc pc = .ok (.getfield index, 3))
    (kk : W p l e R s m args below meth c H locs cells slots Q (F0 m (pc + 3) ls (.int (x.1 i k) :: rest))) : W p l e R s m args below meth c H locs cells slots Q (F0 m pc ls (.ref (za G i) :: rest)) := by
  obtain ⟨i0, i1, i2, i3, i4, i8, i10⟩ := hin
  have ho := zop (G := G) h1 h2
  rcases hG.2 i h1 h2 with h | h | h | h | h | h | h <;> rw [h] at ho
  · exact z_getT hx hb hts i0 zTe0 hown hK hI ho rfl k hk hlink hsame hdg kk
  · exact z_getT hx hb hts i1 zTe1 hown hK hI ho rfl k hk hlink hsame hdg kk
  · exact z_getT hx hb hts i2 zTe2 hown hK hI ho rfl k hk hlink hsame hdg kk
  · exact z_getT hx hb hts i3 zTe3 hown hK hI ho rfl k hk hlink hsame hdg kk
  · exact z_getT hx hb hts i4 (fun _ => rfl) hown hK hI ho rfl k hk hlink hsame hdg kk
  · exact z_getT hx hb hts i8 zTe8 hown hK hI ho rfl k hk hlink hsame hdg kk
  · exact z_getT hx hb hts i10 zTe10 hown hK hI ho rfl k hk hlink hsame hdg kk
end ZP
