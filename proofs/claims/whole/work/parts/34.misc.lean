/-! SMALL WORDS for judging, pairs, slips, images, shifts -/
/-- the first fault of a told sitting: a place that is none, a seat that differs -/
def zjud (bad dif : Nat → Prop) [DecidablePred bad] [DecidablePred dif] : Nat → Nat → Int32
  | _, 0 => -5
  | p, n + 1 => if bad p then nI (100 + p) else if dif p then nI p else zjud bad dif (p + 1) n
theorem zjud_b {bad dif : Nat → Prop} [DecidablePred bad] [DecidablePred dif] {p n : Nat} (h : bad p) (hn : 0 < n) : zjud bad dif p n = nI (100 + p) := by
  cases n with
  | zero => exact absurd hn (by omega)
  | succ n => exact if_pos h
theorem zjud_d {bad dif : Nat → Prop} [DecidablePred bad] [DecidablePred dif] {p n : Nat} (h : ¬ bad p) (h2 : dif p) (hn : 0 < n) : zjud bad dif p n = nI p := by
  cases n with
  | zero => exact absurd hn (by omega)
  | succ n => exact (if_neg h).trans (if_pos h2)
theorem zjud_n {bad dif : Nat → Prop} [DecidablePred bad] [DecidablePred dif] {p n : Nat} (h : ¬ bad p) (h2 : ¬ dif p) (hn : 0 < n) : zjud bad dif p n = zjud bad dif (p + 1) (n - 1) := by
  cases n with
  | zero => exact absurd hn (by omega)
  | succ n => exact (if_neg h).trans (if_neg h2)
theorem z_nat {v : Int32} (h : ¬ v < 0) : ∃ k, k < 2 ^ 31 ∧ v = nI k := by
  rw [Int32.lt_iff_toInt_lt, Int32.toInt_zero] at h
  have h2 := Int32.toInt_lt v
  refine ⟨v.toInt.toNat, by omega, ?_⟩
  rw [← Int32.toInt_inj, nI_toInt (by omega)]
  omega
theorem z_clamp {v : Int32} (h : ¬ v < 0) : nI v.toNatClampNeg = v := by
  obtain ⟨k, hk, rfl⟩ := z_nat h
  rw [nI_clamp hk]
theorem z_addc {v : Int32} {j : Nat} (h : ¬ v < 0) : v + nI j = nI (v.toNatClampNeg + j) := by
  rw [← nI_add, z_clamp h]
theorem z_placeL {i : Int32} {z p : Nat} (hz : z ≤ 60) (hp : p ≤ 8) (h0 : ¬ i < 0) : (nI z - nI p) ≤ i ↔ z ≤ i.toNatClampNeg + p := by
  obtain ⟨k, hk, rfl⟩ := z_nat h0
  have h1 : (nI z - nI p).toInt = (z : Int) - p := pk_sub_toInt (by omega) (by omega)
  rw [Int32.le_iff_toInt_le, h1, nI_toInt hk, nI_clamp hk]
  omega
abbrev zjb (x : zX) (t : Nat) (i : Int32) (p : Nat) : Prop := ¬ (¬ i < 0 ∧ i.toNatClampNeg + p < zsz x t)
abbrev zjd (x : zX) (t : Nat) (i : Int32) (p : Nat) : Prop := ¬ x.2.1 (20 + t) (i.toNatClampNeg + p) = (zfind (x.1 4) (nI p) 0 8).toInt64
/-- a pair told as a number of two digits -/
abbrev zpr (N : Nat) (v : Int32) : Prop := ¬ v < 0 ∧ v.toNatClampNeg / 10 < N ∧ v.toNatClampNeg % 10 < N ∧ ¬ v.toNatClampNeg / 10 = v.toNatClampNeg % 10
def zpb (t : Nat) : Int32 := (nI 1 <<< (nI (t / 10) &&& 31)) ||| (nI 1 <<< (nI (t % 10) &&& 31))
/-- rows of pupils and of ints put in the place of others -/
def zcpR (x : zX) (a b c : Nat) (f : Nat → Option Nat) (g h : Nat → Int32) : zX := (zup (zup x.1 b g) c h, x.2.1, zup x.2.2 a f)
def zputq (g f : Nat → Option Nat) (n : Nat) : Nat → Option Nat := fun k => if k < n then g k else f k
theorem zputq_0 {g f : Nat → Option Nat} : zputq g f 0 = f := funext fun k => if_neg (by omega)
theorem zputq_s {g f : Nat → Option Nat} {j : Nat} : va_up (zputq g f j) j (g j) = zputq g f (j + 1) := by
  funext k
  show (if k = j then g j else if k < j then g k else f k) = if k < j + 1 then g k else f k
  by_cases h : k = j
  · rw [if_pos h, if_pos (by omega), h]
  · rw [if_neg h]
    by_cases h2 : k < j
    · rw [if_pos h2, if_pos (by omega)]
    · rw [if_neg h2, if_neg (by omega)]
theorem zup_t {α : Type} {f : Nat → α} {i : Nat} {g h : α} : zup (zup f i g) i h = zup f i h := by
  funext k
  by_cases e : k = i
  · subst e; rw [zup_s, zup_s]
  · rw [zup_n e, zup_n e, zup_n e]
theorem zup_c {α : Type} {f : Nat → α} {i j : Nat} {g h : α} (hij : i ≠ j) : zup (zup f i g) j h = zup (zup f j h) i g := by
  funext k
  by_cases e : k = i
  · subst e; rw [zup_n hij, zup_s, zup_s]
  · rw [zup_n e]
    by_cases e2 : k = j
    · subst e2; rw [zup_s, zup_s]
    · rw [zup_n e2, zup_n e2, zup_n e]
theorem zup_e {α : Type} {f : Nat → α} {i : Nat} : zup f i (f i) = f := by
  funext k
  by_cases e : k = i
  · subst e; exact zup_s
  · exact zup_n e
theorem zcpR_0 {x : zX} {a b c : Nat} (hbc : c ≠ b) : zcpR x a b c (x.2.2 a) (x.1 b) (x.1 c) = x := by
  unfold zcpR
  rw [zup_e, show x.1 c = (zup x.1 b (x.1 b)) c from (zup_n hbc).symm, zup_e, zup_e, zup_e]
theorem zcpR_s {x : zX} {a b c k : Nat} {f : Nat → Option Nat} {g h : Nat → Int32} {p : Option Nat} {v w : Int32} (hbc : c ≠ b) : zsI (zsI (zsP (zcpR x a b c f g h) a k p) b k v) c k w = zcpR x a b c (va_up f k p) (upd g k v) (upd h k w) := by
  have e1 : (zup (zup x.1 b g) c h) b = g := by rw [zup_n hbc.symm, zup_s]
  have e2 : (zup (zup (zup x.1 b g) c h) b (upd g k v)) c = h := by rw [zup_n hbc, zup_s]
  unfold zsI zsP zcpR
  show (zup (zup (zup (zup x.1 b g) c h) b (upd ((zup (zup x.1 b g) c h) b) k v)) c (upd ((zup (zup (zup x.1 b g) c h) b (upd ((zup (zup x.1 b g) c h) b) k v)) c) k w), x.2.1, zup (zup x.2.2 a f) a (va_up ((zup x.2.2 a f) a) k p)) = _
  rw [e1, e2, zup_s, zup_t, zup_c (f := zup x.1 b g) hbc, zup_t, zup_t]
/-- what is in one standing put into the other -/
def zcpy (x : zX) (fr to : Nat) : zX := zsI (zsL (zsI (zsI (zcpR x (3 * to) (3 * to + 1) (3 * to + 2) (zputq (x.2.2 (3 * fr)) (x.2.2 (3 * to)) 8) (zputn (x.1 (3 * fr + 1)) (x.1 (3 * to + 1)) 8) (zputn (x.1 (3 * fr + 2)) (x.1 (3 * to + 2)) 8)) to 3 (x.1 fr 3)) to 4 (x.1 fr 4)) to 5 (x.2.1 fr 5)) to 6 (x.1 fr 6)
def zPok (G : zG) (f : Nat → Option Nat) : Prop := ∀ k, k < 8 → ∀ o, f k = some o → 112 ≤ o ∧ o < zn G
section ZA
variable {p : Program} {l : Launch} {e : Env} {R : Room} {s : State} {m : MethodId} {args : Array Value} {below : List Frame} {meth : Method} {c : Code} {H : Heap} {locs : List Loc} {cells slots : Nat} {Q : State → Prop}
variable {cc : ByteArray} {pc : Nat} {ls : Array Slot} {rest : List Value} {G : zG} {x : zX} {A : Nat → Prop} {H0 : Heap}
theorem z_pastP (hx : p.tables.exec = Jvm.exec) (hb : c.code = cc) (hN : zN A s) (hK : va_K G.1 vwCl (zT G) s) (hG : zOK G) (hI : zI G x A H0 H locs) {i N o : Nat} (ha : zPA G i N) (h1 : 112 ≤ o) (h2 : o < zn G) {j : Int32} (k : Nat) (hj : j = nI k) (hk : k < N) (hN2 : N < 2 ^ 31) (hdg : decode cc pc = .ok (.aastore, 1))
    (kk : ∀ (H1 : Heap) (locs1 : List Loc), zI G (zsP x i k (some o)) A H0 H1 locs1 → W p l e R s m args below meth c H1 locs1 cells slots Q (F0 m (pc + 1) ls rest)) : W p l e R s m args below meth c H locs cells slots Q (F0 m pc ls (.ref (za G o) :: .int j :: .ref (za G i) :: rest)) := by
  have ho := zop (G := G) h1 h2
  have hcs := hN.2.1
  rcases hG.2 o h1 h2 with h | h | h | h | h | h | h <;> rw [h] at ho
  · exact z_past hx hb hK hI ha ho (ci := 0) rfl (Or.inl (hcs _ (z_mem 7 rfl))) k hj hk hN2 hdg kk
  · exact z_past hx hb hK hI ha ho (ci := 1) rfl (Or.inl (hcs _ (z_mem 3 rfl))) k hj hk hN2 hdg kk
  · exact z_past hx hb hK hI ha ho (ci := 2) rfl (Or.inl (hcs _ (z_mem 8 rfl))) k hj hk hN2 hdg kk
  · exact z_past hx hb hK hI ha ho (ci := 3) rfl (Or.inl (hcs _ (z_mem 6 rfl))) k hj hk hN2 hdg kk
  · exact z_past hx hb hK hI ha ho (ci := 4) rfl (Or.inr rfl) k hj hk hN2 hdg kk
  · exact z_past hx hb hK hI ha ho (ci := 8) rfl (Or.inl (hcs _ (z_mem 4 rfl))) k hj hk hN2 hdg kk
  · exact z_past hx hb hK hI ha ho (ci := 10) rfl (Or.inl (hcs _ (z_mem 5 rfl))) k hj hk hN2 hdg kk
theorem z_pastQ (hx : p.tables.exec = Jvm.exec) (hb : c.code = cc) (hN : zN A s) (hK : va_K G.1 vwCl (zT G) s) (hG : zOK G) (hI : zI G x A H0 H locs) {i N : Nat} (ha : zPA G i N) {o : Option Nat} (ho : ∀ q, o = some q → 112 ≤ q ∧ q < zn G) {j : Int32} (k : Nat) (hj : j = nI k) (hk : k < N) (hN2 : N < 2 ^ 31) (hdg : decode cc pc = .ok (.aastore, 1))
    (kk : ∀ (H1 : Heap) (locs1 : List Loc), zI G (zsP x i k o) A H0 H1 locs1 → W p l e R s m args below meth c H1 locs1 cells slots Q (F0 m (pc + 1) ls rest)) : W p l e R s m args below meth c H locs cells slots Q (F0 m pc ls (va_rf (o.map (za G)) :: .int j :: .ref (za G i) :: rest)) := by
  cases o with
  | none => exact z_pastN hx hb hK hI ha k hj hk hN2 hdg kk
  | some q => exact z_pastP hx hb hN hK hG hI ha (ho q rfl).1 (ho q rfl).2 k hj hk hN2 hdg kk
end ZA
/-- a stretch of a tape -/
abbrev zstr (x : zX) (t : Nat) (i n : Int32) : Prop := ¬ i < 0 ∧ ¬ n < 0 ∧ i.toNatClampNeg + n.toNatClampNeg ≤ zsz x t
theorem zstrL {i n : Int32} {z : Nat} (hz : z ≤ 60) (h0 : ¬ i < 0) (h1 : ¬ n < 0) : 0 < lg_cmp (i.toInt64 + n.toInt64) (nI z).toInt64 ↔ ¬ i.toNatClampNeg + n.toNatClampNeg ≤ z := by
  obtain ⟨a, ha, rfl⟩ := z_nat h0
  obtain ⟨b, hb, rfl⟩ := z_nat h1
  have e1 : ((nI a).toInt64 + (nI b).toInt64).toInt = (a : Int) + b := by
    rw [Int64.toInt_add, Int32.toInt_toInt64, Int32.toInt_toInt64, nI_toInt ha, nI_toInt hb]
    exact Int.bmod_eq_of_le (by omega) (by omega)
  have e2 : ((nI z).toInt64).toInt = (z : Int) := by rw [Int32.toInt_toInt64, nI_toInt (by omega)]
  have h2 := lg_cmp_le ((nI a).toInt64 + (nI b).toInt64) (nI z).toInt64
  rw [Int64.le_iff_toInt_le, e1, e2, Int32.le_iff_toInt_le, Int32.toInt_zero] at h2
  rw [Int32.lt_iff_toInt_lt, Int32.toInt_zero, nI_clamp ha, nI_clamp hb]
  omega
/-- a body's number put down -/
def zbeg (b : Int32) (x : zX) : zX := zsI (if ¬ x.1 17 1 < 0 ∧ ¬ nI 20 ≤ x.1 17 1 then zsI x 18 (x.1 17 1).toNatClampNeg b else x) 17 1 (x.1 17 1 + nI 1)
def zbgs (l : List Int32) (x : zX) : zX := l.foldl (fun y b => zbeg b y) x
