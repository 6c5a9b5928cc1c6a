/-! CODES: what a stretch of them answers, in class and reference -/
def zfi (v : Int32) : Int32 := if v = -1 then -33 else if v = -2 then -38 else if v = -3 then -124 else nI (1000 * (v.toNatClampNeg / 300) + 100 * (v.toNatClampNeg / 100 % 3) + v.toNatClampNeg % 100)
def zcs (g : Nat → Int32) (cd s : Int32) : Int32 := zhs ((fun _ => g), (fun _ _ => 0), fun _ _ => none) 0 cd s
theorem zcs_e {x : zX} {b : Nat} {cd s : Int32} : zhs x b cd s = zcs (x.1 (b + 6)) cd s := rfl
def zrunC (g : Nat → Int32) (l : List Int32) (s : Int32) : Int32 := l.foldl (fun s cd => zcs g cd s) s
def zrunR (g : Nat → Int32) : List Int32 → List Bool → Option (List Bool)
  | [], st => some st
  | c :: l, st => (zrs1 g (zfi c) st).bind (zrunR g l)
theorem zrunR_a (g : Nat → Int32) : ∀ (l m : List Int32) (st : List Bool), zrunR g (l ++ m) st = (zrunR g l st).bind (zrunR g m)
  | [], m, st => rfl
  | c :: l, m, st => by
    show (zrs1 g (zfi c) st).bind (zrunR g (l ++ m)) = ((zrs1 g (zfi c) st).bind (zrunR g l)).bind (zrunR g m)
    cases zrs1 g (zfi c) st with
    | none => rfl
    | some s => exact zrunR_a g l m s
theorem zrunC_a (g : Nat → Int32) (l m : List Int32) (s : Int32) : zrunC g (l ++ m) s = zrunC g m (zrunC g l s) := List.foldl_append
def zbt (s : Int32) (i : Nat) : Bool := s.toBitVec.getLsbD i
theorem zbt_or (a b : Int32) (i : Nat) : zbt (a ||| b) i = (zbt a i || zbt b i) := by
  unfold zbt
  rw [Int32.toBitVec_or, BitVec.getLsbD_or]
theorem zbt_and (a b : Int32) (i : Nat) : zbt (a &&& b) i = (zbt a i && zbt b i) := by
  unfold zbt
  rw [Int32.toBitVec_and, BitVec.getLsbD_and]
theorem zbt_xor (a b : Int32) (i : Nat) : zbt (a ^^^ b) i = (zbt a i ^^ zbt b i) := by
  unfold zbt
  rw [Int32.toBitVec_xor, BitVec.getLsbD_xor]
theorem zbt_shl (a : Int32) {i : Nat} (hi : i < 31) : zbt (a <<< (nI 1 &&& 31)) (i + 1) = zbt a i ∧ zbt (a <<< (nI 1 &&& 31)) 0 = false := by
  have e : (a <<< (nI 1 &&& 31)).toBitVec = a.toBitVec <<< 1 := by
    show a.toBitVec <<< ((nI 1 &&& 31).toBitVec.smod 32) = _
    rw [show (nI 1 &&& 31).toBitVec.smod 32 = 1#32 from by decide]
    rfl
  unfold zbt
  rw [e, BitVec.getLsbD_shiftLeft, BitVec.getLsbD_shiftLeft]
  refine ⟨?_, by simp⟩
  simp
  omega
theorem zbt_shr (a : Int32) {i : Nat} (hi : i < 31) : zbt (a >>> (nI 1 &&& 31)) i = zbt a (i + 1) := by
  have e : (a >>> (nI 1 &&& 31)).toBitVec = a.toBitVec.sshiftRight 1 := by
    show a.toBitVec.sshiftRight' ((nI 1 &&& 31).toBitVec.smod 32) = _
    rw [show (nI 1 &&& 31).toBitVec.smod 32 = 1#32 from by decide]
    rfl
  unfold zbt
  rw [e, BitVec.getLsbD_sshiftRight, if_pos (by omega), Nat.add_comm]
  simp
  omega
theorem zbt_1 (i : Nat) : zbt (nI 1) i = decide (i = 0) := by
  unfold zbt
  show (1#32).getLsbD i = _
  rw [BitVec.getLsbD_one]
  by_cases c : i = 0 <;> simp [c]
theorem zbt_0 (i : Nat) : zbt (nI 0) i = false := by
  unfold zbt
  exact BitVec.getLsbD_zero
theorem zbt_2 {i : Nat} (hi : i < 32) : zbt (-2) i = decide (¬ i = 0) := by
  have hd : ∀ i : Fin 32, zbt (-2) i.val = decide (¬ i.val = 0) := by decide +kernel
  exact hd ⟨i, hi⟩
/-- the low bits of the class's stack -/
def zlow (s : Int32) (st : List Bool) : Prop := ∀ i, i < st.length → zbt s i = st.getD i false
theorem zlow_t {s : Int32} {st : List Bool} {P : Prop} [Decidable P] (hl : st.length + 1 ≤ 31) (h : zlow s st) : zlow ((s <<< (nI 1 &&& 31)) ||| (if P then nI 1 else nI 0)) (decide P :: st) := by
  intro i hi
  have hb : ∀ i, zbt (if P then nI 1 else nI 0) i = (decide P && decide (i = 0)) := fun i => by
    by_cases c : P
    · rw [if_pos c, zbt_1]
      simp [c]
    · rw [if_neg c, zbt_0]
      simp [c]
  rw [zbt_or, hb]
  cases i with
  | zero =>
    rw [(zbt_shl s (i := 0) (by omega)).2]
    simp
  | succ i =>
    have hi2 : i < st.length := by simpa using hi
    rw [(zbt_shl s (i := i) (by omega)).1, h i hi2]
    simp
theorem zlow_n {s : Int32} {st : List Bool} {a : Bool} (h : zlow s (a :: st)) : zlow (s ^^^ nI 1) ((!a) :: st) := by
  intro i hi
  rw [zbt_xor, zbt_1, h i (by simpa using hi)]
  cases i with
  | zero => cases a <;> rfl
  | succ i => simp
theorem zlow_a {s : Int32} {st : List Bool} {a b : Bool} (hl : st.length + 2 ≤ 31) (h : zlow s (b :: a :: st)) : zlow ((s >>> (nI 1 &&& 31)) &&& (s ||| (-2))) ((a && b) :: st) := by
  intro i hi
  have hi2 : i < st.length + 1 := by simpa using hi
  have h1 := h (i + 1) (by simp; omega)
  have h0 := h 0 (by simp)
  rw [zbt_and, zbt_or, zbt_shr s (by omega), zbt_2 (by omega), h1]
  cases i with
  | zero =>
    rw [h0]
    simp
  | succ i => simp
theorem zlow_o {s : Int32} {st : List Bool} {a b : Bool} (hl : st.length + 2 ≤ 31) (h : zlow s (b :: a :: st)) : zlow ((s >>> (nI 1 &&& 31)) ||| (s &&& nI 1)) ((a || b) :: st) := by
  intro i hi
  have hi2 : i < st.length + 1 := by simpa using hi
  have h1 := h (i + 1) (by simp; omega)
  have h0 := h 0 (by simp)
  rw [zbt_or, zbt_and, zbt_shr s (by omega), zbt_1, h1]
  cases i with
  | zero =>
    rw [h0]
    simp
  | succ i => simp
/-- a stretch of codes that answers one thing, at most h deep -/
def zSeg (h : Nat) (l : List Int32) : Prop := ∀ g : Nat → Int32, ∃ v : Bool, (∀ st, zrunR g l st = some (v :: st)) ∧ ∀ s st, st.length + h ≤ 31 → zlow s st → zlow (zrunC g l s) (v :: st)
theorem zSeg_w {h k : Nat} {l : List Int32} (H : zSeg h l) (hk : h ≤ k) : zSeg k l := fun g => by
  obtain ⟨v, h1, h2⟩ := H g
  exact ⟨v, h1, fun s st hl => h2 s st (by omega)⟩
theorem zfi_q {q : Nat} (hq : q < 2100) : zfi (nI q) = nI (1000 * (q / 300) + 100 * (q / 100 % 3) + q % 100) := by
  have hn : ∀ v : Int32, v < 0 → ¬ nI q = v := fun v hv z => absurd (show nI q < 0 from by rw [z]; exact hv) (nI_pos (by omega))
  unfold zfi
  rw [if_neg (hn _ (by decide)), if_neg (hn _ (by decide)), if_neg (hn _ (by decide)), nI_clamp (by omega)]
theorem zSeg_t {q : Nat} (hq : q < 2100) : zSeg 1 [nI q] := fun g => by
  have hc : 1000 * (q / 300) + 100 * (q / 100 % 3) + q % 100 < 7000 := by omega
  refine ⟨decide (ztst g (1000 * (q / 300) + 100 * (q / 100 % 3) + q % 100)), fun st => ?_, fun s st hl h => ?_⟩
  · show (zrs1 g (zfi (nI q)) st).bind (zrunR g []) = _
    have hn : ¬ nI (1000 * (q / 300) + 100 * (q / 100 % 3) + q % 100) < 0 := nI_pos (by omega)
    have hn2 : ¬ nI (1000 * (q / 300) + 100 * (q / 100 % 3) + q % 100) = -33 := fun z => hn (by rw [z]; decide)
    rw [zfi_q hq]
    unfold zrs1
    rw [if_neg hn2, if_neg hn, nI_clamp (by omega)]
    rfl
  · have e : zrunC g [nI q] s = ((s <<< (nI 1 &&& 31)) ||| (if ztst g (1000 * (q / 300) + 100 * (q / 100 % 3) + q % 100) then nI 1 else nI 0)) := by
      show zcs g (nI q) s = _
      unfold zcs zhs
      rw [if_pos (nI_pos (by omega)), nI_clamp (by omega)]
      congr 1
      refine zif_c ?_
      unfold zso ztst
      dsimp only
      rw [show (1000 * (q / 300) + 100 * (q / 100 % 3) + q % 100) / 100 % 10 = q / 100 % 3 by omega, show (1000 * (q / 300) + 100 * (q / 100 % 3) + q % 100) / 1000 = q / 300 by omega, show (1000 * (q / 300) + 100 * (q / 100 % 3) + q % 100) % 100 = q % 100 by omega]
      exact Iff.rfl
    rw [e]
    exact zlow_t hl h
theorem zSeg_n {h : Nat} {l : List Int32} (H : zSeg h l) : zSeg h (l ++ [-1]) := fun g => by
  obtain ⟨v, h1, h2⟩ := H g
  refine ⟨!v, fun st => ?_, fun s st hl hs => ?_⟩
  · rw [zrunR_a, h1]
    rfl
  · rw [zrunC_a]
    exact zlow_n (h2 s st hl hs)
theorem zSeg_a {h k : Nat} {l m : List Int32} (H : zSeg h l) (K : zSeg k m) (hk : k + 1 ≤ h) (h2 : 2 ≤ h) : zSeg h (l ++ m ++ [-2]) := fun g => by
  obtain ⟨a, a1, a2⟩ := H g
  obtain ⟨b, b1, b2⟩ := K g
  refine ⟨a && b, fun st => ?_, fun s st hl hs => ?_⟩
  · rw [zrunR_a, zrunR_a, a1]
    show (zrunR g m (a :: st)).bind (zrunR g [-2]) = _
    rw [b1]
    rfl
  · rw [zrunC_a, zrunC_a]
    exact zlow_a (by omega) (b2 _ _ (by simp only [List.length_cons]; omega) (a2 s st hl hs))
theorem zSeg_o {h k : Nat} {l m : List Int32} (H : zSeg h l) (K : zSeg k m) (hk : k + 1 ≤ h) (h2 : 2 ≤ h) : zSeg h (l ++ m ++ [-3]) := fun g => by
  obtain ⟨a, a1, a2⟩ := H g
  obtain ⟨b, b1, b2⟩ := K g
  refine ⟨a || b, fun st => ?_, fun s st hl hs => ?_⟩
  · rw [zrunR_a, zrunR_a, a1]
    show (zrunR g m (a :: st)).bind (zrunR g [-3]) = _
    rw [b1]
    rfl
  · rw [zrunC_a, zrunC_a]
    exact zlow_o (by omega) (b2 _ _ (by simp only [List.length_cons]; omega) (a2 s st hl hs))
/-- in the class's row, and in the reference's -/
theorem zhf_l {x : zX} {b fr : Nat} : ∀ (l : List Int32) (k : Nat), (∀ i, i < l.length → x.1 (b + 4) (fr + k + i) = l.getD i 0) → zhf x b fr (k + l.length) = zrunC (x.1 (b + 6)) l (zhf x b fr k)
  | [], k, _ => rfl
  | c :: l, k, h => by
    have h0 := h 0 (by simp)
    have e := zhf_l (x := x) (b := b) (fr := fr) l (k + 1) (fun i hi => by
      have := h (i + 1) (by simpa using hi)
      rw [show fr + (k + 1) + i = fr + k + (i + 1) by omega, this]
      rfl)
    rw [List.length_cons, show k + (l.length + 1) = k + 1 + l.length by omega, e, zhf]
    show zrunC _ l (zhs x b (x.1 (b + 4) (fr + k)) (zhf x b fr k)) = zrunC _ l (zcs _ c (zhf x b fr k))
    rw [show x.1 (b + 4) (fr + k) = c from h0]
    rfl
theorem zrsN_l2 {g w : Nat → Int32} {fr : Nat} : ∀ (l : List Int32) (k : Nat) (st : List Bool), zrsN g w fr k = some st → (∀ i, i < l.length → w (fr + k + i) = zfi (l.getD i 0)) → zrsN g w fr (k + l.length) = zrunR g l st
  | [], k, st, h0, _ => h0
  | c :: l, k, st, h0, h => by
    have hc := h 0 (by simp)
    have hc2 : w (fr + k) = zfi c := hc
    have e1 : zrsN g w fr (k + 1) = zrs1 g (zfi c) st := by
      rw [zrsN, h0, hc2]
      rfl
    show zrsN g w fr (k + (l.length + 1)) = (zrs1 g (zfi c) st).bind (zrunR g l)
    cases e2 : zrs1 g (zfi c) st with
    | none =>
      rw [e2] at e1
      have hn : ∀ n, zrsN g w fr (k + 1 + n) = none := fun n => by
        induction n with
        | zero => exact e1
        | succ n ih => rw [← Nat.add_assoc, zrsN, ih]; rfl
      rw [show k + (l.length + 1) = k + 1 + l.length by omega]
      exact hn _
    | some st2 =>
      rw [e2] at e1
      rw [show k + (l.length + 1) = k + 1 + l.length by omega]
      exact zrsN_l2 l (k + 1) st2 e1 (fun i hi => by
        have := h (i + 1) (by simpa using hi)
        rw [show fr + (k + 1) + i = fr + k + (i + 1) by omega, this]
        rfl)
/-- a clause's codes say the same in both -/
theorem zSeg_ev {h : Nat} {l : List Int32} (H : zSeg h l) (h31 : h ≤ 31) {x : zX} {b fr fr2 : Nat} {w g : Nat → Int32} (hb : ∀ i, i < l.length → x.1 (b + 4) (fr + i) = l.getD i 0) (h6 : x.1 (b + 6) = g) (hw : ∀ i, i < l.length → w (fr2 + i) = zfi (l.getD i 0)) : zrsN g w fr2 l.length = some [decide (¬ (zhf x b fr l.length &&& nI 1) = 0)] := by
  obtain ⟨v, v1, v2⟩ := H g
  have e1 := zrsN_l2 (g := g) (w := w) (fr := fr2) l 0 [] rfl (fun i hi => by rw [Nat.add_zero]; exact hw i hi)
  have e2 := zhf_l (x := x) (b := b) (fr := fr) l 0 (fun i hi => by rw [Nat.add_zero]; exact hb i hi)
  rw [Nat.zero_add] at e1 e2
  have e3 := v2 (zhf x b fr 0) [] (by simpa using h31) (fun i hi => absurd hi (by simp))
  rw [e1, v1, e2, h6]
  have e4 := e3 0 (by simp)
  congr 1
  congr 1
  have e5 : zbt (zrunC g l (zhf x b fr 0)) 0 = v := e4
  rw [← e5]
  generalize zrunC g l (zhf x b fr 0) = s
  rcases z_b1 s with z | z
  · have : zbt (s &&& nI 1) 0 = false := by rw [z]; rfl
    rw [zbt_and, zbt_1] at this
    rw [z]
    simpa using this
  · have : zbt (s &&& nI 1) 0 = true := by rw [z]; rfl
    rw [zbt_and, zbt_1] at this
    rw [z]
    have t2 : zbt s 0 = true := by simpa using this
    rw [t2]
    decide
