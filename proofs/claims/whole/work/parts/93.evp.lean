/-! WHAT HOLDS, in the reference: its signs run on a pile of truths -/
/-- a test's fact -/
def zfr9 (x : zX) (a b : Nat) (r : Int32) (f : Nat) : Int32 := if f = 0 then nI a else if f = 1 then nI b else if f = 2 then (if x.1 81 b ≤ x.1 81 a then nI 0 else x.1 81 b - x.1 81 a) else if f = 3 then x.1 80 a + x.1 80 b else if f = 4 then (if x.1 82 a = x.1 82 b then nI 1 else nI 0) else if f = 5 then (if x.1 83 a = nI b then nI 1 else nI 0) + (if x.1 83 b = nI a then nI 1 else nI 0) else r
/-- whether a test holds: what is told of a fact -/
abbrev ztst (g : Nat → Int32) (c : Nat) : Prop := (nI (c / 100 % 10) = 0 ∧ g (c / 1000) < nI (c % 100)) ∨ (¬ nI (c / 100 % 10) = 0 ∧ nI (c / 100 % 10) = nI 1 ∧ g (c / 1000) = nI (c % 100)) ∨ (¬ nI (c / 100 % 10) = 0 ∧ ¬ nI (c / 100 % 10) = nI 1 ∧ nI (c % 100) < g (c / 1000))
/-- a sign on a pile -/
def zrs1 (g : Nat → Int32) (cd : Int32) (st : List Bool) : Option (List Bool) :=
  if cd = -33 then (match st with | a :: r => some ((!a) :: r) | [] => none)
  else if cd < 0 then (match st with | b :: a :: r => some ((if cd = -38 then (a && b) else (a || b)) :: r) | _ => none)
  else some (decide (ztst g cd.toNatClampNeg) :: st)
def zrsN (g w4 : Nat → Int32) (fr : Nat) : Nat → Option (List Bool)
  | 0 => some []
  | n + 1 => (zrsN g w4 fr n).bind (fun st => zrs1 g (w4 (fr + n)) st)
theorem zrsN_p {g w4 : Nat → Int32} {fr : Nat} : ∀ (d n : Nat) (st : List Bool), zrsN g w4 fr (n + d) = some st → ∃ st', zrsN g w4 fr n = some st'
  | 0, _, st, h => ⟨st, h⟩
  | d + 1, n, st, h => by
    rw [show n + (d + 1) = (n + d) + 1 by omega, zrsN] at h
    obtain ⟨st', h1, -⟩ := Option.bind_eq_some_iff.mp h
    exact zrsN_p d n st' h1
theorem zrsN_s {g w4 : Nat → Int32} {fr n m : Nat} {st v : List Bool} (hm : n < m) (h : zrsN g w4 fr m = some v) (hn : zrsN g w4 fr n = some st) : ∃ st', zrs1 g (w4 (fr + n)) st = some st' ∧ zrsN g w4 fr (n + 1) = some st' := by
  obtain ⟨st', h1⟩ := zrsN_p (m - (n + 1)) (n + 1) v (by rw [show n + 1 + (m - (n + 1)) = m by omega]; exact h)
  refine ⟨st', ?_, h1⟩
  rw [zrsN, hn] at h1
  exact h1
/-- how a pile lies in its row -/
def zpil (w : Nat → Int32) : List Bool → Prop
  | [] => True
  | a :: r => w r.length = (if a = true then nI 1 else nI 0) ∧ zpil w r
theorem zpil_u {w : Nat → Int32} {v : Int32} : ∀ {st : List Bool} {k : Nat}, st.length ≤ k → zpil w st → zpil (upd w k v) st
  | [], _, _, _ => trivial
  | a :: r, k, hk, h => by
    have h9 : r.length + 1 ≤ k := hk
    exact ⟨(if_neg (by omega)).trans h.1, zpil_u (by omega) h.2⟩
theorem zpil_c {w : Nat → Int32} {a : Bool} {v : Int32} {r : List Bool} (hv : (if a = true then nI 1 else nI 0) = v) (h : zpil w r) : zpil (upd w r.length v) (a :: r) := ⟨(if_pos rfl).trans hv.symm, zpil_u (Nat.le_refl _) h⟩
/-- the signs of the reference -/
def zcdR (v : Int32) : Prop := v = -33 ∨ v = -38 ∨ v = -124 ∨ ∃ q, q < 7000 ∧ v = nI q
theorem zrs1_n {g : Nat → Int32} {st st' : List Bool} (h : zrs1 g (-33) st = some st') : ∃ a r, st = a :: r ∧ st' = (!a) :: r := by
  unfold zrs1 at h
  rw [if_pos rfl] at h
  cases st with
  | nil => exact absurd h (by simp)
  | cons a r => exact ⟨a, r, rfl, (Option.some.inj h).symm⟩
theorem zrs1_b {g : Nat → Int32} {cd : Int32} {st st' : List Bool} (h1 : ¬ cd = -33) (h2 : cd < 0) (h : zrs1 g cd st = some st') : ∃ b a r, st = b :: a :: r ∧ st' = (if cd = -38 then (a && b) else (a || b)) :: r := by
  unfold zrs1 at h
  rw [if_neg h1, if_pos h2] at h
  match st, h with
  | [], h => exact absurd h (by simp)
  | [_], h => exact absurd h (by simp)
  | b :: a :: r, h => exact ⟨b, a, r, rfl, (Option.some.inj h).symm⟩
theorem zrs1_t {g : Nat → Int32} {q : Nat} {st st' : List Bool} (hq : q < 7000) (h : zrs1 g (nI q) st = some st') : st' = decide (ztst g q) :: st := by
  unfold zrs1 at h
  rw [if_neg (fun e => nI_pos (n := q) (by omega) (by rw [e]; decide)), if_neg (nI_pos (by omega)), nI_clamp (by omega)] at h
  exact (Option.some.inj h).symm
/-- how high a pile may come -/
theorem zrs1_l {g : Nat → Int32} {cd : Int32} {st st' : List Bool} (h : zrs1 g cd st = some st') : st'.length ≤ st.length + 1 := by
  unfold zrs1 at h
  split at h
  · split at h
    · rw [← Option.some.inj h]; exact Nat.le_succ _
    · exact absurd h (by simp)
  · split at h
    · split at h
      · rw [← Option.some.inj h]; show _ + 1 ≤ _ + 1 + 1 + 1; omega
      · exact absurd h (by simp)
    · rw [← Option.some.inj h]; exact Nat.le_refl _
theorem zrsN_l {g w4 : Nat → Int32} {fr : Nat} : ∀ {n : Nat} {st : List Bool}, zrsN g w4 fr n = some st → st.length ≤ n
  | 0, st, h => by rw [← Option.some.inj h]; exact Nat.le_refl _
  | n + 1, st, h => by
    obtain ⟨st', h1, h2⟩ := Option.bind_eq_some_iff.mp h
    have := zrsN_l h1
    have := zrs1_l h2
    omega
/-- what a clause's signs answer -/
def zev9 (x : zX) (c : Nat) (g : Nat → Int32) : Bool := match zrsN g (x.1 94) (x.1 92 c).toNatClampNeg ((x.1 93 c).toNatClampNeg - (x.1 92 c).toNatClampNeg) with | some (v :: _) => v | _ => false
/-- a clause whose signs may be run -/
def zCkR (x : zX) (c : Nat) : Prop := ∃ fr en, fr ≤ en ∧ en ≤ 600 ∧ en ≤ fr + 99 ∧ x.1 92 c = nI fr ∧ x.1 93 c = nI en ∧ (∀ k, fr ≤ k → k < en → zcdR (x.1 94 k)) ∧ ∀ g, ∃ v, zrsN g (x.1 94) fr (en - fr) = some [v]
theorem zsI_sr {x : zX} {i k : Nat} {w : Nat → Int32} {y : Int32} : zsI (zsrI x i w) i k y = zsrI x i (upd w k y) := by
  refine zX_ext (fun j q => ?_) rfl
  by_cases hj : j = i
  · rw [hj, zsI_u, zsrI_u, zsrI_u]
  · rw [zsI_n hj, zsrI_n hj, zsrI_n hj]
