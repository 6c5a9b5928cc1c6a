/-! WHAT HOLDS, in a room of the class: codes on a stack of bits, sums of clauses -/
abbrev zso (x : zX) (b q : Nat) : Prop := (nI (q / 100 % 3) = nI 0 ∧ x.1 (b + 6) (q / 300) < nI (q % 100)) ∨ (¬ nI (q / 100 % 3) = nI 0 ∧ nI (q / 100 % 3) = nI 1 ∧ x.1 (b + 6) (q / 300) = nI (q % 100)) ∨ (¬ nI (q / 100 % 3) = nI 0 ∧ ¬ nI (q / 100 % 3) = nI 1 ∧ nI (q % 100) < x.1 (b + 6) (q / 300))
def zhs (x : zX) (b : Nat) (cd s : Int32) : Int32 := if ¬ cd < 0 then ((s <<< (nI 1 &&& 31)) ||| (if zso x b cd.toNatClampNeg then nI 1 else nI 0)) else if cd = -1 then s ^^^ nI 1 else if cd = -2 then ((s >>> (nI 1 &&& 31)) &&& (s ||| (-2))) else ((s >>> (nI 1 &&& 31)) ||| (s &&& nI 1))
def zhf (x : zX) (b fr : Nat) : Nat → Int32
  | 0 => 0
  | n + 1 => zhs x b (x.1 (b + 4) (fr + n)) (zhf x b fr n)
abbrev zhd (x : zX) (b fr en : Nat) : Prop := ¬ (zhf x b fr (en - fr) &&& nI 1) = 0
def zcdO (v : Int32) : Prop := v = -1 ∨ v = -2 ∨ v = -3 ∨ ∃ q, q < 2100 ∧ v = nI q
theorem z_max0 {n : Nat} (h : n < 2 ^ 31) : (if (nI 0) < (nI n) then (nI n) else (nI 0)) = nI n := by
  by_cases h2 : 0 < n
  · exact if_pos ((zqL (by omega) h).mpr h2)
  · rw [show n = 0 by omega]; rfl
theorem zhs_t {x : zX} {b q : Nat} {s v : Int32} (hq : q < 2100) (hv : (if zso x b q then nI 1 else nI 0) = v) : ((s <<< (nI 1 &&& 31)) ||| v) = zhs x b (nI q) s := by
  unfold zhs
  rw [if_pos (nI_pos (by omega)), nI_clamp (by omega), hv]
theorem zhf_s {x : zX} {b fr c : Nat} {s v : Int32} (h : fr ≤ c) (hs : s = zhf x b fr (c - fr)) (hv : v = zhs x b (x.1 (b + 4) c) s) : v = zhf x b fr (c + 1 - fr) := by
  rw [show c + 1 - fr = (c - fr) + 1 by omega, zhf, ← hs, show fr + (c - fr) = c by omega]
  exact hv
/-- where a clause's codes end, and begin -/
def zen (x : zX) (b k : Nat) : Nat := (x.1 (b + 3) k).toNatClampNeg
def zfr (x : zX) (b : Nat) : Nat → Nat
  | 0 => 0
  | k + 1 => zen x b k
def zsm (x : zX) (b : Nat) (w : Int32) : Nat → Int32 := zsum (fun k => if x.1 (b + 1) k = w ∧ zhd x b (zfr x b k) (zen x b k) then x.1 (b + 2) k else 0)
/-- a room of C clauses, all codes as they may be -/
def zRo (x : zX) (b C : Nat) : Prop := C ≤ 10 ∧ x.1 b 4 = nI C ∧ (∀ k, k < C → x.1 (b + 3) k = nI (zen x b k) ∧ zen x b k ≤ 100 ∧ ∀ c, c < zen x b k → zcdO (x.1 (b + 4) c))
