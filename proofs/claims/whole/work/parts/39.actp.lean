/-! ACTS, in the reference -/
def zbeR (b : Int32) (x : zX) : zX := zsI (if x.1 77 45 < nI 20 then zsI x 107 (x.1 77 45).toNatClampNeg b else x) 77 45 (x.1 77 45 + nI 1)
def zbgR (l : List Int32) (x : zX) : zX := l.foldl (fun y b => zbeR b y) x
def zRn (x : zX) (m : Nat) : Prop := ∃ n, n ≤ m ∧ x.1 77 45 = nI n
theorem zbeR_n {b : Int32} {x : zX} {i : Nat} (h1 : i ≠ 77) (h2 : i ≠ 107) : (zbeR b x).1 i = x.1 i := by
  unfold zbeR
  rw [zsI_n h1]
  by_cases h : x.1 77 45 < nI 20
  · rw [if_pos h, zsI_n h2]
  · rw [if_neg h]
theorem zbgR_n {i : Nat} (h1 : i ≠ 77) (h2 : i ≠ 107) : ∀ (l : List Int32) (x : zX), (zbgR l x).1 i = x.1 i
  | [], _ => rfl
  | b :: l, x => (zbgR_n h1 h2 l (zbeR b x)).trans (zbeR_n h1 h2)
theorem zbgR_a (l1 l2 : List Int32) (x : zX) : zbgR (l1 ++ l2) x = zbgR l2 (zbgR l1 x) := List.foldl_append
theorem zRn_e {x : zX} {m : Nat} (b : Int32) (h : zRn x m) : zRn (zbeR b x) (m + 1) := by
  obtain ⟨n, h1, h2⟩ := h
  refine ⟨n + 1, by omega, ?_⟩
  unfold zbeR
  rw [zsI_u]
  show (if 45 = 45 then x.1 77 45 + nI 1 else _) = _
  rw [if_pos rfl, h2, nI_add]
theorem zRn_l {m : Nat} : ∀ (l : List Int32) {x : zX}, zRn x m → zRn (zbgR l x) (m + l.length)
  | [], _, h => h
  | b :: l, x, h => by
    have h2 := zRn_l l (zRn_e b h)
    obtain ⟨n, h3, h4⟩ := h2
    exact ⟨n, by rw [List.length_cons]; omega, h4⟩
theorem zRn_m {x : zX} {m m2 : Nat} (h : zRn x m) (h2 : m ≤ m2) : zRn x m2 := by
  obtain ⟨n, h3, h4⟩ := h
  exact ⟨n, by omega, h4⟩
def zsR (q : Int32) : List Int32 := if q = nI 2 then [nI 30, nI 10] else if q = nI 5 then [nI 30, nI 10] else if q = nI 4 then [nI 50, nI 10] else if q = nI 6 then [nI 71, nI 10] else [nI 10]
def zvR (q n v w : Int32) : Int32 := if q = nI 2 then w * nI 3 + n else if q = nI 5 then w * nI 3 + n else if q = nI 4 then -(w + n) else if q = nI 6 then (w + n) ^^^ v else w + n
def ztR (q : Int32) : List Int32 := if q = nI 1 then nI 20 :: nI 11 :: zsR q else if q = nI 4 then nI 51 :: nI 20 :: nI 11 :: zsR q else if q = nI 6 then nI 70 :: nI 11 :: (zsR q ++ [nI 10]) else nI 11 :: zsR q
def zuR (q n v w : Int32) : Int32 := if q = nI 1 then (zvR q n v w - v) ^^^ nI 6 else if q = nI 4 then (zvR q n v (w + nI 1) - v) ^^^ nI 6 else if q = nI 6 then (zvR q n v w - v) + (nI 2 + n) else zvR q n v w - v
def zeR (q : Int32) : List Int32 := if q = nI 3 then nI 40 :: nI 12 :: (ztR q ++ ztR q) else if q = nI 6 then nI 40 :: nI 12 :: (ztR q ++ ztR q) else if q = nI 5 then nI 60 :: nI 12 :: ztR q else nI 12 :: ztR q
def zwR (q n v w : Int32) : Int32 := if q = nI 3 then zuR q n v w * nI 2 + zuR q n v (nI 1) else if q = nI 6 then zuR q n v w * nI 2 + zuR q n v (nI 1) else if q = nI 5 then zuR q n v (w - n) * nI 2 else zuR q n v w * nI 2
theorem zsR_L (q : Int32) : (zsR q).length ≤ 2 := by
  unfold zsR
  repeat' split
  all_goals decide
theorem ztR_L (q : Int32) : (ztR q).length ≤ 5 := by
  have h := zsR_L q
  unfold ztR
  repeat' split
  all_goals simp only [List.length_cons, List.length_append, List.length_nil]
  all_goals omega
