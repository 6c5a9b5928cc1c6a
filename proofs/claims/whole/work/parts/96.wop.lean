/-! WHAT A PAIR IS WORTH, in the reference -/
/-- the same but for the pile -/
def zQ97 (x u : zX) : Prop := (∀ i, i ≠ 97 → u.1 i = x.1 i) ∧ u.2 = x.2
theorem zQ97.r {x : zX} : zQ97 x x := ⟨fun _ _ => rfl, rfl⟩
theorem zQ97.t {x y z : zX} (h : zQ97 x y) (g : zQ97 y z) : zQ97 x z := ⟨fun i hi => (g.1 i hi).trans (h.1 i hi), g.2.trans h.2⟩
theorem zQ97.s {x : zX} {w : Nat → Int32} : zQ97 x (zsrI x 97 w) := ⟨fun _ hi => zsrI_n hi, rfl⟩
/-- clauses that may be asked -/
def zCls (x : zX) (F C : Nat) : Prop := zClR x F C ∧ ∀ k, k < C → ¬ x.1 90 (F + k) = nI 3 → zCkR x (F + k)
def zsuR (x : zX) (F : Nat) (w : Int32) (g : Nat → Int32) : Nat → Int32 := zsum (fun k => if x.1 90 (F + k) = w ∧ zev9 x (F + k) g = true then x.1 91 (F + k) else 0)
abbrev zbaR (x : zX) (F C a b : Nat) (r : Int32) : Prop := ∃ k, k < C ∧ x.1 90 (F + k) = nI 2 ∧ (zev9 x (F + k) (zfr9 x a b r) = true ∨ zev9 x (F + k) (zfr9 x b a r) = true)
abbrev zinb (x : zX) (N a b : Nat) : Prop := ∃ o, o < N ∧ ¬ nI o = nI b ∧ x.1 83 o = nI a
/-- worth, stage by stage -/
def zpw1 (x : zX) (a b : Nat) (n : Int32) : Int32 := if x.1 78 a = nI 1 ∨ x.1 78 a = nI 4 then n + (if x.1 81 a ≤ x.1 81 b then nI 0 else x.1 79 a) else n
def zpw2 (x : zX) (N a b : Nat) (n : Int32) : Int32 := if x.1 78 a = nI 4 then n + (if zinb x N a b then nI 0 else x.1 79 a) else n
def zpw3 (x : zX) (a : Nat) (n : Int32) : Int32 := if x.1 78 a = nI 2 ∨ x.1 78 a = nI 5 then n - x.1 80 a else n
def zpw4 (x : zX) (a b : Nat) (n : Int32) : Int32 := if x.1 78 a = nI 3 ∨ x.1 78 a = nI 6 then n + (if x.1 83 b = nI a then x.1 79 a else nI 0) else n
def zpw5 (x : zX) (a b : Nat) (n : Int32) : Int32 := if x.1 78 a = nI 6 then n + (if x.1 83 a = nI b then x.1 79 a else nI 0) else n
def zpwR (x : zX) (N F C a b : Nat) (r : Int32) : Int32 := zpw5 x a b (zpw4 x a b (zpw3 x a (zpw2 x N a b (zpw1 x a b (zsuR x F (nI 0) (zfr9 x a b r) C - zsuR x F (nI 1) (zfr9 x a b r) C)))))
/-- the same but for the pile, the tables and the rows that are tried -/
def zQ9 (x y : zX) : Prop := (∀ i, i ≠ 77 → (i < 97 ∨ 101 < i) → y.1 i = x.1 i) ∧ (∀ k, k ≠ 34 → k ≠ 35 → y.1 77 k = x.1 77 k) ∧ y.2 = x.2
theorem zQ9.r {x : zX} : zQ9 x x := ⟨fun _ _ _ => rfl, fun _ _ _ => rfl, rfl⟩
theorem zQ9.t {x y z : zX} (h : zQ9 x y) (g : zQ9 y z) : zQ9 x z := ⟨fun i h1 h2 => (g.1 i h1 h2).trans (h.1 i h1 h2), fun k h1 h2 => (g.2.1 k h1 h2).trans (h.2.1 k h1 h2), g.2.2.trans h.2.2⟩
theorem zQ97.q9 {x y : zX} (h : zQ97 x y) : zQ9 x y := ⟨fun i _ h2 => h.1 i (by omega), fun k _ _ => congrFun (h.1 77 (by decide)) k, h.2⟩
theorem zQ9.s {x : zX} {i k : Nat} {v : Int32} (hi : 97 ≤ i ∧ i ≤ 101) : zQ9 x (zsI x i k v) := ⟨fun j h1 h2 => zsI_n (by omega), fun q _ _ => congrFun (zsI_n (by omega)) q, rfl⟩
theorem zQ9.w {x : zX} {i : Nat} {w : Nat → Int32} (hi : 97 ≤ i ∧ i ≤ 101) : zQ9 x (zsrI x i w) := ⟨fun j h1 h2 => zsrI_n (by omega), fun q _ _ => congrFun (zsrI_n (by omega)) q, rfl⟩
theorem zQ9.f {x : zX} {k : Nat} {v : Int32} (hk : k = 34 ∨ k = 35) : zQ9 x (zsI x 77 k v) := ⟨fun j h1 h2 => zsI_n h1, fun q h1 h2 => by rw [zsI_u]; exact if_neg (by omega), rfl⟩
theorem zfr9_q {x y : zX} (h : zQ9 x y) {a b : Nat} {r : Int32} : zfr9 y a b r = zfr9 x a b r := by
  funext f
  unfold zfr9
  rw [h.1 80 (by decide) (by decide), h.1 81 (by decide) (by decide), h.1 82 (by decide) (by decide), h.1 83 (by decide) (by decide)]
theorem zev9_q {x y : zX} (h : zQ9 x y) {c : Nat} {g : Nat → Int32} : zev9 y c g = zev9 x c g := by
  unfold zev9
  rw [h.1 92 (by decide) (by decide), h.1 93 (by decide) (by decide), h.1 94 (by decide) (by decide)]
theorem zsuR_q {x y : zX} (h : zQ9 x y) {F C : Nat} {w : Int32} {g : Nat → Int32} : zsuR y F w g C = zsuR x F w g C := by
  refine zsum_c (fun k hk => ?_)
  rw [h.1 90 (by decide) (by decide), h.1 91 (by decide) (by decide), zev9_q h]
theorem zpwR_q {x y : zX} (h : zQ9 x y) {N F C a b : Nat} {r : Int32} : zpwR y N F C a b r = zpwR x N F C a b r := by
  unfold zpwR zpw1 zpw2 zpw3 zpw4 zpw5 zinb
  rw [zsuR_q h, zsuR_q h, zfr9_q h, h.1 78 (by decide) (by decide), h.1 79 (by decide) (by decide), h.1 80 (by decide) (by decide), h.1 81 (by decide) (by decide), h.1 83 (by decide) (by decide)]
theorem zbaR_q {x y : zX} (h : zQ9 x y) {F C a b : Nat} {r : Int32} : zbaR y F C a b r ↔ zbaR x F C a b r := by
  have e : (fun k => k < C ∧ y.1 90 (F + k) = nI 2 ∧ (zev9 y (F + k) (zfr9 y a b r) = true ∨ zev9 y (F + k) (zfr9 y b a r) = true)) = (fun k => k < C ∧ x.1 90 (F + k) = nI 2 ∧ (zev9 x (F + k) (zfr9 x a b r) = true ∨ zev9 x (F + k) (zfr9 x b a r) = true)) := by
    funext k
    rw [h.1 90 (by decide) (by decide), zev9_q h, zev9_q h, zfr9_q h, zfr9_q h]
  show (∃ k, _) ↔ (∃ k, _)
  rw [e]
theorem zClR_q {x y : zX} (h : zQ9 x y) {F C : Nat} (g : zClR x F C) : zClR y F C := by
  unfold zClR
  rw [h.2.1 13 (by decide) (by decide), h.1 89 (by decide) (by decide)]
  exact g
theorem zCls_q {x y : zX} (h : zQ9 x y) {F C : Nat} (g : zCls x F C) : zCls y F C := by
  refine ⟨zClR_q h g.1, fun k hk hw => ?_⟩
  rw [h.1 90 (by decide) (by decide)] at hw
  unfold zCkR
  rw [h.1 92 (by decide) (by decide), h.1 93 (by decide) (by decide), h.1 94 (by decide) (by decide)]
  exact g.2 k hk hw
theorem zRef_q {x y : zX} (h : zQ9 x y) {N : Nat} (g : zRef x N) : zRef y N := by
  unfold zRef
  rw [h.2.1 0 (by decide) (by decide), h.1 83 (by decide) (by decide), h.1 84 (by decide) (by decide), h.1 85 (by decide) (by decide)]
  exact g
/-- kinds of the reference's pupils -/
def zKd (x : zX) (N : Nat) : Prop := ∀ q, q < N → ∃ k, k < 7 ∧ x.1 78 q = nI k
/-- the tables so far -/
def zFR (x : zX) (N F C : Nat) (y : zX) (a q r : Nat) : Prop := ∀ a' q' r', r' < 2 → q' < N → a' < N → ¬ a' = q' → (a' < a ∨ (a' = a ∧ (q' < q ∨ (q' = q ∧ r' < r)))) → y.1 98 (16 * a' + 2 * q' + r') = zpwR x N F C a' q' (nI r') ∧ y.1 99 (16 * a' + 2 * q' + r') = (if zbaR x F C a' q' (nI r') then nI 1 else nI 0)
theorem zFR.z {x y : zX} {N F C : Nat} : zFR x N F C y 0 0 0 := fun _ _ _ _ _ _ _ h => absurd h (by omega)
theorem zFR.q {x y : zX} {N F C a q r : Nat} (h : zFR x N F C y a q r) (hr : 2 ≤ r) : zFR x N F C y a (q + 1) 0 := fun a' q' r' h1 h2 h3 h4 h5 => h a' q' r' h1 h2 h3 h4 (by omega)
theorem zFR.e {x y : zX} {N F C a r : Nat} (h : zFR x N F C y a a r) : zFR x N F C y a (a + 1) 0 := fun a' q' r' h1 h2 h3 h4 h5 => h a' q' r' h1 h2 h3 h4 (by omega)
theorem zFR.a {x y : zX} {N F C a q : Nat} (h : zFR x N F C y a q 0) (hq : N ≤ q) : zFR x N F C y (a + 1) 0 0 := fun a' q' r' h1 h2 h3 h4 h5 => h a' q' r' h1 h2 h3 h4 (by omega)
theorem zFR.s {x y u : zX} {N F C a q r : Nat} (h8 : N ≤ 8) (ha : a < N) (hq : q < N) (hr : r < 2) (h : zFR x N F C y a q r) (e2 : u.1 98 = upd (y.1 98) (16 * a + 2 * q + r) (zpwR x N F C a q (nI r))) (e3 : u.1 99 = upd (y.1 99) (16 * a + 2 * q + r) (if zbaR x F C a q (nI r) then nI 1 else nI 0)) : zFR x N F C u a q (r + 1) := by
  intro a' q' r' h1 h2 h3 h4 h5
  by_cases hh : a' = a ∧ q' = q ∧ r' = r
  · obtain ⟨rfl, rfl, rfl⟩ := hh
    rw [e2, e3]
    exact ⟨if_pos rfl, if_pos rfl⟩
  · have hne : ¬ 16 * a' + 2 * q' + r' = 16 * a + 2 * q + r := by omega
    rw [e2, e3]
    have h9 := h a' q' r' h1 h2 h3 h4 (by omega)
    exact ⟨(if_neg hne).trans h9.1, (if_neg hne).trans h9.2⟩
/-- the tables of the reference -/
def zTR (x : zX) (N F C : Nat) (u : zX) : Prop := ∀ a q r, r < 2 → q < N → a < N → ¬ a = q → u.1 98 (16 * a + 2 * q + r) = zpwR x N F C a q (nI r) ∧ u.1 99 (16 * a + 2 * q + r) = (if zbaR x F C a q (nI r) then nI 1 else nI 0)
