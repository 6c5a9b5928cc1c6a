/-! SITTINGS, small rows: the cell of two pupils and a row, a desk's worth, the rows that a search leaves alone -/
def zcel (a b : Int32) (row : Nat) : Int32 := if zin 8 a ∧ zin 8 b ∧ ¬ a = b then nI ((row * 8 + a.toNatClampNeg) * 8 + b.toNatClampNeg) else -1
theorem zcel_y {a b row : Nat} (ha : a < 8) (hb : b < 8) (h : ¬ a = b) : zcel (nI a) (nI b) row = nI ((row * 8 + a) * 8 + b) := by
  unfold zcel
  rw [if_pos ⟨⟨nI_pos (by omega), nI_ge ha (by decide)⟩, ⟨nI_pos (by omega), nI_ge hb (by decide)⟩, fun q => h ((nI_eq (by omega) (by omega)).mp q)⟩, nI_clamp (by omega), nI_clamp (by omega)]
theorem zcel_i {a b row : Nat} (ha : a < 8) (hb : b < 8) (h : ¬ nI a = nI b) : zcel (nI a) (nI b) row = nI ((row * 8 + a) * 8 + b) := zcel_y ha hb (fun q => h (congrArg nI q))
theorem zcel_n {a b : Int32} {row : Nat} (h : ¬ (zin 8 a ∧ zin 8 b ∧ ¬ a = b)) : zcel a b row = -1 := if_neg h
theorem zcel_e {a row : Nat} : zcel (nI a) (nI a) row = -1 := if_neg (fun h => h.2.2 rfl)
theorem zdw_v {x : zX} {f : Nat → Int32} {d qa qb : Nat} (hA : f (2 * d) = nI qa) (hB : f (2 * d + 1) = nI qb) (ha : qa < 8) (hb : qb < 8) : zdw x f d = (zwa x qa qb (d / 2) + zwa x qb qa (d / 2)) - (zocc (f (2 * (d ^^^ 1))) + zocc (f (2 * (d ^^^ 1) + 1))) * (x.1 14 qa + x.1 14 qb) := by
  unfold zdw
  rw [hA, hB, if_neg (fun h => h.elim (nI_pos (by omega)) (nI_pos (by omega))), nI_clamp (by omega), nI_clamp (by omega)]
theorem zdw_0 {x : zX} {f : Nat → Int32} {d : Nat} (h : f (2 * d) = -1 ∨ f (2 * d + 1) = -1) : zdw x f d = 0 := by
  unfold zdw
  rcases h with h | h
  · rw [h]; exact if_pos (Or.inl (by decide))
  · rw [h]; exact if_pos (Or.inr (by decide))
theorem zwor_t {x : zX} {f : Nat → Int32} {d qa qb : Nat} {a : Int32} (h : a = zsum (zdw x f) d) (hA : f (2 * d) = nI qa) (hB : f (2 * d + 1) = nI qb) (ha : qa < 8) (hb : qb < 8) : (a + (zwa x qa qb (d / 2) + zwa x qb qa (d / 2))) - (zocc (f (2 * (d ^^^ 1))) + zocc (f (2 * (d ^^^ 1) + 1))) * (x.1 14 qa + x.1 14 qb) = zsum (zdw x f) (d + 1) := by
  rw [z_asub]
  exact zsum_t h (zdw_v hA hB ha hb)
theorem zwa_e {x : zX} {a row : Nat} : zwa x a a row = nI 0 := if_pos rfl
theorem zwa_n {x : zX} {a b row : Nat} (h : ¬ a = b) : zwa x a b row = x.1 12 ((row * 8 + a) * 8 + b) := if_neg h
/-- what a search leaves alone -/
def zOnly (x u : zX) : Prop := u.2 = x.2 ∧ ∀ i, i ≠ 11 → i ≠ 16 → u.1 i = x.1 i
theorem zOnly.r {x : zX} : zOnly x x := ⟨rfl, fun _ _ _ => rfl⟩
theorem zOnly.t {x u v : zX} (h : zOnly x u) (g : zOnly u v) : zOnly x v := ⟨g.1.trans h.1, fun i h1 h2 => (g.2 i h1 h2).trans (h.2 i h1 h2)⟩
theorem zkeep_o {x : zX} {b w : Int32} : zOnly x (zkeep x b w) := by
  refine ⟨rfl, fun i h1 h2 => ?_⟩
  unfold zkeep
  rw [zsrI_n h2, zsI_n h1, zsI_n h1, zsI_n h1]
theorem zweigh_o {x : zX} {aim : Int32} : zOnly x (zweigh x aim) := by
  unfold zweigh
  by_cases h : zworse x aim
  · rw [if_pos h]; exact zOnly.r
  · rw [if_neg h]; exact zkeep_o
theorem upd_back {f : Nat → Int32} {t : Nat} {v w : Int32} (h : f t = w) : upd (upd f t v) t w = f := by
  funext k
  show (if k = t then w else if k = t then v else f k) = f k
  by_cases hk : k = t
  · rw [if_pos hk, hk]; exact h.symm
  · rw [if_neg hk, if_neg hk]
/-- a seat taken and left again: the rest of the row as it was -/
theorem zplc_st {y v : zX} {t : Nat} {q : Int32} (ht : y.1 15 t = -1) (h : zOnly (zsI y 15 t q) v) : zOnly y (zsI v 15 t (-1)) := by
  refine ⟨h.1, fun i h1 h2 => ?_⟩
  by_cases hi : i = 15
  · subst hi
    rw [zsI_u, h.2 15 (by decide) (by decide), zsI_u]
    exact upd_back ht
  · rw [zsI_n hi, h.2 i h1 h2, zsI_n hi]
theorem zplc_o (aim : Int32) : ∀ (d q : Nat) (x : zX), zOnly x (zplc aim d q x)
  | 0, _, x => by rw [zplc]; exact zweigh_o
  | d + 1, q, x => by
    rw [zplc]
    have hl : ∀ n, zOnly x (zplc.zfold8 (fun t y => if zunl (y.1 15) t then zsI (zplc aim d (q + 1) (zsI y 15 t (nI q))) 15 t (-1) else y) n x) := by
      intro n
      induction n with
      | zero => exact zOnly.r
      | succ n ih =>
        refine ih.t ?_
        show zOnly _ (if zunl _ n then _ else _)
        split
        · next h => exact zplc_st h.1 (zplc_o aim d (q + 1) _)
        · exact zOnly.r
    exact hl 8
theorem z_sub1 {t : Nat} (h : 1 ≤ t) : nI t - nI 1 = nI (t - 1) := by
  have h2 := nI_add (t - 1) 1
  rw [show t - 1 + 1 = t by omega] at h2
  rw [← h2]
  exact Int32.add_sub_cancel _ _
theorem zsum_t2 {f : Nat → Int32} {i : Nat} {a b v : Int32} (h : a = b + zsum f i) (hf : f i = v) : a + v = b + zsum f (i + 1) := by rw [zsum, hf, h, Int32.add_assoc]
theorem zsum_f2 {f : Nat → Int32} {i : Nat} {a b : Int32} (h : a = b + zsum f i) (hf : f i = 0) : a = b + zsum f (i + 1) := by rw [zsum, hf, h, Int32.add_zero]
