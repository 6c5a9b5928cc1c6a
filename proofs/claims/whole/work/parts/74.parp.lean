/-! READING A TEXT, in the class: what each taker answers, where it stops, which codes it has put down -/
theorem Met_mono {l : Launch} {y : MethodName} {ws : List Cond} {rm : Room} {Pc : Array Value → State → Prop} {Qc Qd : Array Value → State → Outcome → State → Prop} {mc ms : Nat} {free : Addr → Prop} (h : Met l y ws rm Pc Qc mc ms free) (hq : ∀ a s o t, Qc a s o t → Qd a s o t) : Met l y ws rm Pc Qd mc ms free := by
  intro p e h1 h2 h3 s m args below a1 a2 a3 a4
  obtain ⟨n, o, b1, b2, b3, b4, b5⟩ := h p e h1 h2 h3 s m args below a1 a2 a3 a4
  exact ⟨n, o, b1, b2, b3, hq _ _ _ _ b4, b5⟩
theorem zMi_mono {l : Launch} {y : MethodName} {ws : List Cond} {rm : Room} {G : zG} {av : List Value} {x : zX} {post post' : Int32 → zX → Prop} (h : zMi l y ws rm G av x post) (hq : ∀ r u, post r u → post' r u) : zMi l y ws rm G av x post' := fun A => Met_mono (h A) (fun _ _ _ _ ⟨⟨v, u, a1, a2, a3⟩, a4⟩ => ⟨⟨v, u, a1, hq v u a2, a3⟩, a4⟩)
theorem zMiS_mono {l : Launch} {y : MethodName} {ws : List Cond} {rm : Room} {G : zG} {aK aV : Nat → Nat} {av : List Value} {x : zX} {post post' : Int32 → zX → Prop} (h : zMiS l y ws rm G aK aV av x post) (hq : ∀ r u, post r u → post' r u) : zMiS l y ws rm G aK aV av x post' := fun A => Met_mono (h A) (fun _ _ _ _ ⟨⟨v, u, a1, a2, a3⟩, a4⟩ => ⟨⟨v, u, a1, hq v u a2, a3⟩, a4⟩)
theorem zMv_mono {l : Launch} {y : MethodName} {ws : List Cond} {rm : Room} {G : zG} {av : List Value} {x : zX} {post post' : zX → Prop} (h : zMv l y ws rm G av x post) (hq : ∀ u, post u → post' u) : zMv l y ws rm G av x post' := fun A => Met_mono (h A) (fun _ _ _ _ ⟨⟨u, a1, a2, a3⟩, a4⟩ => ⟨⟨u, a1, hq u a2, a3⟩, a4⟩)
/-- a room that has read up to p and put the codes cs down -/
def zpz (x : zX) (b p : Nat) (cs : List Int32) : zX := zsrI (zsI (zsI x b 9 (nI p)) b 5 (nI cs.length)) (b + 4) (fun j => if j < cs.length then cs.getD j 0 else x.1 (b + 4) j)
theorem zX_ext {x y : zX} (h : ∀ i k, x.1 i k = y.1 i k) (h2 : x.2 = y.2) : x = y := Prod.ext (funext fun i => funext fun k => h i k) h2
theorem zpz_b {x : zX} {b p : Nat} {cs : List Int32} : (zpz x b p cs).1 b = upd (upd (x.1 b) 9 (nI p)) 5 (nI cs.length) := by
  unfold zpz
  rw [zsrI_n (by omega), zsI_u, zsI_u]
theorem zpz_c {x : zX} {b p : Nat} {cs : List Int32} : (zpz x b p cs).1 (b + 4) = fun j => if j < cs.length then cs.getD j 0 else x.1 (b + 4) j := zsrI_u
theorem zpz_n {x : zX} {b p i : Nat} {cs : List Int32} (h1 : i ≠ b) (h2 : i ≠ b + 4) : (zpz x b p cs).1 i = x.1 i := by
  unfold zpz
  rw [zsrI_n h2, zsI_n h1, zsI_n h1]
theorem zpz_at {x : zX} {b p : Nat} {cs : List Int32} : (zpz x b p cs).1 b 9 = nI p := by rw [zpz_b]; rfl
theorem zpz_cc {x : zX} {b p : Nat} {cs : List Int32} : (zpz x b p cs).1 b 5 = nI cs.length := by rw [zpz_b]; rfl
theorem zpz_k {x : zX} {b p k : Nat} {cs : List Int32} (h1 : k ≠ 9) (h2 : k ≠ 5) : (zpz x b p cs).1 b k = x.1 b k := by
  rw [zpz_b]
  show (if k = 5 then _ else if k = 9 then _ else x.1 b k) = _
  rw [if_neg h2, if_neg h1]
theorem zpz_by {x : zX} {b L p : Nat} {cs : List Int32} (k : Nat) : zby (zpz x b p cs) b L k = zby x b L k := by
  unfold zby
  rw [zpz_n (by omega) (by omega)]
theorem zpz_9 {x : zX} {b p q : Nat} {cs : List Int32} : zsI (zpz x b p cs) b 9 (nI q) = zpz x b q cs := by
  refine zX_ext (fun i k => ?_) rfl
  by_cases hi : i = b
  · subst hi
    rw [zsI_u, zpz_b, zpz_b]
    show (if k = 9 then _ else if k = 5 then _ else if k = 9 then _ else _) = (if k = 5 then _ else if k = 9 then _ else _)
    by_cases h9 : k = 9
    · subst h9; rfl
    · rw [if_neg h9, if_neg h9, if_neg h9]
  · rw [zsI_n hi]
    by_cases h4 : i = b + 4
    · subst h4
      rw [zpz_c, zpz_c]
    · rw [zpz_n hi h4, zpz_n hi h4]
theorem zapp_l {cs : List Int32} {v : Int32} : (cs ++ [v]).getD cs.length 0 = v := by
  rw [List.getD_eq_getElem?_getD, List.getElem?_append_right (Nat.le_refl _), Nat.sub_self]
  rfl
theorem zapp_f {cs : List Int32} {v : Int32} {k : Nat} (h : k < cs.length) : (cs ++ [v]).getD k 0 = cs.getD k 0 := by
  rw [List.getD_eq_getElem?_getD, List.getD_eq_getElem?_getD, List.getElem?_append_left h]
theorem zpz_put {x : zX} {b p : Nat} {v : Int32} {cs : List Int32} : zps (zpz x b p cs) b cs.length v = zpz x b p (cs ++ [v]) := by
  unfold zps
  refine zX_ext (fun i k => ?_) rfl
  by_cases hi : i = b
  · subst hi
    rw [zsI_u, zsI_n (by omega), zpz_b, zpz_b, List.length_append]
    show (if k = 5 then _ else if k = 5 then _ else if k = 9 then _ else _) = (if k = 5 then _ else if k = 9 then _ else _)
    by_cases h5 : k = 5
    · rw [if_pos h5, if_pos h5]; rfl
    · rw [if_neg h5, if_neg h5, if_neg h5]
  · rw [zsI_n hi]
    by_cases h4 : i = b + 4
    · subst h4
      rw [zsI_u, zpz_c, zpz_c]
      show (if k = cs.length then v else if k < cs.length then cs.getD k 0 else _) = (if k < (cs ++ [v]).length then (cs ++ [v]).getD k 0 else _)
      rw [List.length_append]
      by_cases h : k = cs.length
      · rw [if_pos h, if_pos (by rw [h]; exact Nat.lt_succ_self _), h, zapp_l]
      · rw [if_neg h]
        by_cases h2 : k < cs.length
        · rw [if_pos h2, if_pos (show k < cs.length + [v].length from Nat.lt_succ_of_lt h2), zapp_f h2]
        · rw [if_neg h2, if_neg (by show ¬ k < cs.length + 1; omega)]
    · rw [zsI_n h4, zpz_n hi h4, zpz_n hi h4]
theorem zpz_e {x : zX} {b p : Nat} (h1 : x.1 b 9 = nI p) (h2 : x.1 b 5 = nI 0) : zpz x b p [] = x := by
  refine zX_ext (fun i k => ?_) rfl
  by_cases hi : i = b
  · subst hi
    rw [zpz_b]
    show (if k = 5 then nI 0 else if k = 9 then nI p else _) = _
    by_cases h5 : k = 5
    · rw [if_pos h5, h5, h2]
    · rw [if_neg h5]
      by_cases h9 : k = 9
      · rw [if_pos h9, h9, h1]
      · rw [if_neg h9]
  · by_cases h4 : i = b + 4
    · subst h4
      rw [zpz_c]
      exact if_neg (by show ¬ k < 0; omega)
    · rw [zpz_n hi h4]
abbrev zPR : Type := Bool × Nat × List Int32
/-- one sign taken -/
def ztke (T : Nat → Int32) (sg : Int32) (p : Nat) (cs : List Int32) : zPR := if T p = sg then (true, p + 1, cs) else (false, p, cs)
/-- a code put down -/
def zpt (v : Int32) (p : Nat) (cs : List Int32) : zPR := if cs.length < 100 then (true, p, cs ++ [v]) else (false, p, cs)
/-- and then -/
def zth (q : zPR) (k : Nat → List Int32 → zPR) : zPR := if q.1 = true then k q.2.1 q.2.2 else q
/-- which sign of a text -/
def zone (i : Nat) (v : Int32) : Int32 := if v < 0 then -1 else zfind (fun k => (zSbyt.getD i []).getD k 0) v 0 (zSlen.getD i 0)
abbrev zdg (v : Int32) : Prop := ¬ (v - nI 48) < 0 ∧ ¬ nI 9 < (v - nI 48)
/-- a number, and where it ends; -1: none -/
def znum (T : Nat → Int32) (p : Nat) : Int32 × Nat := if zdg (T p) then (if zdg (T (p + 1)) then (nI 10 * (T p - nI 48) + (T (p + 1) - nI 48), p + 2) else (T p - nI 48, p + 1)) else (-1, p)
/-- a test -/
def zts (T : Nat → Int32) (p : Nat) (cs : List Int32) : zPR := if zone 4 (T p) < 0 then (false, p, cs) else if zone 5 (T (p + 1)) < 0 then (false, p + 1, cs) else if (znum T (p + 2)).1 < 0 then (false, p + 2, cs) else zpt (((zone 4 (T p) * nI 3) + zone 5 (T (p + 1))) * nI 100 + (znum T (p + 2)).1) (znum T (p + 2)).2 cs
/-- parts with a sign between, each put down as a code -/
def zLp (part : Nat → List Int32 → zPR) (T : Nat → Int32) (sg v : Int32) : Nat → zPR → zPR
  | 0, r => r
  | n + 1, r => if r.1 = true ∧ (ztke T sg r.2.1 r.2.2).1 = true then zLp part T sg v n (zth (part (ztke T sg r.2.1 r.2.2).2.1 (ztke T sg r.2.1 r.2.2).2.2) (zpt v)) else r
def zEa (part : Nat → List Int32 → zPR) (T : Nat → Int32) (p : Nat) (cs : List Int32) : zPR := zLp part T (nI 38) (-2) 100 (part p cs)
def zEi (part : Nat → List Int32 → zPR) (T : Nat → Int32) (p : Nat) (cs : List Int32) : zPR := zLp (zEa part T) T (nI 124) (-3) 100 (zEa part T p cs)
def zNt (part : Nat → List Int32 → zPR) (p : Nat) (cs : List Int32) : zPR := zth (part p cs) (zpt (-1))
def zPa (T : Nat → Int32) : Nat → Nat → List Int32 → zPR
  | 0, p, cs => zts T p cs
  | e + 1, p, cs => if (ztke T (nI 33) p cs).1 = true then zNt (zPa T e) (ztke T (nI 33) p cs).2.1 (ztke T (nI 33) p cs).2.2 else if (ztke T (nI 40) p cs).1 = true then zth (zEi (zPa T e) T (ztke T (nI 40) p cs).2.1 (ztke T (nI 40) p cs).2.2) (ztke T (nI 41)) else zts T p cs
/-- the answer of a taker -/
abbrev zr3 (x : zX) (b : Nat) (R : zPR) (r : Int32) (u : zX) : Prop := zpz x b R.2.1 R.2.2 = u ∧ (if R.1 = true then nI 1 else nI 0) = r
def zTe (T : Nat → Int32) (L : Nat) : Prop := ∀ k, L ≤ k → T k = -1
theorem zby_e {x : zX} {b L : Nat} : zTe (zby x b L) L := fun _ h => if_neg (Nat.not_lt.mpr h)
/-- bytes are signs 0 .. 127 -/
def zTx (x : zX) (b : Nat) : Prop := ∀ k, k < 100 → ∃ q, q < 128 ∧ x.1 (b + 5) k = nI q
theorem zTx_z {x : zX} {b p : Nat} {cs : List Int32} (h : zTx x b) : zTx (zpz x b p cs) b := by
  intro k hk
  rw [zpz_n (by omega) (by omega)]
  exact h k hk
theorem zby_q {x : zX} {b L k : Nat} (h : zTx x b) (hL : L ≤ 100) (h0 : 0 ≤ zby x b L k) : ∃ q, q < 128 ∧ zby x b L k = nI q := by
  unfold zby at h0 ⊢
  by_cases hk : k < L
  · rw [if_pos hk]
    exact h k (by omega)
  · rw [if_neg hk] at h0
    exact absurd h0 (by decide)
def zIn (L : Nat) (r : zPR) : Prop := r.2.1 ≤ L ∧ r.2.2.length ≤ 100
theorem ztke_in {T : Nat → Int32} {L p : Nat} {sg : Int32} {cs : List Int32} (hT : zTe T L) (hs : ¬ sg = -1) (h1 : p ≤ L) (h2 : cs.length ≤ 100) : zIn L (ztke T sg p cs) := by
  unfold ztke
  by_cases h : T p = sg
  · rw [if_pos h]
    refine ⟨?_, h2⟩
    show p + 1 ≤ L
    by_cases hp : p < L
    · omega
    · rw [hT p (by omega)] at h; exact absurd h.symm hs
  · rw [if_neg h]; exact ⟨h1, h2⟩
theorem zpt_in {L p : Nat} {v : Int32} {cs : List Int32} (h1 : p ≤ L) (h2 : cs.length ≤ 100) : zIn L (zpt v p cs) := by
  unfold zpt
  by_cases h : cs.length < 100
  · rw [if_pos h]; exact ⟨h1, by show (cs ++ [v]).length ≤ 100; rw [List.length_append]; exact h⟩
  · rw [if_neg h]; exact ⟨h1, h2⟩
theorem zth_in {L : Nat} {q : zPR} {k : Nat → List Int32 → zPR} (hq : zIn L q) (hk : zIn L q → zIn L (k q.2.1 q.2.2)) : zIn L (zth q k) := by
  unfold zth
  by_cases h : q.1 = true
  · rw [if_pos h]; exact hk hq
  · rw [if_neg h]; exact hq
theorem zone_n {i : Nat} {T : Nat → Int32} {L p : Nat} (hT : zTe T L) (h : ¬ zone i (T p) < 0) : p < L := by
  by_cases hp : p < L
  · exact hp
  · refine absurd ?_ h
    rw [hT p (by omega), show zone i (-1) = -1 from if_pos (by decide)]
    decide
theorem zdg_n {T : Nat → Int32} {L p : Nat} (hT : zTe T L) (h : zdg (T p)) : p < L := by
  by_cases hp : p < L
  · exact hp
  · rw [hT p (by omega)] at h
    exact absurd h (by decide)
theorem zdg_k {v : Int32} (h : zdg v) : ∃ k, k < 10 ∧ v - nI 48 = nI k := by
  obtain ⟨h1, h2⟩ := h
  exact z_ix (n := 10) h1 (fun q => h2 (by
    rw [Int32.le_iff_toInt_le, nI_toInt (by omega)] at q
    rw [Int32.lt_iff_toInt_lt, nI_toInt (by omega)]
    omega)) (by decide)
theorem znum_2 {a b : Nat} (ha : a < 10) (hb : b < 10) : nI 10 * nI a + nI b = nI (10 * a + b) := by
  rw [pk_mul, nI_add]
theorem znum_in {T : Nat → Int32} {L p : Nat} (hT : zTe T L) (h1 : p ≤ L) : (znum T p).2 ≤ L := by
  unfold znum
  by_cases h : zdg (T p)
  · rw [if_pos h]
    by_cases h2 : zdg (T (p + 1))
    · rw [if_pos h2]; exact zdg_n hT h2
    · rw [if_neg h2]; exact zdg_n hT h
  · rw [if_neg h]; exact h1
theorem znum_n {T : Nat → Int32} {p : Nat} (h : (znum T p).1 < 0) : (znum T p).2 = p := by
  unfold znum at h ⊢
  by_cases h1 : zdg (T p)
  · rw [if_pos h1] at h
    obtain ⟨a, ha, ea⟩ := zdg_k h1
    by_cases h2 : zdg (T (p + 1))
    · obtain ⟨b, hb, eb⟩ := zdg_k h2
      rw [if_pos h2, ea, eb, znum_2 ha hb] at h
      exact absurd h (nI_pos (by omega))
    · rw [if_neg h2, ea] at h
      exact absurd h (nI_pos (by omega))
  · rw [if_neg h1]
theorem zts_in {T : Nat → Int32} {L p : Nat} {cs : List Int32} (hT : zTe T L) (h1 : p ≤ L) (h2 : cs.length ≤ 100) : zIn L (zts T p cs) := by
  unfold zts
  by_cases c1 : zone 4 (T p) < 0
  · rw [if_pos c1]; exact ⟨h1, h2⟩
  · have d1 := zone_n hT c1
    rw [if_neg c1]
    by_cases c2 : zone 5 (T (p + 1)) < 0
    · rw [if_pos c2]; exact ⟨d1, h2⟩
    · have d2 := zone_n hT c2
      rw [if_neg c2]
      by_cases c3 : (znum T (p + 2)).1 < 0
      · rw [if_pos c3]; exact ⟨d2, h2⟩
      · rw [if_neg c3]; exact zpt_in (znum_in hT d2) h2
theorem zLp_in {T : Nat → Int32} {L : Nat} {sg v : Int32} {part : Nat → List Int32 → zPR} (hT : zTe T L) (hs : ¬ sg = -1) (hp : ∀ p cs, p ≤ L → cs.length ≤ 100 → zIn L (part p cs)) : ∀ (n : Nat) (r : zPR), zIn L r → zIn L (zLp part T sg v n r)
  | 0, _, h => h
  | n + 1, r, h => by
    rw [zLp]
    split
    · have h2 := ztke_in (sg := sg) hT hs h.1 h.2
      exact zLp_in hT hs hp n _ (zth_in (hp _ _ h2.1 h2.2) (fun h3 => zpt_in h3.1 h3.2))
    · exact h
theorem zEa_in {T : Nat → Int32} {L : Nat} {part : Nat → List Int32 → zPR} (hT : zTe T L) (hp : ∀ p cs, p ≤ L → cs.length ≤ 100 → zIn L (part p cs)) (p : Nat) (cs : List Int32) (h1 : p ≤ L) (h2 : cs.length ≤ 100) : zIn L (zEa part T p cs) := zLp_in hT (by decide) hp _ _ (hp _ _ h1 h2)
theorem zEi_in {T : Nat → Int32} {L : Nat} {part : Nat → List Int32 → zPR} (hT : zTe T L) (hp : ∀ p cs, p ≤ L → cs.length ≤ 100 → zIn L (part p cs)) (p : Nat) (cs : List Int32) (h1 : p ≤ L) (h2 : cs.length ≤ 100) : zIn L (zEi part T p cs) := zLp_in hT (by decide) (zEa_in hT hp) _ _ (zEa_in hT hp _ _ h1 h2)
theorem zNt_in {L : Nat} {part : Nat → List Int32 → zPR} (hp : ∀ p cs, p ≤ L → cs.length ≤ 100 → zIn L (part p cs)) (p : Nat) (cs : List Int32) (h1 : p ≤ L) (h2 : cs.length ≤ 100) : zIn L (zNt part p cs) := zth_in (hp _ _ h1 h2) (fun h3 => zpt_in h3.1 h3.2)
theorem zPa_in {T : Nat → Int32} {L : Nat} (hT : zTe T L) : ∀ (e p : Nat) (cs : List Int32), p ≤ L → cs.length ≤ 100 → zIn L (zPa T e p cs)
  | 0, _, _, h1, h2 => zts_in hT h1 h2
  | e + 1, p, cs, h1, h2 => by
    rw [zPa]
    split
    · have h3 := ztke_in (sg := nI 33) hT (by decide) h1 h2
      exact zNt_in (fun p cs => zPa_in hT e p cs) _ _ h3.1 h3.2
    · split
      · have h3 := ztke_in (sg := nI 40) hT (by decide) h1 h2
        exact zth_in (zEi_in hT (fun p cs => zPa_in hT e p cs) _ _ h3.1 h3.2) (fun h4 => ztke_in hT (by decide) h4.1 h4.2)
      · exact zts_in hT h1 h2
/-- how many signs of a text come, one behind another -/
def zwm (T : Nat → Int32) (i p : Nat) : Nat → Nat
  | 0 => 0
  | n + 1 => if zwm T i p n = n ∧ T (p + n) = (zSbyt.getD i []).getD n 0 then n + 1 else zwm T i p n
theorem zwm_s {T : Nat → Int32} {i p k : Nat} (h : zwm T i p k = k) (h2 : T (p + k) = (zSbyt.getD i []).getD k 0) : zwm T i p (k + 1) = k + 1 := if_pos ⟨h, h2⟩
theorem zwm_x {T : Nat → Int32} {i p k : Nat} (h : zwm T i p k = k) (h2 : ¬ T (p + k) = (zSbyt.getD i []).getD k 0) : ∀ n, zwm T i p (k + 1 + n) = k
  | 0 => by
    rw [Nat.add_zero, zwm, if_neg (fun q => h2 q.2)]
    exact h
  | n + 1 => by
    rw [show k + 1 + (n + 1) = (k + 1 + n) + 1 by omega, zwm, zwm_x h h2 n, if_neg (by omega)]
/-- a word taken -/
def zwd (T : Nat → Int32) (i p : Nat) (cs : List Int32) : zPR := (decide (zwm T i p (zSlen.getD i 0) = zSlen.getD i 0), p + zwm T i p (zSlen.getD i 0), cs)
theorem zwm_le {T : Nat → Int32} {i p : Nat} : ∀ n, zwm T i p n ≤ n
  | 0 => Nat.le_refl _
  | n + 1 => by
    rw [zwm]
    split
    · exact Nat.le_refl _
    · exact Nat.le_succ_of_le (zwm_le n)
theorem zsb_ne : ∀ i : Fin 6, ∀ k : Fin 7, ¬ (zSbyt.getD i.val []).getD k.val 0 = -1 := by decide +kernel
theorem zwm_in {T : Nat → Int32} {L i p : Nat} (hT : zTe T L) (hi : i < 6) (hp : p ≤ L) : ∀ n, n ≤ 7 → p + zwm T i p n ≤ L
  | 0, _ => hp
  | n + 1, hn => by
    rw [zwm]
    split
    · next h =>
      by_cases hq : p + n < L
      · omega
      · refine absurd (h.2.symm.trans (hT (p + n) (by omega))) (zsb_ne ⟨i, hi⟩ ⟨n, by omega⟩)
    · exact zwm_in hT hi hp n (by omega)
theorem zwd_in {T : Nat → Int32} {L i p : Nat} {cs : List Int32} (hT : zTe T L) (hi : i < 6) (h1 : p ≤ L) (h2 : cs.length ≤ 100) : zIn L (zwd T i p cs) := ⟨zwm_in hT hi h1 _ (zsl_lt hi), h2⟩
/-- which word a clause begins with -/
def zwa2 (T : Nat → Int32) (p : Nat) : Int32 := if T p = nI 98 then nI 2 else if T p = nI 104 then nI 3 else if T p = nI 108 then (if T (p + 1) = nI 111 then nI 1 else nI 0) else -1
def zsp (w : Int32) : Nat := if w = nI 0 then 0 else if w = nI 1 then 1 else if w = nI 2 then 2 else 3
theorem zsp_6 (w : Int32) : zsp w < 6 := by
  unfold zsp
  split
  · decide
  · split
    · decide
    · split <;> decide
theorem c_X5_takesZ (l : Launch) {G : zG} (hG : zOK G) (x : zX) (b L p : Nat) (cs : List Int32) (sg : Int32) (hb0 : zRm b) (hL : x.1 b 8 = nI L) (hL9 : L ≤ 100) (hp : p ≤ L) : zMi l yX5_takes wsX5_takes { frames := 1, cells := 0, slots := 0, locals := 21 } G [.ref (za G b), .int sg] (zpz x b p cs) (fun r u => zr3 x b (ztke (zby x b L) sg p cs) r u) :=
  zMi_mono (c_X5_takes l hG (zpz x b p cs) b L p sg hb0 (by rw [zpz_k (by decide) (by decide)]; exact hL) hL9 zpz_at (by omega)) (fun r u h => by
    rw [zpz_by] at h
    unfold zr3 ztke
    rcases h with ⟨h1, rfl, rfl⟩ | ⟨h1, rfl, rfl⟩
    · rw [if_pos h1]; exact ⟨zpz_9.symm, rfl⟩
    · rw [if_neg h1]; exact ⟨rfl, rfl⟩)
theorem c_X5_putsZ (l : Launch) {G : zG} (hG : zOK G) (x : zX) (b L p : Nat) (cs : List Int32) (v : Int32) (hb0 : zRm b) (hcs : cs.length ≤ 100) : zMi l yX5_puts wsX5_puts { frames := 0, cells := 0, slots := 0, locals := 0 } G [.ref (za G b), .int v] (zpz x b p cs) (fun r u => zr3 x b (zpt v p cs) r u) :=
  zMi_mono (c_X5_puts l hG (zpz x b p cs) b cs.length v hb0 hcs zpz_cc) (fun r u h => by
    unfold zr3 zpt
    rcases h with ⟨h1, rfl, rfl⟩ | ⟨h1, rfl, rfl⟩
    · rw [if_neg h1]; exact ⟨rfl, rfl⟩
    · rw [if_pos h1]; exact ⟨zpz_put.symm, rfl⟩)
theorem c_X5_takeNumberZ (l : Launch) {G : zG} (hG : zOK G) (x : zX) (b L p : Nat) (cs : List Int32) (hb0 : zRm b) (hL : x.1 b 8 = nI L) (hL9 : L ≤ 100) (hp : p ≤ L) : zMi l yX5_takeNumber wsX5_takeNumber { frames := 1, cells := 0, slots := 0, locals := 21 } G [.ref (za G b)] (zpz x b p cs) (fun r u => zpz x b (znum (zby x b L) p).2 cs = u ∧ (znum (zby x b L) p).1 = r) :=
  zMi_mono (c_X5_takeNumber l hG (zpz x b p cs) b L p hb0 (by rw [zpz_k (by decide) (by decide)]; exact hL) hL9 zpz_at (by omega)) (fun r u h => by
    rw [zpz_by, zpz_by, zpz_9, zpz_9] at h
    unfold znum
    rcases h with ⟨h1, rfl, rfl⟩ | ⟨h1, h2, rfl, rfl⟩ | ⟨h1, h2, rfl, rfl⟩
    · rw [if_neg h1]; exact ⟨rfl, rfl⟩
    · rw [if_pos h1, if_neg h2]; exact ⟨rfl, rfl⟩
    · rw [if_pos h1, if_pos h2]; exact ⟨rfl, rfl⟩)
theorem c_X5_wordAheadZ (l : Launch) {G : zG} (hG : zOK G) (x : zX) (b L p : Nat) (cs : List Int32) (hb0 : zRm b) (hL : x.1 b 8 = nI L) (hL9 : L ≤ 100) (hp : p ≤ L) : zMi l yX5_wordAhead wsX5_wordAhead { frames := 1, cells := 0, slots := 0, locals := 21 } G [.ref (za G b)] (zpz x b p cs) (fun r u => zpz x b p cs = u ∧ zwa2 (zby x b L) p = r) :=
  zMi_mono (c_X5_wordAhead l hG (zpz x b p cs) b L p hb0 (by rw [zpz_k (by decide) (by decide)]; exact hL) hL9 zpz_at (by omega)) (fun r u h => by
    rw [zpz_by, zpz_by] at h
    exact h)
theorem ztke_c {T : Nat → Int32} {sg : Int32} {p : Nat} {cs : List Int32} (h : (ztke T sg p cs).1 = true) : T p = sg := by
  unfold ztke at h
  by_cases h2 : T p = sg
  · exact h2
  · rw [if_neg h2] at h; exact absurd h Bool.false_ne_true
theorem ztke_d {T : Nat → Int32} {sg : Int32} {p : Nat} {cs : List Int32} (h : ¬ (ztke T sg p cs).1 = true) : ¬ T p = sg := fun h2 => h (by unfold ztke; rw [if_pos h2])
theorem ztke_p {T : Nat → Int32} {sg : Int32} {p : Nat} {cs : List Int32} (h : (ztke T sg p cs).1 = true) : ztke T sg p cs = (true, p + 1, cs) := if_pos (ztke_c h)
theorem ztke_f {T : Nat → Int32} {sg : Int32} {p : Nat} {cs : List Int32} (h : ¬ (ztke T sg p cs).1 = true) : ztke T sg p cs = (false, p, cs) := if_neg (ztke_d h)
theorem zi2c {q : Nat} (h : q < 128) : ((nI q).toUInt32 % 65536).toInt32 = nI q := by
  have hd : ∀ i : Fin 128, ((nI i.val).toUInt32 % 65536).toInt32 = nI i.val := by decide +kernel
  exact hd ⟨q, h⟩
theorem zLp_x {part : Nat → List Int32 → zPR} {T : Nat → Int32} {sg v : Int32} {r : zPR} (h : ¬ (r.1 = true ∧ (ztke T sg r.2.1 r.2.2).1 = true)) : ∀ n, zLp part T sg v n r = r
  | 0 => rfl
  | n + 1 => by rw [zLp, if_neg h]
/-- a clause: word and number, where it ends, the codes by then -/
abbrev zCR : Type := Option (Int32 × Int32) × Nat × List Int32
def zam (T : Nat → Int32) (w : Int32) (p : Nat) : Int32 × Nat := if w = nI 2 then (nI 1, p) else if T p = nI 32 then znum T (p + 1) else (-1, p)
def zcl2 (T : Nat → Int32) (w a : Int32) (p : Nat) (cs : List Int32) : zCR :=
  if w = nI 3 then (some (w, a), p, cs) else if (ztke T (nI 32) p cs).1 = true then (if (zEi (zPa T 4) T (ztke T (nI 32) p cs).2.1 (ztke T (nI 32) p cs).2.2).1 = true then (some (w, a), (zEi (zPa T 4) T (ztke T (nI 32) p cs).2.1 (ztke T (nI 32) p cs).2.2).2) else (none, (zEi (zPa T 4) T (ztke T (nI 32) p cs).2.1 (ztke T (nI 32) p cs).2.2).2)) else (none, p, cs)
def zcla (T : Nat → Int32) (p : Nat) (cs : List Int32) : zCR :=
  if zwa2 T p < 0 then (none, p, cs) else if (zwd T (zsp (zwa2 T p)) p cs).1 = true then (if (zam T (zwa2 T p) (zwd T (zsp (zwa2 T p)) p cs).2.1).1 < 0 then (none, (zam T (zwa2 T p) (zwd T (zsp (zwa2 T p)) p cs).2.1).2, cs) else zcl2 T (zwa2 T p) (zam T (zwa2 T p) (zwd T (zsp (zwa2 T p)) p cs).2.1).1 (zam T (zwa2 T p) (zwd T (zsp (zwa2 T p)) p cs).2.1).2 cs) else (none, (zwd T (zsp (zwa2 T p)) p cs).2)
/-- a room with that clause, if it is one -/
def zkq (x : zX) (b C : Nat) (q : zCR) : zX := match q.1 with | none => x | some wa => zke1 (zke0 x b wa.1 wa.2) b C q.2.2.length wa.1 wa.2
/-- all clauses, n more at most -/
def zrd (T : Nat → Int32) (L b : Nat) : Nat → Nat → zX → Nat → List Int32 → Int32 × zX
  | 0, _, y, p, cs => (nI p, zpz y b p cs)
  | n + 1, C, y, p, cs =>
    if (zcla T p cs).1.isSome = true then (if L ≤ (zcla T p cs).2.1 then (-1, zpz (zkq y b C (zcla T p cs)) b (zcla T p cs).2.1 (zcla T p cs).2.2) else if n = 0 then (nI (zcla T p cs).2.1, zpz (zkq y b C (zcla T p cs)) b (zcla T p cs).2.1 (zcla T p cs).2.2)
      else if (ztke T (nI 59) (zcla T p cs).2.1 (zcla T p cs).2.2).1 = true then zrd T L b n (C + 1) (zkq y b C (zcla T p cs)) (ztke T (nI 59) (zcla T p cs).2.1 (zcla T p cs).2.2).2.1 (ztke T (nI 59) (zcla T p cs).2.1 (zcla T p cs).2.2).2.2
      else (nI (zcla T p cs).2.1, zpz (zkq y b C (zcla T p cs)) b (zcla T p cs).2.1 (zcla T p cs).2.2)) else (nI (zcla T p cs).2.1, zpz (zkq y b C (zcla T p cs)) b (zcla T p cs).2.1 (zcla T p cs).2.2)
theorem zam_in {T : Nat → Int32} {L p : Nat} {w : Int32} (hT : zTe T L) (h : p ≤ L) : (zam T w p).2 ≤ L := by
  unfold zam
  split
  · exact h
  · split
    · next h2 =>
      refine znum_in hT ?_
      by_cases hp : p < L
      · exact hp
      · rw [hT p (by omega)] at h2; exact absurd h2 (by decide)
    · exact h
theorem zcl2_in {T : Nat → Int32} {L p : Nat} {w a : Int32} {cs : List Int32} (hT : zTe T L) (h1 : p ≤ L) (h2 : cs.length ≤ 100) : (zcl2 T w a p cs).2.1 ≤ L ∧ (zcl2 T w a p cs).2.2.length ≤ 100 := by
  unfold zcl2
  split
  · exact ⟨h1, h2⟩
  · split
    · have h3 := ztke_in (sg := nI 32) hT (by decide) h1 h2
      have h4 := zEi_in hT (fun p cs => zPa_in hT 4 p cs) _ _ h3.1 h3.2
      split
      · exact h4
      · exact h4
    · exact ⟨h1, h2⟩
theorem zcla_in {T : Nat → Int32} {L p : Nat} {cs : List Int32} (hT : zTe T L) (h1 : p ≤ L) (h2 : cs.length ≤ 100) : (zcla T p cs).2.1 ≤ L ∧ (zcla T p cs).2.2.length ≤ 100 := by
  unfold zcla
  split
  · exact ⟨h1, h2⟩
  · have h3 := zwd_in (cs := cs) hT (zsp_6 (zwa2 T p)) h1 h2
    split
    · split
      · exact ⟨zam_in hT h3.1, h2⟩
      · exact zcl2_in hT (zam_in hT h3.1) h2
    · exact h3
theorem zke_c {x : zX} {b C K p : Nat} {w a : Int32} {cs : List Int32} : zke1 (zke0 (zpz x b p cs) b w a) b C K w a = zpz (zke1 (zke0 x b w a) b C K w a) b p cs := by
  unfold zke1 zke0
  by_cases hw : w = nI 3
  · rw [if_pos hw, if_pos hw]
    refine zX_ext (fun i k => ?_) rfl
    simp only [zpz, zsI, zsrI, zup, upd]
    by_cases h0 : i = b
    · subst h0
      simp
      unfold upd
      by_cases k4 : k = 4
      · simp [k4]
      · by_cases k5 : k = 5
        · simp [k5]
        · by_cases k9 : k = 9
          · simp [k9]
          · simp [k4, k5, k9]
    · by_cases h1 : i = b + 1
      · subst h1; simp
      · by_cases h2 : i = b + 2
        · subst h2; simp
        · by_cases h3 : i = b + 3
          · subst h3; simp
          · by_cases h4 : i = b + 4
            · subst h4; simp
            · simp [h0, h1, h2, h3, h4]
  · rw [if_neg hw, if_neg hw]
    refine zX_ext (fun i k => ?_) rfl
    simp only [zpz, zsI, zsrI, zup, upd]
    by_cases h0 : i = b
    · subst h0
      simp
      unfold upd
      by_cases k4 : k = 4
      · simp [k4]
      · by_cases k5 : k = 5
        · simp [k5]
        · by_cases k9 : k = 9
          · simp [k9]
          · simp [k4, k5, k9]
    · by_cases h1 : i = b + 1
      · subst h1; simp
      · by_cases h2 : i = b + 2
        · subst h2; simp
        · by_cases h3 : i = b + 3
          · subst h3; simp
          · by_cases h4 : i = b + 4
            · subst h4; simp
            · simp [h0, h1, h2, h3, h4]
theorem c_X5_keepZ (l : Launch) {G : zG} (hG : zOK G) (x : zX) (b C p : Nat) (w a : Int32) (cs : List Int32) (hb0 : zRm b) (hC : x.1 b 4 = nI C) (hC9 : C < 10) (hcs : cs.length ≤ 100) : zMv l yX5_keep wsX5_keep { frames := 0, cells := 0, slots := 0, locals := 0 } G [.ref (za G b), .int w, .int a] (zpz x b p cs) (fun u => zpz (zke1 (zke0 x b w a) b C cs.length w a) b p cs = u) :=
  zMv_mono (c_X5_keep l hG (zpz x b p cs) b C cs.length w a hb0 (by rw [zpz_k (by decide) (by decide)]; exact hC) (by omega) zpz_cc hcs) (fun u h => by
    rw [if_pos hC9, zke_c] at h
    exact h)
/-- a room that begins to read the text -/
def zt0 (x : zX) (b F : Nat) : zX := zsI (zsI (zsI (zsI (zsrI (zsI x b 8 (nI F)) (b + 5) (va_cpy (x.1 9) (x.1 (b + 5)) 0 0 F)) b 9 (nI 0)) b 4 (nI 0)) b 5 (nI 0)) b 6 (nI 5)
theorem zt0_b {x : zX} {b F : Nat} : (zt0 x b F).1 b = upd (upd (upd (upd (upd (x.1 b) 8 (nI F)) 9 (nI 0)) 4 (nI 0)) 5 (nI 0)) 6 (nI 5) := by
  unfold zt0
  rw [zsI_u, zsI_u, zsI_u, zsI_u, zsrI_n (by omega), zsI_u]
theorem zt0_5 {x : zX} {b F : Nat} : (zt0 x b F).1 (b + 5) = va_cpy (x.1 9) (x.1 (b + 5)) 0 0 F := by
  unfold zt0
  rw [zsI_n (by omega), zsI_n (by omega), zsI_n (by omega), zsI_n (by omega), zsrI_u]
theorem zt0_n {x : zX} {b F i : Nat} (h1 : i ≠ b) (h2 : i ≠ b + 5) : (zt0 x b F).1 i = x.1 i := by
  unfold zt0
  rw [zsI_n h1, zsI_n h1, zsI_n h1, zsI_n h1, zsrI_n h2, zsI_n h1]
theorem zt0_x {x : zX} {b F : Nat} (hF : F ≤ 100) (h : zTx x b) (h9 : ∀ k, k < 100 → ∃ q, q < 128 ∧ x.1 9 k = nI q) : zTx (zt0 x b F) b := by
  intro k hk
  rw [zt0_5]
  unfold va_cpy
  split
  · next h2 =>
    rw [Nat.zero_add, Nat.sub_zero]
    exact h9 k hk
  · exact h k hk
theorem zt0_by {x : zX} {b F : Nat} : zby (zt0 x b F) b F = fun k => if k < F then x.1 9 k else -1 := by
  funext k
  unfold zby
  split
  · next h =>
    rw [zt0_5]
    unfold va_cpy
    rw [if_pos (by omega), Nat.zero_add, Nat.sub_zero]
  · rfl
theorem zke1_b {y : zX} {b C K : Nat} {w a : Int32} : (zke1 y b C K w a).1 b = upd (y.1 b) 4 (nI (C + 1)) := by
  unfold zke1
  rw [zsI_u, zsI_n (by omega), zsI_n (by omega), zsI_n (by omega)]
theorem zke0_n {y : zX} {b i : Nat} {w a : Int32} (h : i ≠ b) : (zke0 y b w a).1 i = y.1 i := by
  unfold zke0
  split
  · exact zsI_n h
  · rfl
theorem zke0_k {y : zX} {b k : Nat} {w a : Int32} (h : k ≠ 6) : (zke0 y b w a).1 b k = y.1 b k := by
  unfold zke0
  split
  · rw [zsI_u]; exact if_neg h
  · rfl
theorem zkq_k {y : zX} {b C k : Nat} {q : zCR} (h : k ≠ 4) (h6 : k ≠ 6) : (zkq y b C q).1 b k = y.1 b k := by
  unfold zkq
  split
  · rfl
  · rw [zke1_b]
    show (if k = 4 then _ else (zke0 y b _ _).1 b k) = _
    rw [if_neg h, zke0_k h6]
theorem zkq_4 {y : zX} {b C : Nat} {q : zCR} (h : q.1.isSome = true) : (zkq y b C q).1 b 4 = nI (C + 1) := by
  unfold zkq
  split
  · next h2 => rw [h2] at h; exact absurd h (by decide)
  · rw [zke1_b]; rfl
theorem zkq_n {y : zX} {b C i : Nat} {q : zCR} (h0 : i ≠ b) (h1 : i ≠ b + 1) (h2 : i ≠ b + 2) (h3 : i ≠ b + 3) : (zkq y b C q).1 i = y.1 i := by
  unfold zkq
  split
  · rfl
  · unfold zke1
    rw [zsI_n h0, zsI_n h3, zsI_n h2, zsI_n h1, zke0_n h0]
theorem zkq_by {y : zX} {b C L : Nat} {q : zCR} : zby (zkq y b C q) b L = zby y b L := by
  funext k
  unfold zby
  rw [zkq_n (by omega) (by omega) (by omega) (by omega)]
theorem zkq_x {y : zX} {b C : Nat} {q : zCR} (h : zTx y b) : zTx (zkq y b C q) b := by
  intro k hk
  rw [zkq_n (by omega) (by omega) (by omega) (by omega)]
  exact h k hk
theorem zfitb {q : Nat} (h : q < 128) : fits .byte (.int (nI q)) = true := by
  have hd : ∀ i : Fin 128, fits .byte (.int (nI i.val)) = true := by decide +kernel
  exact hd ⟨q, h⟩
