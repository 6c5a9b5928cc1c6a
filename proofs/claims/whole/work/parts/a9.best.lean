/-! THE REFERENCE'S SEARCH goes through all codes -/
/-- the row that d digits of a code make of f, the highest digit first -/
def zex : Nat → Nat → Nat → (Nat → Int32) → Option (Nat → Int32)
  | 0, _, _, f => some f
  | d + 1, q, c, f => if f (c / 8 ^ d) = -1 then zex d (q + 1) (c % 8 ^ d) (upd f (c / 8 ^ d) (nI q)) else none
def zev0 (V : (Nat → Int32) → Int32 × Int32) (o : Option (Nat → Int32)) : zB3 := o.map (fun f => ((V f).1, (V f).2, f))
theorem zM_x {V : (Nat → Int32) → Int32 × Int32} : ∀ (d q : Nat) (f : Nat → Int32), zM V d q f = zfl (fun c => zev0 V (zex d q c f)) (8 ^ d)
  | 0, q, f => (zcmb_0 _).symm
  | d + 1, q, f => by
    have hp : 0 < 8 ^ d := Nat.pow_pos (by decide)
    rw [Nat.pow_succ, Nat.mul_comm, zfl_m, zM]
    refine zfl_c (fun t ht => ?_)
    have e : ∀ j, j < 8 ^ d → zex (d + 1) q (t * 8 ^ d + j) f = if f t = -1 then zex d (q + 1) j (upd f t (nI q)) else none := fun j hj => by
      have e1 : (t * 8 ^ d + j) / 8 ^ d = t := by
        rw [Nat.mul_comm, Nat.mul_add_div hp, Nat.div_eq_of_lt hj, Nat.add_zero]
      have e2 : (t * 8 ^ d + j) % 8 ^ d = j := by
        rw [Nat.mul_comm, Nat.mul_add_mod, Nat.mod_eq_of_lt hj]
      rw [zex, e1, e2]
    by_cases c : f t = -1
    · rw [if_pos c, zM_x d (q + 1)]
      exact (zfl_c (fun j hj => by rw [e j hj, if_pos c])).symm
    · rw [if_neg c]
      rw [zfl_c (g := fun _ => none) (fun j hj => by rw [e j hj, if_neg c]; rfl)]
      have hn : ∀ n, zfl (fun _ => none) n = none := fun n => by
        induction n with
        | zero => rfl
        | succ n ih => rw [zfl, ih]; rfl
      exact (hn _).symm
/-- the reference's way: the lowest digit first, for the last pupil -/
def zlq : Nat → Nat → Nat → (Nat → Int32) → (Nat → Int32) × Bool
  | 0, _, _, f => (f, true)
  | d + 1, q, v, f => if f (v % 8) < 0 then zlq d q (v / 8) (upd f (v % 8) (nI (q + d))) else (f, false)
theorem zlr_q : ∀ (i v : Nat) (f : Nat → Int32), zlr i v f = zlq i 0 v f
  | 0, _, _ => rfl
  | i + 1, v, f => by
    rw [zlr, zlq, Nat.zero_add]
    by_cases c : f (v % 8) < 0
    · rw [if_pos c, if_pos c, zlr_q i]
    · rw [if_neg c, if_neg c]
theorem zlq_k : ∀ (d q v : Nat) (f : Nat → Int32) (t : Nat), q + d < 1000 → ¬ f t < 0 → ¬ (zlq d q v f).1 t < 0
  | 0, _, _, _, _, _, h => h
  | d + 1, q, v, f, t, hq, h => by
    rw [zlq]
    by_cases c : f (v % 8) < 0
    · rw [if_pos c]
      refine zlq_k d q _ _ t (by omega) ?_
      show ¬ (if t = v % 8 then nI (q + d) else f t) < 0
      by_cases e : t = v % 8
      · rw [if_pos e]
        exact nI_pos (by omega)
      · rw [if_neg e]
        exact h
    · rw [if_neg c]
      exact h
/-- the highest digit last -/
theorem zlq_h : ∀ (d q v : Nat) (f : Nat → Int32), v < 8 ^ (d + 1) → zlq (d + 1) q v f = if (zlq d (q + 1) (v % 8 ^ d) f).2 = true then (if (zlq d (q + 1) (v % 8 ^ d) f).1 (v / 8 ^ d) < 0 then (upd (zlq d (q + 1) (v % 8 ^ d) f).1 (v / 8 ^ d) (nI q), true) else ((zlq d (q + 1) (v % 8 ^ d) f).1, false)) else zlq d (q + 1) (v % 8 ^ d) f
  | 0, q, v, f, hv => by
    have h8 : v % 8 = v := Nat.mod_eq_of_lt (by simpa using hv)
    rw [zlq, zlq, zlq, h8, Nat.pow_zero, Nat.div_one, Nat.add_zero, if_pos rfl]
  | d + 1, q, v, f, hv => by
    have hp : 0 < 8 ^ d := Nat.pow_pos (by decide)
    have e1 : v / 8 / 8 ^ d = v / 8 ^ (d + 1) := by rw [Nat.div_div_eq_div_mul, Nat.pow_succ, Nat.mul_comm]
    have e2 : v % 8 ^ (d + 1) % 8 = v % 8 := by
      rw [Nat.pow_succ, Nat.mul_comm]
      exact Nat.mod_mul_right_mod _ _ _
    have e3 : v % 8 ^ (d + 1) / 8 = v / 8 % 8 ^ d := by
      rw [Nat.pow_succ, Nat.mul_comm, Nat.mod_mul_right_div_self]
    have hv2 : v / 8 < 8 ^ (d + 1) := by
      rw [Nat.pow_succ] at hv
      exact Nat.div_lt_of_lt_mul (by rw [Nat.mul_comm]; exact hv)
    have eR : zlq (d + 1) (q + 1) (v % 8 ^ (d + 1)) f = if f (v % 8) < 0 then zlq d (q + 1) (v / 8 % 8 ^ d) (upd f (v % 8) (nI (q + 1 + d))) else (f, false) := by
      rw [zlq, e2, e3]
    have eL : zlq (d + 1 + 1) q v f = if f (v % 8) < 0 then zlq (d + 1) q (v / 8) (upd f (v % 8) (nI (q + (d + 1)))) else (f, false) := by
      rw [zlq]
    rw [eL, eR]
    by_cases c : f (v % 8) < 0
    · rw [if_pos c, if_pos c, zlq_h d q (v / 8) _ hv2, e1, show q + 1 + d = q + (d + 1) by omega]
    · rw [if_neg c, if_neg c]
      rfl
theorem upd_sw {f : Nat → Int32} {s t : Nat} {a b : Int32} (h : ¬ s = t) : upd (upd f t a) s b = upd (upd f s b) t a := by
  funext k
  show (if k = s then b else if k = t then a else f k) = (if k = t then a else if k = s then b else f k)
  by_cases c : k = s
  · rw [if_pos c, if_neg (by omega), if_pos c]
  · rw [if_neg c]
    by_cases c2 : k = t
    · rw [if_pos c2, if_pos c2]
    · rw [if_neg c2, if_neg c2, if_neg c]
/-- a seat taken ahead, or behind -/
theorem zlq_w {t : Nat} {x : Int32} (hx : ¬ x < 0) : ∀ (d p w : Nat) (f : Nat → Int32), p + d < 1000 → f t < 0 → (((zlq d p w f).2 = true ∧ (zlq d p w f).1 t < 0) ↔ (zlq d p w (upd f t x)).2 = true) ∧ ((zlq d p w (upd f t x)).2 = true → (zlq d p w (upd f t x)).1 = upd (zlq d p w f).1 t x)
  | 0, p, w, f, _, hf => ⟨⟨fun _ => rfl, fun _ => ⟨rfl, hf⟩⟩, fun _ => rfl⟩
  | d + 1, p, w, f, h9, hf => by
    rw [zlq, zlq]
    have hu : upd f t x (w % 8) = if w % 8 = t then x else f (w % 8) := rfl
    by_cases e : w % 8 = t
    · have c1 : ¬ upd f t x (w % 8) < 0 := by rw [hu, if_pos e]; exact hx
      have c2 : f (w % 8) < 0 := by rw [e]; exact hf
      rw [if_neg c1, if_pos c2]
      have hk := zlq_k d p (w / 8) (upd f (w % 8) (nI (p + d))) t (by omega) (by
        show ¬ (if t = w % 8 then nI (p + d) else f t) < 0
        rw [if_pos e.symm]
        exact nI_pos (by omega))
      exact ⟨⟨fun z => absurd z.2 hk, fun z => absurd (show false = true from z) (by decide)⟩, fun z => absurd (show false = true from z) (by decide)⟩
    · rw [hu, if_neg e]
      by_cases c : f (w % 8) < 0
      · rw [if_pos c, if_pos c, upd_sw e]
        refine zlq_w hx d p (w / 8) _ (by omega) ?_
        show (if t = w % 8 then nI (p + d) else f t) < 0
        rw [if_neg (fun z => e z.symm)]
        exact hf
      · rw [if_neg c, if_neg c]
        exact ⟨⟨fun z => absurd (show false = true from z.1) (by decide), fun z => absurd (show false = true from z) (by decide)⟩, fun z => absurd (show false = true from z) (by decide)⟩
/-- both ways make the same row -/
theorem zex_e : ∀ (d q v : Nat) (f : Nat → Int32), q + d < 1000 → v < 8 ^ d → (∀ t, t < 8 → f t = -1 ∨ ¬ f t < 0) → zex d q v f = if (zlq d q v f).2 = true then some (zlq d q v f).1 else none
  | 0, _, _, _, _, _, _ => rfl
  | d + 1, q, v, f, h9, hv, hf => by
    have hp : 0 < 8 ^ d := Nat.pow_pos (by decide)
    have ht : v / 8 ^ d < 8 := by
      rw [Nat.pow_succ] at hv
      exact Nat.div_lt_of_lt_mul hv
    rw [zex, zlq_h d q v f hv]
    have hw := zlq_w (t := v / 8 ^ d) (x := nI q) (nI_pos (by omega)) d (q + 1) (v % 8 ^ d) f (by omega)
    by_cases c : f (v / 8 ^ d) = -1
    · have c2 : f (v / 8 ^ d) < 0 := by rw [c]; decide
      obtain ⟨w1, w2⟩ := hw c2
      rw [if_pos c, zex_e d (q + 1) (v % 8 ^ d) (upd f (v / 8 ^ d) (nI q)) (by omega) (Nat.mod_lt _ hp) (fun t ht => by
        show (if t = v / 8 ^ d then nI q else f t) = -1 ∨ ¬ (if t = v / 8 ^ d then nI q else f t) < 0
        by_cases e : t = v / 8 ^ d
        · rw [if_pos e]
          exact Or.inr (nI_pos (by omega))
        · rw [if_neg e]
          exact hf t ht)]
      by_cases g : (zlq d (q + 1) (v % 8 ^ d) (upd f (v / 8 ^ d) (nI q))).2 = true
      · obtain ⟨g1, g2⟩ := w1.mpr g
        rw [if_pos g, if_pos g1, if_pos g2, w2 g]
        rfl
      · rw [if_neg g]
        by_cases g1 : (zlq d (q + 1) (v % 8 ^ d) f).2 = true
        · have g2 : ¬ (zlq d (q + 1) (v % 8 ^ d) f).1 (v / 8 ^ d) < 0 := fun z => g (w1.mp ⟨g1, z⟩)
          rw [if_pos g1, if_neg g2]
          rfl
        · rw [if_neg g1, if_neg g1]
    · have c2 : ¬ f (v / 8 ^ d) < 0 := (hf _ ht).resolve_left c
      have c3 := zlq_k d (q + 1) (v % 8 ^ d) f _ (by omega) c2
      rw [if_neg c]
      by_cases g1 : (zlq d (q + 1) (v % 8 ^ d) f).2 = true
      · rw [if_pos g1, if_neg c3]
        rfl
      · rw [if_neg g1, if_neg g1]
/-- only eight places of a row count -/
theorem zex_c : ∀ (d q v : Nat) (f g : Nat → Int32), v < 8 ^ d → (∀ t, t < 8 → g t = f t) → (zex d q v g = none ∧ zex d q v f = none) ∨ ∃ a b, zex d q v g = some a ∧ zex d q v f = some b ∧ ∀ t, t < 8 → a t = b t
  | 0, q, v, f, g, _, h => Or.inr ⟨g, f, rfl, rfl, h⟩
  | d + 1, q, v, f, g, hv, h => by
    have hp : 0 < 8 ^ d := Nat.pow_pos (by decide)
    have ht : v / 8 ^ d < 8 := by
      rw [Nat.pow_succ] at hv
      exact Nat.div_lt_of_lt_mul hv
    rw [zex, zex, h _ ht]
    by_cases c : f (v / 8 ^ d) = -1
    · rw [if_pos c, if_pos c]
      refine zex_c d (q + 1) _ _ _ (Nat.mod_lt _ hp) (fun t ht => ?_)
      show (if t = v / 8 ^ d then nI q else g t) = (if t = v / 8 ^ d then nI q else f t)
      rw [h t ht]
    · rw [if_neg c, if_neg c]
      exact Or.inl ⟨rfl, rfl⟩
/-- what a code's row is -/
theorem zex_r : ∀ (d q v : Nat) (f g : Nat → Int32), q + d < 1000 → v < 8 ^ d → zRw q f → (∀ p, p < q → ∃ s, s < 8 ∧ f s = nI p) → zex d q v f = some g → zRw (q + d) g ∧ ∀ p, p < q + d → ∃ s, s < 8 ∧ g s = nI p
  | 0, q, v, f, g, _, _, h1, h2, h => by
    have e : f = g := Option.some.inj h
    rw [← e]
    exact ⟨h1, h2⟩
  | d + 1, q, v, f, g, h9, hv, h1, h2, h => by
    have hp : 0 < 8 ^ d := Nat.pow_pos (by decide)
    have ht : v / 8 ^ d < 8 := by
      rw [Nat.pow_succ] at hv
      exact Nat.div_lt_of_lt_mul hv
    rw [zex] at h
    by_cases c : f (v / 8 ^ d) = -1
    · rw [if_pos c] at h
      have := zex_r d (q + 1) _ _ g (by omega) (Nat.mod_lt _ hp) (zRw_u (by omega) h1 ht c) (fun p hp => by
        by_cases e : p = q
        · rw [e]
          exact ⟨v / 8 ^ d, ht, if_pos rfl⟩
        · obtain ⟨s, s1, s2⟩ := h2 p (by omega)
          refine ⟨s, s1, (if_neg (fun z => ?_)).trans s2⟩
          rw [z] at s2
          rw [c] at s2
          exact znm1 (by omega) s2.symm) h
      rw [show q + (d + 1) = q + 1 + d by omega]
      exact this
    · rw [if_neg c] at h
      exact absurd h (by simp)
/-- the seats that a row keeps -/
theorem zkp_s {f g : Nat → Int32} {q s : Nat} (h : f s = nI q) (hq : q < 1000) : ∀ n, s < n → (∀ k, k < n → ¬ f k < 0 → ∃ p, p < 1000 ∧ f k = nI p) → (∀ k, k < n → f k = nI q → k = s) → zkp f g n q = nI s
  | 0, h1, _, _ => absurd h1 (by omega)
  | n + 1, h1, h2, h3 => by
    rw [zkp]
    by_cases e : n = s
    · rw [e, h, if_neg (nI_pos (by omega)), nI_clamp (by omega)]
      exact if_pos rfl
    · have ih := zkp_s (g := g) h hq n (by omega) (fun k hk => h2 k (by omega)) (fun k hk => h3 k (by omega))
      by_cases c : f n < 0
      · rw [if_pos c]
        exact ih
      · rw [if_neg c]
        obtain ⟨p, hp, e2⟩ := h2 n (by omega) c
        rw [e2, nI_clamp (by omega)]
        show (if q = p then nI n else _) = _
        rw [if_neg (fun z => e (h3 n (by omega) (by rw [e2, z])))]
        exact ih
/-- the reference's state, and the best so far -/
def zHr (N : Nat) (b : Bool) (z : zX) (T : zB3) : Prop := match T with | none => b = false | some (k, w, g) => b = true ∧ z.1 77 34 = k ∧ z.1 77 35 = w ∧ ∀ q, q < N → ∃ s, s < 8 ∧ g s = nI q ∧ z.1 101 q = nI s
theorem zRw_0 {n : Nat} : zRw n (fun _ => -1) := ⟨fun t _ => Or.inl rfl, fun t t2 _ _ _ h1 _ => absurd rfl h1⟩
/-- a code's row, as the reference lays it -/
theorem zlay_e {x : zX} {N c : Nat} (h8 : N ≤ 8) (hc : c < 8 ^ N) : (¬ (zlay x N c).2 = true ∧ zex N 0 c (fun _ => -1) = none) ∨ ((zlay x N c).2 = true ∧ ∃ g, zex N 0 c (fun _ => -1) = some g ∧ (∀ t, t < 8 → (zlay x N c).1 t = g t) ∧ zRw N g ∧ ∀ p, p < N → ∃ s, s < 8 ∧ g s = nI p) := by
  have e1 : zex N 0 c (zputn (fun _ => -1) (x.1 100) 8) = if (zlay x N c).2 = true then some (zlay x N c).1 else none := by
    unfold zlay
    rw [zlr_q]
    exact zex_e N 0 c _ (by omega) hc (fun t ht => Or.inl (if_pos ht))
  rcases zex_c N 0 c (fun _ => -1) (zputn (fun _ => -1) (x.1 100) 8) hc (fun t ht => if_pos ht) with ⟨h1, h2⟩ | ⟨a, b, h1, h2, h3⟩
  · refine Or.inl ⟨fun z => ?_, h2⟩
    rw [h1, if_pos z] at e1
    exact absurd e1 (by simp)
  · by_cases z : (zlay x N c).2 = true
    · rw [h1, if_pos z] at e1
      have e2 : a = (zlay x N c).1 := Option.some.inj e1
      have hr := zex_r N 0 c (fun _ => -1) b (by omega) hc zRw_0 (fun p hp => absurd hp (by omega)) h2
      rw [Nat.zero_add] at hr
      exact Or.inr ⟨z, b, h2, fun t ht => by rw [← e2]; exact h3 t ht, hr⟩
    · rw [h1, if_neg z] at e1
      exact absurd e1 (by simp)
/-- one code weighed -/
theorem zfb1_e {N c : Nat} {but : Int32} {t : Bool × zX} {T : zB3} {V : (Nat → Int32) → Int32 × Int32} (h8 : N ≤ 8) (hc : c < 8 ^ N) (hV : ∀ f g : Nat → Int32, (∀ k, k < 8 → g k = f k) → V g = V f)
    (hB : ∀ f, zRw N f → (∀ k, k < 8 → (zlay t.2 N c).1 k = f k) → zsum (zsk (zsrI t.2 100 (zlay t.2 N c).1) but) 8 = (V f).1 ∧ zsum (zsw (zsrI t.2 100 (zlay t.2 N c).1)) 8 = (V f).2) (h : zHr N t.1 t.2 T) : zHr N (zfb1 N but c t).1 (zfb1 N but c t).2 (zcmb T (zev0 V (zex N 0 c (fun _ => -1)))) := by
  have hkeep : ∀ w : Nat → Int32, zHr N t.1 (zsrI t.2 100 w) T := fun w => by
    match T, h with
    | none, h => exact h
    | some (k, w2, g), h => exact h
  unfold zfb1
  rcases zlay_e (x := t.2) h8 hc with ⟨h1, h2⟩ | ⟨h1, g, h2, h3, h4, h5⟩
  · rw [if_pos h1, h2]
    exact hkeep _
  · rw [if_neg (fun z => z h1), h2]
    obtain ⟨eB, eW⟩ := hB g h4 h3
    rw [eB, eW]
    have hnew : ∀ T2 : zB3, zcmb T2 (zev0 V (some g)) = zcon T2 (V g).1 (V g).2 g := fun T2 => rfl
    rw [hnew]
    have hput : zHr N true (zsrI (zsI (zsI (zsrI t.2 100 (zlay t.2 N c).1) 77 34 (V g).1) 77 35 (V g).2) 101 (zkp (zlay t.2 N c).1 (t.2.1 101) 8)) (some ((V g).1, (V g).2, g)) := by
      refine ⟨rfl, rfl, rfl, fun q hq => ?_⟩
      obtain ⟨s, s1, s2⟩ := h5 q hq
      refine ⟨s, s1, s2, ?_⟩
      rw [zsrI_u]
      refine zkp_s ((h3 s s1).trans s2) (by omega) 8 s1 (fun k hk hn => ?_) (fun k hk e => ?_)
      · rw [h3 k hk] at hn ⊢
        rcases h4.1 k hk with z | ⟨p, hp, z⟩
        · rw [z] at hn
          exact absurd (by decide) hn
        · exact ⟨p, by omega, z⟩
      · rw [h3 k hk] at e
        by_cases z : k = s
        · exact z
        · exact absurd (e.trans s2.symm) (h4.2 k s hk s1 z (by rw [e]; exact znm1 (by omega)))
    match T, h with
    | none, h =>
      have hf : t.1 = false := h
      rw [if_neg (fun z => by rw [hf] at z; exact absurd z.1 (by decide)), if_neg (fun z => by rw [hf] at z; exact absurd z.1 (by decide))]
      exact hput
    | some (k, w, g9), h =>
      obtain ⟨k1, k2, k3, k4⟩ := h
      rw [k2, k3]
      show zHr N _ _ (if k < (V g).1 ∨ ((V g).1 = k ∧ (V g).2 ≤ w) then some (k, w, g9) else some ((V g).1, (V g).2, g))
      by_cases c1 : k < (V g).1
      · rw [if_pos ⟨k1, c1⟩, if_pos (Or.inl c1)]
        exact ⟨k1, k2, k3, k4⟩
      · rw [if_neg (fun z => c1 z.2)]
        by_cases c2 : (V g).1 = k ∧ (V g).2 ≤ w
        · rw [if_pos ⟨k1, c2⟩, if_pos (Or.inr c2)]
          exact ⟨k1, k2, k3, k4⟩
        · rw [if_neg (fun z => c2 z.2), if_neg (fun z => z.elim c1 c2)]
          exact hput
/-- what the reference finds -/
theorem zfbN_e {N : Nat} {v y : zX} {aim but : Int32} (h8 : N ≤ 8) (T : zTW N v y) (ha : ¬ aim = nI 3) (ha0 : aim = 0 ↔ but = 0) (ha1 : aim = nI 1 ↔ but = nI 1) : zHr N (zfbN N but y (8 ^ N)).1 (zfbN N but y (8 ^ N)).2 (zM (zVc v aim) N 0 (fun _ => -1)) := by
  rw [zM_x]
  have key : ∀ n, n ≤ 8 ^ N → zHr N (zfbN N but y n).1 (zfbN N but y n).2 (zfl (fun c => zev0 (zVc v aim) (zex N 0 c (fun _ => -1))) n) := by
    intro n
    induction n with
    | zero => intro _; rfl
    | succ n ih =>
      intro hn
      rw [zfl, zfbN]
      refine zfb1_e h8 (by omega) (fun f g e => zVc_c e) (fun f hf he => ?_) (ih (by omega))
      obtain ⟨q1, q2, q3⟩ := zfbN_q (N := N) (but := but) (y := y) n
      have T2 : zTW N v (zsrI (zfbN N but y n).2 100 (zlay (zfbN N but y n).2 N n).1) := by
        unfold zTW at T ⊢
        rw [zsrI_n (by omega), zsrI_n (by omega), zsrI_n (by omega), zsrI_n (by omega), zsrI_n (by omega), q2, q3, q1.1 78 (by omega) (by omega), q1.1 79 (by omega) (by omega), q1.1 86 (by omega) (by omega)]
        exact T
      have hg : ∀ t, t < 8 → (zsrI (zfbN N but y n).2 100 (zlay (zfbN N but y n).2 N n).1).1 100 t = f t := fun t ht => by
        rw [zsrI_u]
        exact he t ht
      unfold zVc
      rw [if_neg ha, if_neg ha]
      exact ⟨(zbrk_e h8 T2 hf hg ha0 ha1).symm, (zwor_e h8 T2 hf hg).symm⟩
  exact key _ (Nat.le_refl _)
theorem zBs_e {G : zG} {v : zX} {N b C : Nat} (tb : zTb G v N b C v) : zBs N v := fun a q r hr ha hq hne => by
  obtain ⟨-, e1⟩ := tb.1 a q r hr hq ha hne
  obtain ⟨-, e2⟩ := tb.1 q a r hr ha hq (fun z => hne z.symm)
  rw [e1, e2]
  have hc : zVb v b C a q (nI r) ↔ zVb v b C q a (nI r) := ⟨Or.symm, Or.symm⟩
  rw [zif_c hc]
theorem zBs_s {v u : zX} {N : Nat} (hs : zSr v u) (h : zBs N v) : zBs N u := by
  unfold zBs at h ⊢
  rw [hs.2 13 (by omega) (by omega) (by omega)]
  exact h
theorem zsrch_s {v : zX} {N : Nat} {aim : Int32} : zSr v (zsrch v N aim) := zSr.b.o (zplc_o aim N 0 _)
theorem zVc_s {v u : zX} {aim : Int32} (hs : zSr v u) : zVc u aim = zVc v aim := by
  funext f
  unfold zVc
  rw [zbrk_u (hs.2 13 (by omega) (by omega) (by omega)) (hs.2 1 (by omega) (by omega) (by omega)), zwor_u (hs.2 12 (by omega) (by omega) (by omega)) (hs.2 14 (by omega) (by omega) (by omega)), hs.1]
/-- both found the same -/
theorem zfnd_e {N : Nat} {z y : zX} {b : Bool} {T : zB3} (h8 : N ≤ 8) (h1 : zHas z T) (h2 : zHr N b y T) (hk : ∃ k, zky T = some k) (hr : ∀ k w g, T = some (k, w, g) → zRw N g) : z.1 11 6 = y.1 77 34 ∧ z.1 11 7 = y.1 77 35 ∧ ∀ q, q < N → zfind (z.1 16) (nI q) 0 8 = y.1 101 q := by
  match T, h1, h2, hk, hr with
  | none, _, _, hk, _ => obtain ⟨k, hk⟩ := hk; exact absurd hk (by unfold zky; simp)
  | some (k, w, g), h1, h2, _, hr =>
    obtain ⟨a1, a2, a3, a4⟩ := h1
    obtain ⟨b1, b2, b3, b4⟩ := h2
    have hg := hr k w g rfl
    refine ⟨a2.trans b2.symm, a3.trans b3.symm, fun q hq => ?_⟩
    obtain ⟨s, s1, s2, s3⟩ := b4 q hq
    rw [s3]
    refine zfind_at 8 0 (by omega) (by omega) (fun t ht => ?_)
    rw [a4 t (by omega)]
    constructor
    · intro e
      by_cases c : t = s
      · exact c
      · exact absurd (e.trans s2.symm) (hg.2 t s (by omega) s1 c (by rw [e]; exact znm1 (by omega)))
    · intro e
      rw [e]
      exact s2
theorem zM_r {V : (Nat → Int32) → Int32 × Int32} {N : Nat} (h8 : N ≤ 8) {k w : Int32} {g : Nat → Int32} (h : zM V N 0 (fun _ => -1) = some (k, w, g)) : zRw N g := by
  rw [zM_x] at h
  have key : ∀ n, n ≤ 8 ^ N → ∀ k w g, zfl (fun c => zev0 V (zex N 0 c (fun _ => -1))) n = some (k, w, g) → zRw N g := by
    intro n
    induction n with
    | zero => intro _ k w g h; exact absurd h (by unfold zfl; simp)
    | succ n ih =>
      intro hn k w g h
      rw [zfl] at h
      cases e : zex N 0 n (fun _ => -1) with
      | none =>
        rw [e] at h
        exact ih (by omega) k w g h
      | some f =>
        rw [e] at h
        have hr := (zex_r N 0 n (fun _ => -1) f (by omega) (by omega) zRw_0 (fun p hp => absurd hp (by omega)) e).1
        rw [Nat.zero_add] at hr
        cases e2 : zfl (fun c => zev0 V (zex N 0 c (fun _ => -1))) n with
        | none =>
          rw [e2] at h
          have h3 : some ((V f).1, (V f).2, f) = some (k, w, g) := h
          have h4 := Option.some.inj h3
          have h5 : f = g := congrArg (fun z => z.2.2) h4
          rw [← h5]
          exact hr
        | some T =>
          obtain ⟨k9, w9, g9⟩ := T
          rw [e2] at h
          have h3 : (if k9 < (V f).1 ∨ ((V f).1 = k9 ∧ (V f).2 ≤ w9) then some (k9, w9, g9) else some ((V f).1, (V f).2, f)) = some (k, w, g) := h
          by_cases c : k9 < (V f).1 ∨ ((V f).1 = k9 ∧ (V f).2 ≤ w9)
          · rw [if_pos c] at h3
            rw [h3] at e2
            exact ih (by omega) k w g e2
          · rw [if_neg c] at h3
            have h5 : f = g := congrArg (fun z => z.2.2) (Option.some.inj h3)
            rw [← h5]
            exact hr
  exact key _ (Nat.le_refl _) k w g h
/-- searches of the class and of the reference, over the same tables -/
theorem zboth_e {G : zG} {v y : zX} {N R L b F C : Nat} {aim but : Int32} (H : zRl G v N R L) (tb : zTb G v N b C v) (T : zTW N v y) (ha : ¬ aim = nI 3) (ha0 : aim = 0 ↔ but = 0) (ha1 : aim = nI 1 ↔ but = nI 1) : (zsrch v N aim).1 11 6 = (zfbN N but y (8 ^ N)).2.1 77 34 ∧ (zsrch v N aim).1 11 7 = (zfbN N but y (8 ^ N)).2.1 77 35 ∧ ∀ q, q < N → zfind ((zsrch v N aim).1 16) (nI q) 0 8 = (zfbN N but y (8 ^ N)).2.1 101 q :=
  zfnd_e H.sc.1 (zsrch_e (aim := aim) H.sc.1 (zBs_e tb)) (zfbN_e H.sc.1 T ha ha0 ha1) (zM_some N 0 _ (by have := H.sc.1; omega) (fun _ _ _ => rfl)) (fun k w g h => zM_r H.sc.1 h)
theorem e_best {G : zG} {x u1 u2 : zX} {N R L : Nat} {k : Int32} {r1 r2 : Int32} (H : zRl G x N R L) {b9 F C : Nat} (Q : zHl x b9 F C)
    (h1 : (¬ (¬ k < -2 ∧ k < nI N) ∧ x = u1 ∧ -100001 = r1) ∨ ((¬ k < -2 ∧ k < nI N) ∧ 5 < N ∧ x = u1 ∧ -9 = r1) ∨ ((¬ k < -2 ∧ k < nI N) ∧ N ≤ 5 ∧ ∃ v, zT7 G x N b9 C v ∧ zsrch v N (nI 2) = u1 ∧ (if k = -2 then u1.1 11 6 else if k = -1 then u1.1 11 7 else zfind (u1.1 16) k 0 8) = r1))
    (h2 : (¬ (¬ k < (-2) ∧ ¬ (nI N - nI 1) < k) ∧ u1 = u2 ∧ -100001 = r2) ∨ ((¬ k < (-2) ∧ ¬ (nI N - nI 1) < k) ∧ 5 < N ∧ u1 = u2 ∧ -9 = r2) ∨ ((¬ k < (-2) ∧ ¬ (nI N - nI 1) < k) ∧ N ≤ 5 ∧ ∃ y, ((zQ9 u1 y ∧ zTR u1 N F C y)) ∧ (zfbN N (-1) y (8 ^ N)).2 = u2 ∧ (if k = -1 then u2.1 77 35 else if k = -2 then u2.1 77 34 else u2.1 101 k.toNatClampNeg) = r2)) : r1 = r2 ∧ ∃ N R L, zRl G u2 N R L := by
  have h8 := H.sc.1
  have hq : ∀ (a : Int32) (m : Int32), (¬ a < m ∧ a < nI N) ↔ (¬ a < m ∧ ¬ (nI N - nI 1) < a) := fun a m => by
    have e1 : (nI N - nI 1).toInt = (N : Int) - 1 := pk_sub_toInt (by omega) (by omega)
    have e2 : (nI N).toInt = (N : Int) := nI_toInt (by omega)
    rw [Int32.lt_iff_toInt_lt, Int32.lt_iff_toInt_lt, Int32.lt_iff_toInt_lt, e1, e2]
    omega
  rcases h1 with ⟨a1, rfl, rfl⟩ | ⟨a1, b1, rfl, rfl⟩ | ⟨a1, b1, v, t7, rfl, rfl⟩
  · rcases h2 with ⟨a2, rfl, rfl⟩ | ⟨a2, -⟩ | ⟨a2, -⟩
    · exact ⟨rfl, N, R, L, H⟩
    · exact absurd ((hq k (-2)).mpr a2) a1
    · exact absurd ((hq k (-2)).mpr a2) a1
  · rcases h2 with ⟨a2, -⟩ | ⟨a2, b2, rfl, rfl⟩ | ⟨a2, b2, -⟩
    · exact absurd ((hq k (-2)).mp a1) a2
    · exact ⟨rfl, N, R, L, H⟩
    · omega
  · rcases h2 with ⟨a2, -⟩ | ⟨a2, b2, -⟩ | ⟨a2, b2, y, hy, rfl, rfl⟩
    · exact absurd ((hq k (-2)).mp a1) a2
    · omega
    obtain ⟨H1, Q1, tb⟩ := H.t7 Q t7
    have hs := zsrch_s (v := v) (N := N) (aim := nI 2)
    obtain ⟨H2, Q2, tb2⟩ := H1.sr Q1 tb hs
    have T := zTW_s (H2.tw Q2 tb2 hy.1 hy.2) ⟨hs.1.symm, fun i i1 i2 i3 => (hs.2 i i1 i2 i3).symm⟩
    obtain ⟨e1, e2, e3⟩ := zboth_e (aim := nI 2) (but := -1) (F := F) H1 tb T (by decide) (by decide) (by decide)
    refine ⟨?_, N, R, L, (H2.q9 Q2 (hy.1.t (zfbN_q (8 ^ N)).1)).1⟩
    by_cases c2 : k = -2
    · rw [if_pos c2, if_neg (by rw [c2]; decide), if_pos c2]
      exact e1
    · rw [if_neg c2]
      by_cases c1 : k = -1
      · rw [if_pos c1, if_pos c1]
        exact e2
      · rw [if_neg c1, if_neg c1, if_neg c2]
        have hk0 : ¬ k < 0 := fun z => by
          have z1 := a1.1
          have e9 : (-2 : Int32).toInt = -2 := by decide
          rw [Int32.lt_iff_toInt_lt, Int32.toInt_zero] at z
          rw [Int32.lt_iff_toInt_lt, e9] at z1
          rcases (show k.toInt = -2 ∨ k.toInt = -1 by omega) with e | e
          · exact c2 (Int32.toInt_inj.mp (e.trans e9.symm))
          · exact c1 (Int32.toInt_inj.mp (e.trans (show (-1 : Int32).toInt = -1 from by decide).symm))
        obtain ⟨q, hq1, rfl⟩ := z_nat hk0
        have hqN : q < N := (zqL (by omega) (by omega)).mp a1.2
        rw [nI_clamp (by omega)]
        exact e3 q hqN
theorem e_cost {G : zG} {x u1 u2 : zX} {N R L : Nat} {k : Int32} {r1 r2 : Int32} (H : zRl G x N R L) {b9 F C : Nat} (Q : zHl x b9 F C)
    (h1 : (¬ (k = 0 ∨ k = nI 1) ∧ x = u1 ∧ -1 = r1) ∨ ((k = 0 ∨ k = nI 1) ∧ 5 < N ∧ x = u1 ∧ -9 = r1) ∨ ((k = 0 ∨ k = nI 1) ∧ N ≤ 5 ∧ ∃ v, zT7 G x N b9 C v ∧ zsrch (zsrch v N (nI 2)) N k = u1 ∧ u1.1 11 7 - (zsrch v N (nI 2)).1 11 7 = r1))
    (h2 : (¬ (¬ k < 0 ∧ ¬ nI 1 < k) ∧ u1 = u2 ∧ -1 = r2) ∨ ((¬ k < 0 ∧ ¬ nI 1 < k) ∧ 5 < N ∧ u1 = u2 ∧ -9 = r2) ∨ ((¬ k < 0 ∧ ¬ nI 1 < k) ∧ N ≤ 5 ∧ ∃ y y2, ((zQ9 u1 y ∧ zTR u1 N F C y)) ∧ zQ9 (zfbN N (-1) y (8 ^ N)).2 y2 ∧ zTR (zfbN N (-1) y (8 ^ N)).2 N F C y2 ∧ (zfbN N k y2 (8 ^ N)).2 = u2 ∧ u2.1 77 35 - (zfbN N (-1) y (8 ^ N)).2.1 77 35 = r2)) : r1 = r2 ∧ ∃ N R L, zRl G u2 N R L := by
  have h8 := H.sc.1
  have hw : (k = 0 ∨ k = nI 1) ↔ (¬ k < 0 ∧ ¬ nI 1 < k) := z01
  rcases h1 with ⟨a1, rfl, rfl⟩ | ⟨a1, b1, rfl, rfl⟩ | ⟨a1, b1, v, t7, rfl, rfl⟩
  · rcases h2 with ⟨a2, rfl, rfl⟩ | ⟨a2, -⟩ | ⟨a2, -⟩
    · exact ⟨rfl, N, R, L, H⟩
    · exact absurd (hw.mpr a2) a1
    · exact absurd (hw.mpr a2) a1
  · rcases h2 with ⟨a2, -⟩ | ⟨a2, b2, rfl, rfl⟩ | ⟨a2, b2, -⟩
    · exact absurd (hw.mp a1) a2
    · exact ⟨rfl, N, R, L, H⟩
    · omega
  · rcases h2 with ⟨a2, -⟩ | ⟨a2, b2, -⟩ | ⟨a2, b2, y, y2, hy, hq2, tr2, rfl, rfl⟩
    · exact absurd (hw.mp a1) a2
    · omega
    obtain ⟨H1, Q1, tb⟩ := H.t7 Q t7
    have hs := zsrch_s (v := v) (N := N) (aim := nI 2)
    obtain ⟨H2, Q2, tb2⟩ := H1.sr Q1 tb hs
    have hs2 := zsrch_s (v := zsrch v N (nI 2)) (N := N) (aim := k)
    obtain ⟨H3, Q3, tb3⟩ := H2.sr Q2 tb2 hs2
    have sy : ∀ {a b : zX}, zSr a b → zSr b a := fun h => ⟨h.1.symm, fun i i1 i2 i3 => (h.2 i i1 i2 i3).symm⟩
    have T3 := H3.tw Q3 tb3 hy.1 hy.2
    have T1 : zTW N v y := zTW_s (zTW_s T3 (sy hs2)) (sy hs)
    obtain ⟨e1, e2, e3⟩ := zboth_e (aim := nI 2) (but := -1) (F := F) H1 tb T1 (by decide) (by decide) (by decide)
    have hq : zQ9 (zsrch (zsrch v N (nI 2)) N k) (zfbN N (-1) y (8 ^ N)).2 := hy.1.t (zfbN_q (8 ^ N)).1
    have tr3 : zTR (zsrch (zsrch v N (nI 2)) N k) N F C y2 := by
      intro a q r hr hqn han hne
      obtain ⟨f1, f2⟩ := tr2 a q r hr hqn han hne
      rw [zpwR_q hq] at f1
      rw [zif_c (zbaR_q hq)] at f2
      exact ⟨f1, f2⟩
    have T4 : zTW N (zsrch v N (nI 2)) y2 := zTW_s (H3.tw Q3 tb3 (hq.t hq2) tr3) (sy hs2)
    have hk3 : ¬ k = nI 3 := fun z => by rcases a1 with e | e <;> rw [e] at z <;> exact absurd z (by decide)
    obtain ⟨g1, g2, g3⟩ := zboth_e (aim := k) (but := k) (F := F) H2 tb2 T4 hk3 Iff.rfl Iff.rfl
    refine ⟨by rw [g2, e2], N, R, L, (H3.q9 Q3 ((hq.t hq2).t (zfbN_q (8 ^ N)).1)).1⟩
