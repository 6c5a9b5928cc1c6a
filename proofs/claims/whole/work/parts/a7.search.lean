/-! SEARCHES: all sittings, and those that are tried -/
/-- as good, or better -/
abbrev zgI (k j : Int32 × Int32) : Prop := k.1 < j.1 ∨ (j.1 = k.1 ∧ j.2 ≤ k.2)
theorem zgI_i {k j : Int32 × Int32} : zgI k j ↔ (k.1.toInt < j.1.toInt ∨ (j.1.toInt = k.1.toInt ∧ j.2.toInt ≤ k.2.toInt)) := by
  unfold zgI
  rw [Int32.lt_iff_toInt_lt, Int32.le_iff_toInt_le, Int32.toInt_inj]
theorem zgI_r (k : Int32 × Int32) : zgI k k := by
  rw [zgI_i]
  omega
theorem zgI_t {k j i : Int32 × Int32} (h : zgI k j) (g : zgI j i) : zgI k i := by
  rw [zgI_i] at *
  omega
theorem zgI_n {k j : Int32 × Int32} (h : ¬ zgI k j) : zgI j k := by
  rw [zgI_i] at *
  omega
theorem zgI_a {k j : Int32 × Int32} (h : zgI k j) (g : zgI j k) : k = j := by
  rw [zgI_i] at *
  have e1 : k.1 = j.1 := Int32.toInt_inj.mp (by omega)
  have e2 : k.2 = j.2 := Int32.toInt_inj.mp (by omega)
  exact Prod.ext e1 e2
def zcmb (T U : zB3) : zB3 := match U with | none => T | some (b, w, g) => zcon T b w g
theorem zcmb_y {b w b2 w2 : Int32} {g g2 : Nat → Int32} (h : zgI (b, w) (b2, w2)) : zcmb (some (b, w, g)) (some (b2, w2, g2)) = some (b, w, g) := if_pos h
theorem zcmb_n {b w b2 w2 : Int32} {g g2 : Nat → Int32} (h : ¬ zgI (b, w) (b2, w2)) : zcmb (some (b, w, g)) (some (b2, w2, g2)) = some (b2, w2, g2) := if_neg h
theorem zcmb_0 (U : zB3) : zcmb none U = U := by
  match U with
  | none => rfl
  | some (b, w, g) => rfl
theorem zcmb_a (T U V : zB3) : zcmb (zcmb T U) V = zcmb T (zcmb U V) := by
  match T, U, V with
  | none, U, V => rw [zcmb_0, zcmb_0]
  | some (b, w, g), none, V => rw [zcmb_0]; rfl
  | some (b, w, g), some (b2, w2, g2), none => rfl
  | some (b, w, g), some (b2, w2, g2), some (b3, w3, g3) =>
    by_cases c1 : zgI (b, w) (b2, w2)
    · rw [zcmb_y c1]
      by_cases c2 : zgI (b2, w2) (b3, w3)
      · rw [zcmb_y (g := g2) c2, zcmb_y c1, zcmb_y (zgI_t c1 c2)]
      · rw [zcmb_n (g := g2) c2]
    · rw [zcmb_n c1]
      by_cases c2 : zgI (b2, w2) (b3, w3)
      · rw [zcmb_y (g := g2) c2, zcmb_n c1]
      · rw [zcmb_n (g := g2) c2, zcmb_n (fun z => c1 (zgI_t z (zgI_n c2)))]
/-- T is as good as U -/
def zdom (T U : zB3) : Prop := match U with | none => True | some (b2, w2, _) => match T with | none => False | some (b, w, _) => zgI (b, w) (b2, w2)
theorem zdom_e {T U : zB3} (h : zdom T U) : zcmb T U = T := by
  match T, U, h with
  | T, none, _ => rfl
  | none, some (b2, w2, g2), h => exact h.elim
  | some (b, w, g), some (b2, w2, g2), h => exact zcmb_y h
theorem zdom_r (T : zB3) : zdom T T := by
  match T with
  | none => exact trivial
  | some (b, w, g) => exact zgI_r _
theorem zdom_t {T U V : zB3} (h : zdom T U) (g : zdom U V) : zdom T V := by
  match T, U, V, h, g with
  | T, U, none, _, _ => exact trivial
  | none, none, some _, _, g => exact g.elim
  | none, some _, some _, h, _ => exact h.elim
  | some _, none, some _, _, g => exact g.elim
  | some (b, w, g1), some (b2, w2, g2), some (b3, w3, g3), h, g => exact zgI_t (k := (b, w)) (j := (b2, w2)) h g
theorem zdom_l (T U : zB3) : zdom (zcmb T U) T := by
  match T, U with
  | T, none => exact zdom_r T
  | none, some (b2, w2, g2) => exact trivial
  | some (b, w, g), some (b2, w2, g2) =>
    by_cases c : zgI (b, w) (b2, w2)
    · rw [zcmb_y c]
      exact zgI_r _
    · rw [zcmb_n c]
      exact zgI_n c
theorem zdom_u (T U : zB3) : zdom (zcmb T U) U := by
  match T, U with
  | T, none => exact trivial
  | none, some (b2, w2, g2) => exact zgI_r _
  | some (b, w, g), some (b2, w2, g2) =>
    by_cases c : zgI (b, w) (b2, w2)
    · rw [zcmb_y c]
      exact c
    · rw [zcmb_n c]
      exact zgI_r _
/-- only the key counts -/
def zky (T : zB3) : Option (Int32 × Int32) := T.map (fun x => (x.1, x.2.1))
theorem zdom_k {T U V : zB3} (h : zdom T U) (e : zky U = zky V) : zdom T V := by
  match T, U, V, h, e with
  | T, _, none, _, _ => exact trivial
  | T, none, some (b, w, g), _, e => exact absurd e (by unfold zky; simp)
  | none, some _, some _, h, _ => exact h.elim
  | some (b, w, g1), some (b2, w2, g2), some (b3, w3, g3), h, e =>
    have e2 : (b2, w2) = (b3, w3) := Option.some.inj e
    show zgI (b, w) (b3, w3)
    rw [← e2]
    exact h
/-- the best of n, the first of the best -/
def zfl (h : Nat → zB3) : Nat → zB3
  | 0 => none
  | n + 1 => zcmb (zfl h n) (h n)
theorem zfl_c {h g : Nat → zB3} : ∀ {n : Nat}, (∀ k, k < n → h k = g k) → zfl h n = zfl g n
  | 0, _ => rfl
  | n + 1, e => by rw [zfl, zfl, zfl_c (fun k hk => e k (by omega)), e n (by omega)]
theorem zfl_a (h : Nat → zB3) (m : Nat) : ∀ n, zfl h (m + n) = zcmb (zfl h m) (zfl (fun k => h (m + k)) n)
  | 0 => rfl
  | n + 1 => by rw [← Nat.add_assoc, zfl, zfl_a h m n, zfl, zcmb_a]
theorem zfl_m (h : Nat → zB3) (m : Nat) : ∀ n, zfl h (n * m) = zfl (fun t => zfl (fun j => h (t * m + j)) m) n
  | 0 => by rw [Nat.zero_mul]; rfl
  | n + 1 => by rw [Nat.succ_mul, zfl_a, zfl_m h m n, zfl]
theorem zfl_d {h : Nat → zB3} {t : Nat} : ∀ {n : Nat}, t < n → zdom (zfl h n) (h t)
  | 0, e => absurd e (by omega)
  | n + 1, e => by
    rw [zfl]
    by_cases c : t = n
    · rw [c]
      exact zdom_u _ _
    · exact zdom_t (zdom_l _ _) (zfl_d (by omega))
/-- what the best's key is -/
theorem zfl_k (h : Nat → zB3) : ∀ n, (zky (zfl h n) = none ∧ ∀ t, t < n → zky (h t) = none) ∨ ∃ k, zky (zfl h n) = some k ∧ (∃ t, t < n ∧ zky (h t) = some k) ∧ ∀ t j, t < n → zky (h t) = some j → zgI k j
  | 0 => Or.inl ⟨rfl, fun t ht => absurd ht (by omega)⟩
  | n + 1 => by
    rw [zfl]
    rcases zfl_k h n with ⟨h1, h2⟩ | ⟨k, h1, ⟨t, h2, h3⟩, h4⟩
    · have e0 : zfl h n = none := by
        cases e : zfl h n with
        | none => rfl
        | some v => rw [e] at h1; exact absurd h1 (by unfold zky; simp)
      rw [e0, zcmb_0]
      cases e : zky (h n) with
      | none => exact Or.inl ⟨rfl, fun t ht => by
          by_cases c : t = n
          · rw [c]
            exact e
          · exact h2 t (by omega)⟩
      | some k => exact Or.inr ⟨k, rfl, ⟨n, by omega, e⟩, fun t j ht hj => by
          by_cases c : t = n
          · rw [c, e] at hj
            rw [Option.some.inj hj]
            exact zgI_r _
          · rw [h2 t (by omega)] at hj
            exact absurd hj (by simp)⟩
    · cases e1 : zfl h n with
      | none => rw [e1] at h1; exact absurd h1 (by unfold zky; simp)
      | some v =>
        obtain ⟨b, w, g⟩ := v
        rw [e1] at h1
        have ek : (b, w) = k := Option.some.inj h1
        cases e2 : h n with
        | none => exact Or.inr ⟨k, h1, ⟨t, by omega, h3⟩, fun t2 j ht hj => by
            by_cases c : t2 = n
            · rw [c, e2] at hj
              exact absurd hj (by unfold zky; simp)
            · exact h4 t2 j (by omega) hj⟩
        | some v2 =>
          obtain ⟨b2, w2, g2⟩ := v2
          by_cases c : zgI (b, w) (b2, w2)
          · rw [zcmb_y c]
            exact Or.inr ⟨k, h1, ⟨t, by omega, h3⟩, fun t2 j ht hj => by
              by_cases c2 : t2 = n
              · rw [c2, e2] at hj
                have e3 : (b2, w2) = j := Option.some.inj hj
                rw [← ek, ← e3]
                exact c
              · exact h4 t2 j (by omega) hj⟩
          · rw [zcmb_n c]
            exact Or.inr ⟨(b2, w2), rfl, ⟨n, by omega, by rw [e2]; rfl⟩, fun t2 j ht hj => by
              by_cases c2 : t2 = n
              · rw [c2, e2] at hj
                have e3 : (b2, w2) = j := Option.some.inj hj
                rw [← e3]
                exact zgI_r _
              · exact zgI_t (zgI_n c) (by rw [ek]; exact h4 t2 j (by omega) hj)⟩
/-- the order of the tries does not matter to the key -/
theorem zfl_p {h g : Nat → zB3} {n : Nat} {s : Nat → Nat} (hs : ∀ t, t < n → s t < n ∧ s (s t) = t) (e : ∀ t, t < n → zky (h t) = zky (g (s t))) : zky (zfl h n) = zky (zfl g n) := by
  rcases zfl_k h n with ⟨h1, h2⟩ | ⟨k, h1, ⟨t, h2, h3⟩, h4⟩
  · rcases zfl_k g n with ⟨g1, g2⟩ | ⟨j, g1, ⟨t, g2, g3⟩, g4⟩
    · rw [h1, g1]
    · have := h2 (s t) (hs t g2).1
      rw [e _ (hs t g2).1, (hs t g2).2, g3] at this
      exact absurd this (by simp)
  · rcases zfl_k g n with ⟨g1, g2⟩ | ⟨j, g1, ⟨t2, g2, g3⟩, g4⟩
    · have := g2 (s t) (hs t h2).1
      rw [← e t h2, h3] at this
      exact absurd this (by simp)
    · rw [h1, g1]
      congr 1
      refine zgI_a (h4 (s t2) j (hs t2 g2).1 ?_) (g4 (s t) k (hs t h2).1 ?_)
      · rw [e _ (hs t2 g2).1, (hs t2 g2).2]
        exact g3
      · rw [← e t h2]
        exact h3
/-- all sittings of d more pupils, from pupil q on -/
def zM (V : (Nat → Int32) → Int32 × Int32) : Nat → Nat → (Nat → Int32) → zB3
  | 0, _, f => some ((V f).1, (V f).2, f)
  | d + 1, q, f => zfl (fun t => if f t = -1 then zM V d (q + 1) (upd f t (nI q)) else none) 8
/-- those that are tried -/
def zP (V : (Nat → Int32) → Int32 × Int32) : Nat → Nat → (Nat → Int32) → zB3
  | 0, _, f => some ((V f).1, (V f).2, f)
  | d + 1, q, f => zfl (fun t => if zunl f t then zP V d (q + 1) (upd f t (nI q)) else none) 8
/-- what turns a row round without a change to what it is worth -/
def zSy (V : (Nat → Int32) → Int32 × Int32) (Ok : (Nat → Int32) → Prop) (s : Nat → Nat) : Prop := (∀ t, t < 8 → s t < 8 ∧ s (s t) = t) ∧ ∀ f g, Ok f → Ok g → (∀ t, t < 8 → g t = f (s t)) → V g = V f
/-- rows with pupils below n, each where it may be, none twice -/
def zRn8 (n : Nat) (f : Nat → Int32) : Prop := zRw n f
theorem zRw_u {n t : Nat} {f : Nat → Int32} (hn : n < 1000) (h : zRw n f) (ht : t < 8) (hf : f t = -1) : zRw (n + 1) (upd f t (nI n)) := by
  have hu : ∀ k, upd f t (nI n) k = if k = t then nI n else f k := fun _ => rfl
  refine ⟨fun k hk => ?_, fun k k2 hk hk2 hne h1 h2 => ?_⟩
  · rw [hu]
    by_cases c : k = t
    · rw [if_pos c]
      exact Or.inr ⟨n, by omega, rfl⟩
    · rw [if_neg c]
      exact (h.1 k hk).elim Or.inl (fun ⟨q, h1, h2⟩ => Or.inr ⟨q, by omega, h2⟩)
  · rw [hu] at h1
    rw [hu, hu] at h2
    have hnn : ∀ k, k < 8 → ¬ f k = nI n := fun k hk z => by
      rcases h.1 k hk with h3 | ⟨q, h3, h4⟩
      · rw [h3] at z
        exact znm1 hn z.symm
      · rw [h4] at z
        have := (zqE (by omega) (by omega)).mp z
        omega
    by_cases c : k = t
    · rw [if_pos c, if_neg (by omega)] at h2
      exact hnn k2 hk2 h2.symm
    · rw [if_neg c] at h1 h2
      by_cases c2 : k2 = t
      · rw [if_pos c2] at h2
        exact hnn k hk h2
      · rw [if_neg c2] at h2
        exact h.2 k k2 hk hk2 hne h1 h2
/-- what is reached has the same key, turned round or not -/
theorem zM_s {V : (Nat → Int32) → Int32 × Int32} {N : Nat} {s : Nat → Nat} (hV : zSy V (zRw N) s) : ∀ (d q : Nat) (f g : Nat → Int32), q + d = N → N < 1000 → zRw q f → zRw q g → (∀ t, t < 8 → g t = f (s t)) → zky (zM V d q g) = zky (zM V d q f)
  | 0, q, f, g, hN, _, hf, hg, e => by
    have hq : q = N := by omega
    rw [hq] at hf hg
    show some ((V g).1, (V g).2) = some ((V f).1, (V f).2)
    rw [hV.2 f g hf hg e]
  | d + 1, q, f, g, hN, h9, hf, hg, e => by
    rw [zM, zM]
    refine zfl_p hV.1 (fun t ht => ?_)
    obtain ⟨s1, s2⟩ := hV.1 t ht
    show zky (if g t = -1 then zM V d (q + 1) (upd g t (nI q)) else none) = zky (if f (s t) = -1 then zM V d (q + 1) (upd f (s t) (nI q)) else none)
    rw [← e t ht]
    by_cases c : g t = -1
    · rw [if_pos c, if_pos c]
      refine zM_s hV d (q + 1) (upd f (s t) (nI q)) (upd g t (nI q)) (by omega) h9 (zRw_u (by omega) hf s1 (by rw [← e t ht]; exact c)) (zRw_u (by omega) hg ht c) (fun k hk => ?_)
      show (if k = t then nI q else g k) = (if s k = s t then nI q else f (s k))
      by_cases c2 : k = t
      · rw [if_pos c2, if_pos (by rw [c2])]
      · rw [if_neg c2, if_neg (fun z => c2 (by rw [← (hV.1 k hk).2, z, s2]))]
        exact e k hk
    · rw [if_neg c, if_neg c]
/-- seats of a desk exchanged; desks of a row exchanged -/
def zs1 (d t : Nat) : Nat := if t / 2 = d then t ^^^ 1 else t
def zs2 (r t : Nat) : Nat := if t / 4 = r then t ^^^ 2 else t
theorem zs1_s : ∀ d : Fin 4, ∀ t : Fin 8, zs1 d.val t.val < 8 ∧ zs1 d.val (zs1 d.val t.val) = t.val := by decide +kernel
theorem zs2_s : ∀ r : Fin 2, ∀ t : Fin 8, zs2 r.val t.val < 8 ∧ zs2 r.val (zs2 r.val t.val) = t.val := by decide +kernel
/-- a row that has been tried: no second seat, no second desk is taken ahead of the first -/
def zRe (f : Nat → Int32) : Prop := (∀ t, t < 8 → t % 2 = 1 → ¬ f t = -1 → ¬ f (t - 1) = -1) ∧ ∀ t, t < 8 → t / 2 % 2 = 1 → ¬ f t = -1 → ¬ (f (2 * (t / 2 - 1)) = -1 ∧ f (2 * (t / 2 - 1) + 1) = -1)
theorem zocc_0 {a b : Int32} : 0 < zocc a + zocc b ↔ ¬ (a = -1 ∧ b = -1) := by
  unfold zocc
  by_cases c : a = -1
  · rw [if_pos c]
    by_cases d : b = -1
    · rw [if_pos d]
      exact ⟨fun z => absurd z (by decide), fun z => absurd ⟨c, d⟩ z⟩
    · rw [if_neg d]
      exact ⟨fun _ z => d z.2, fun _ => by decide⟩
  · rw [if_neg c]
    by_cases d : b = -1
    · rw [if_pos d]
      exact ⟨fun _ z => c z.1, fun _ => by decide⟩
    · rw [if_neg d]
      exact ⟨fun _ z => c z.1, fun _ => by decide⟩
theorem zRe_u {f : Nat → Int32} {t : Nat} {v : Int32} (h : zRe f) (ht : t < 8) (hv : ¬ v = -1) (hu : zunl f t) : zRe (upd f t v) := by
  obtain ⟨h1, h2⟩ := h
  obtain ⟨u1, u2, u3⟩ := hu
  have hup : ∀ k, upd f t v k = if k = t then v else f k := fun _ => rfl
  refine ⟨fun k hk hk2 hf => ?_, fun k hk hk2 hf => ?_⟩
  · rw [hup] at hf ⊢
    by_cases c : k - 1 = t
    · rw [if_pos c]
      exact hv
    · rw [if_neg c]
      by_cases c2 : k = t
      · subst c2
        exact fun z => u2 ⟨hk2, z⟩
      · rw [if_neg c2] at hf
        exact h1 k hk hk2 hf
  · rw [hup] at hf
    rw [hup, hup]
    by_cases c : 2 * (k / 2 - 1) = t
    · rw [if_pos c]
      exact fun z => hv z.1
    · rw [if_neg c]
      by_cases c3 : 2 * (k / 2 - 1) + 1 = t
      · rw [if_pos c3]
        exact fun z => hv z.2
      · rw [if_neg c3]
        by_cases c2 : k = t
        · subst c2
          exact zocc_0.mp (u3.resolve_left (by omega))
        · rw [if_neg c2] at hf
          exact h2 k hk hk2 hf
/-- those that are tried, and all of them: the same first best -/
theorem zP_e {V : (Nat → Int32) → Int32 × Int32} {N : Nat} (hV1 : ∀ d, d < 4 → zSy V (zRw N) (zs1 d)) (hV2 : ∀ r, r < 2 → zSy V (zRw N) (zs2 r)) : ∀ (d q : Nat) (f : Nat → Int32), q + d = N → N < 1000 → zRw q f → zRe f → zP V d q f = zM V d q f
  | 0, _, _, _, _, _, _ => rfl
  | d + 1, q, f, hN, h9, hf, hr => by
    rw [zP, zM]
    have hq1 : ¬ nI q = -1 := znm1 (by omega)
    have hn : ∀ n, n ≤ 8 → zfl (fun t => if zunl f t then zP V d (q + 1) (upd f t (nI q)) else none) n = zfl (fun t => if f t = -1 then zM V d (q + 1) (upd f t (nI q)) else none) n := by
      intro n
      induction n with
      | zero => intro _; rfl
      | succ n ih =>
        intro hn
        rw [zfl, zfl, ih (by omega)]
        by_cases c : f n = -1
        · by_cases cu : zunl f n
          · rw [if_pos c, if_pos cu, zP_e hV1 hV2 d (q + 1) _ (by omega) h9 (zRw_u (by omega) hf (by omega) c) (zRe_u hr (by omega) hq1 cu)]
          · rw [if_neg cu]
            have hsame : ∃ t, t < n ∧ f t = -1 ∧ zky (zM V d (q + 1) (upd f t (nI q))) = zky (zM V d (q + 1) (upd f n (nI q))) := by
              by_cases c1 : n % 2 = 1 ∧ f (n - 1) = -1
              · refine ⟨n - 1, by omega, c1.2, ?_⟩
                refine zM_s (hV1 (n / 2) (by omega)) d (q + 1) (upd f n (nI q)) (upd f (n - 1) (nI q)) (by omega) h9 (zRw_u (by omega) hf (by omega) c) (zRw_u (by omega) hf (by omega) c1.2) (fun k hk => ?_)
                show (if k = n - 1 then nI q else f k) = (if zs1 (n / 2) k = n then nI q else f (zs1 (n / 2) k))
                have hx : n - 1 = n ^^^ 1 ∧ (n ^^^ 1) ^^^ 1 = n := by
                  rcases (show n = 1 ∨ n = 3 ∨ n = 5 ∨ n = 7 by omega) with rfl | rfl | rfl | rfl <;> decide
                unfold zs1
                by_cases k1 : k / 2 = n / 2
                · rw [if_pos k1]
                  rcases (show k = n ∨ k = n - 1 by omega) with e | e
                  · rw [e, if_neg (by omega), if_neg (by omega), ← hx.1, c1.2, c]
                  · rw [if_pos e, e, hx.1, hx.2, if_pos rfl]
                · rw [if_neg k1, if_neg (by omega), if_neg (by omega)]
              · have c2 : n / 2 % 2 = 1 ∧ f (2 * (n / 2 - 1)) = -1 ∧ f (2 * (n / 2 - 1) + 1) = -1 := by
                  have : ¬ (n / 2 % 2 = 0 ∨ 0 < zocc (f (2 * (n / 2 - 1))) + zocc (f (2 * (n / 2 - 1) + 1))) := fun z => cu ⟨c, c1, z⟩
                  rw [zocc_0] at this
                  have h3 : ¬ n / 2 % 2 = 0 := fun z => this (Or.inl z)
                  have h4 := Classical.not_not.mp (fun z => this (Or.inr z))
                  exact ⟨by omega, h4⟩
                have hfree : ∀ k, k < 8 → k / 4 = n / 4 → f k = -1 := fun k hk hk4 => by
                  rcases (show k = 2 * (n / 2 - 1) ∨ k = 2 * (n / 2 - 1) + 1 ∨ (k / 2 = n / 2) by omega) with e | e | e
                  · rw [e]
                    exact c2.2.1
                  · rw [e]
                    exact c2.2.2
                  · by_cases z : f k = -1
                    · exact z
                    · refine absurd ?_ (hr.2 k hk (by omega) z)
                      rw [e]
                      exact c2.2
                refine ⟨n - 2, by omega, hfree _ (by omega) (by omega), ?_⟩
                refine zM_s (hV2 (n / 4) (by omega)) d (q + 1) (upd f n (nI q)) (upd f (n - 2) (nI q)) (by omega) h9 (zRw_u (by omega) hf (by omega) c) (zRw_u (by omega) hf (by omega) (hfree _ (by omega) (by omega))) (fun k hk => ?_)
                show (if k = n - 2 then nI q else f k) = (if zs2 (n / 4) k = n then nI q else f (zs2 (n / 4) k))
                have hx : n - 2 = n ^^^ 2 ∧ (n ^^^ 2) ^^^ 2 = n := by
                  rcases (show n = 2 ∨ n = 3 ∨ n = 6 ∨ n = 7 by omega) with rfl | rfl | rfl | rfl <;> decide
                have hx2 : ∀ j, j < 8 → (j ^^^ 2) / 4 = j / 4 ∧ (j ^^^ 2) < 8 ∧ ((j ^^^ 2) ^^^ 2) = j := fun j hj => by
                  rcases (show j = 0 ∨ j = 1 ∨ j = 2 ∨ j = 3 ∨ j = 4 ∨ j = 5 ∨ j = 6 ∨ j = 7 by omega) with rfl | rfl | rfl | rfl | rfl | rfl | rfl | rfl <;> decide
                unfold zs2
                by_cases k1 : k / 4 = n / 4
                · rw [if_pos k1]
                  obtain ⟨y1, y2, y3⟩ := hx2 k hk
                  by_cases e : k = n - 2
                  · rw [if_pos e, e, hx.1, hx.2, if_pos rfl]
                  · rw [if_neg e, if_neg (fun z => e (by rw [hx.1, ← z, y3])), hfree k hk k1, hfree _ y2 (by omega)]
                · rw [if_neg k1, if_neg (by omega), if_neg (by omega)]
            obtain ⟨t, t1, t2, t3⟩ := hsame
            rw [if_pos c]
            refine (zdom_e ?_).symm
            have hd := zfl_d (h := fun t => if f t = -1 then zM V d (q + 1) (upd f t (nI q)) else none) t1
            rw [if_pos t2] at hd
            exact zdom_k hd t3
        · rw [if_neg c, if_neg (fun z => c z.1)]
    exact hn 8 (Nat.le_refl 8)
/-- somebody is found -/
theorem zM_some {V : (Nat → Int32) → Int32 × Int32} : ∀ (d q : Nat) (f : Nat → Int32), q + d ≤ 8 → (∀ t, q ≤ t → t < 8 → f t = -1) → ∃ k, zky (zM V d q f) = some k
  | 0, q, f, _, _ => ⟨_, rfl⟩
  | d + 1, q, f, h, hf => by
    obtain ⟨k, hk⟩ := zM_some (V := V) d (q + 1) (upd f q (nI q)) (by omega) (fun t h1 h2 => (if_neg (by omega)).trans (hf t (by omega) h2))
    rw [zM]
    rcases zfl_k (fun t => if f t = -1 then zM V d (q + 1) (upd f t (nI q)) else none) 8 with ⟨h1, h2⟩ | ⟨k2, h1, h2⟩
    · have := h2 q (by omega)
      rw [if_pos (hf q (Nat.le_refl q) (by omega)), hk] at this
      exact absurd this (by simp)
    · exact ⟨k2, h1⟩
