/-! READING A CLAUSE: class and reference read alike -/
section
variable {T : Nat → Int32} {F : Nat}
/-- an E of a clause -/
theorem zcE_e (hF : F ≤ 100) (hT : zTe T F) (hB : ∀ k, zby1 (T k)) {y : zX} {c p s n : Nat} {o d : Int32} {w4 w5 : Nat → Int32} {cs : List Int32} (hp : p ≤ F) (hcs : cs.length ≤ p) :
    ((zEi (zPa T 4) T p cs).1 = true ∧ ∃ (l : List Int32) (d1 : Int32) (v4 v5 : Nat → Int32), (zEi (zPa T 4) T p cs).2.2 = cs ++ l ∧ l.length + p + 1 ≤ (zEi (zPa T 4) T p cs).2.1 ∧ (zEi (zPa T 4) T p cs).2.1 ≤ F ∧ zSeg 11 l ∧ (∀ v, v ∈ l → zcdO v) ∧ (∀ j, j < s → v4 j = w4 j) ∧ (∀ i, i < l.length → v4 (s + i) = zfi (l.getD i 0)) ∧
      zrCE y T F c p s n o d w4 w5 = (true, zsI (zsI y 92 c (nI s)) 93 c (nI (s + l.length)), (zEi (zPa T 4) T p cs).2.1, s + l.length, 0, nI 0, d1, v4, v5)) ∨
    ((zEi (zPa T 4) T p cs).1 = false ∧ (zrCE y T F c p s n o d w4 w5).1 = false ∧ (zrCE y T F c p s n o d w4 w5).2.2.1 = (zEi (zPa T 4) T p cs).2.1) := by
  have hP := zPa_e hF hT hB 4 (Nat.le_refl 4)
  rcases zEi_e (hp := 9) (by omega) hF hT hP (g := F + 1 - p) (p := p) (s := s) (n := 0) (d := d) (w4 := w4) (w5 := w5) (tv := y.1 93 c) (cs := cs) (by omega) hp (Or.inl rfl) hcs with ⟨r1, ⟨rs1, rs2⟩, m, k1, g3, d3, u4, u5, t3, k2, k3, k4, k5, k6, k7, k8, k9, k10⟩ | ⟨r1, r2, r3⟩
  · obtain ⟨g4, rfl⟩ : ∃ m, g3 = m + 1 := ⟨g3 - 1, by omega⟩
    have ef : zrE T (F + 1 - p) true p s 0 (nI 0) d w4 w5 (y.1 93 c) = (true, nI (s + m.length), (zEi (zPa T 4) T p cs).2.1, s + m.length, 0, nI 0, d3, u4, u5) := by
      have hz : zsl u5 (nI 124) 0 (s + m.length) u4 = (s + m.length, 0, u4) := rfl
      refine k10.trans ?_
      rw [zrE, if_neg (fun z => z.elim rs1 rs2), hz, if_pos rfl]
    refine Or.inl ⟨r1, m, d3, u4, u5, k1, k2, k3, k5, k6, k7, k8, ?_⟩
    unfold zrCE
    rw [ef]
  · exact Or.inr ⟨r1, r2, r3⟩
theorem zwm_m {l : Nat → Int32} {i p : Nat} : ∀ n, (∀ k, k < n → l k = (zSbyt.getD i []).getD k 0) → zmt T l p n = zwm T i p n
  | 0, _ => rfl
  | n + 1, h => by
    rw [zmt, zwm, zwm_m n (fun k hk => h k (by omega)), h n (by omega)]
theorem zlet_t : ∀ w : Fin 4, zSlen.getD (zsp (nI w.val)) 0 = zrhm (nI w.val) ∧ zrhm (nI w.val) ≤ 5 ∧ 3 ≤ zrhm (nI w.val) ∧ zrhf (nI w.val) + zrhm (nI w.val) ≤ 16 ∧ ∀ k : Fin 5, k.val < zrhm (nI w.val) → zx1 96 (zrhf (nI w.val) + k.val) = (zSbyt.getD (zsp (nI w.val)) []).getD k.val 0 := by decide +kernel
/-- the word, in both -/
theorem zhd_e {y : zX} {p : Nat} (hL : ∀ k, k < 16 → y.1 96 k = zx1 96 k) : (zwa2 T p < 0 ∧ zrH y T p = (false, p)) ∨ (∃ w, w < 4 ∧ zwa2 T p = nI w ∧ zrhw T p = nI w ∧ ((zwm T (zsp (nI w)) p (zSlen.getD (zsp (nI w)) 0) = zSlen.getD (zsp (nI w)) 0 ∧ zrH y T p = (if T (p + zSlen.getD (zsp (nI w)) 0) = nI 32 then (true, p + zSlen.getD (zsp (nI w)) 0 + 1) else (false, p + zSlen.getD (zsp (nI w)) 0))) ∨ (¬ zwm T (zsp (nI w)) p (zSlen.getD (zsp (nI w)) 0) = zSlen.getD (zsp (nI w)) 0 ∧ zrH y T p = (false, p + zwm T (zsp (nI w)) p (zSlen.getD (zsp (nI w)) 0))))) := by
  have hword : ∀ w, w < 4 → zrhw T p = nI w → ((zwm T (zsp (nI w)) p (zSlen.getD (zsp (nI w)) 0) = zSlen.getD (zsp (nI w)) 0 ∧ zrH y T p = (if T (p + zSlen.getD (zsp (nI w)) 0) = nI 32 then (true, p + zSlen.getD (zsp (nI w)) 0 + 1) else (false, p + zSlen.getD (zsp (nI w)) 0))) ∨ (¬ zwm T (zsp (nI w)) p (zSlen.getD (zsp (nI w)) 0) = zSlen.getD (zsp (nI w)) 0 ∧ zrH y T p = (false, p + zwm T (zsp (nI w)) p (zSlen.getD (zsp (nI w)) 0)))) := fun w hw e => by
    obtain ⟨t1, t2, t3, t4, t5⟩ := zlet_t ⟨w, hw⟩
    dsimp only at t1 t2 t3 t4 t5
    have em : zmt T (fun k => y.1 96 (zrhf (nI w) + k)) p (zrhm (nI w)) = zwm T (zsp (nI w)) p (zrhm (nI w)) := zwm_m _ (fun k hk => by
      rw [hL _ (by omega)]
      exact t5 ⟨k, by omega⟩ hk)
    unfold zrH zrw
    rw [e, em, t1]
    by_cases c : zwm T (zsp (nI w)) p (zrhm (nI w)) = zrhm (nI w)
    · exact Or.inl ⟨c, if_pos c⟩
    · exact Or.inr ⟨c, if_neg c⟩
  by_cases c1 : T p = nI 98
  · have e1 : zwa2 T p = nI 2 := if_pos c1
    have e2 : zrhw T p = nI 2 := if_pos c1
    exact Or.inr ⟨2, by omega, e1, e2, hword 2 (by omega) e2⟩
  · by_cases c2 : T p = nI 104
    · have e1 : zwa2 T p = nI 3 := (if_neg c1).trans (if_pos c2)
      have e2 : zrhw T p = nI 3 := (if_neg c1).trans (if_neg (by rw [c2]; decide))
      exact Or.inr ⟨3, by omega, e1, e2, hword 3 (by omega) e2⟩
    · by_cases c3 : T p = nI 108
      · by_cases c4 : T (p + 1) = nI 111
        · have e1 : zwa2 T p = nI 1 := (if_neg c1).trans ((if_neg c2).trans ((if_pos c3).trans (if_pos c4)))
          have e2 : zrhw T p = nI 1 := (if_neg c1).trans ((if_pos c3).trans (if_pos c4))
          exact Or.inr ⟨1, by omega, e1, e2, hword 1 (by omega) e2⟩
        · have e1 : zwa2 T p = nI 0 := (if_neg c1).trans ((if_neg c2).trans ((if_pos c3).trans (if_neg c4)))
          have e2 : zrhw T p = nI 0 := (if_neg c1).trans ((if_pos c3).trans (if_neg c4))
          exact Or.inr ⟨0, by omega, e1, e2, hword 0 (by omega) e2⟩
      · have e1 : zwa2 T p = -1 := (if_neg c1).trans ((if_neg c2).trans (if_neg c3))
        have e2 : zrhw T p = nI 3 := (if_neg c1).trans (if_neg c3)
        refine Or.inl ⟨by rw [e1]; decide, ?_⟩
        have e3 : zmt T (fun k => y.1 96 (zrhf (nI 3) + k)) p (zrhm (nI 3)) = 0 := zmt_x (k := 0) (T := T) (l := fun k => y.1 96 (zrhf (nI 3) + k)) rfl (by
          show ¬ T (p + 0) = y.1 96 (zrhf (nI 3) + 0)
          rw [hL _ (by decide), Nat.add_zero]
          exact c2) 3
        unfold zrH zrw
        rw [e2, e3, if_neg (by decide)]
        rfl
/-- what a clause comes to -/
def zCo (F : Nat) (y : zX) (c p s : Nat) (w4 : Nat → Int32) (q : zCR) (cs : List Int32) (R : Bool × zX × zRS) : Prop :=
  (∃ (w : Nat) (a : Int32) (l : List Int32), w < 4 ∧ q.1 = some (nI w, a) ∧ q.2.2 = cs ++ l ∧ l.length + p + 1 ≤ q.2.1 ∧ q.2.1 ≤ F ∧ (¬ w = 3 → zSeg 11 l) ∧ (∀ v, v ∈ l → zcdO v) ∧ (w = 2 → a = nI 1) ∧ (¬ w = 2 → ∃ j, j < 100 ∧ a = nI j) ∧ R.1 = true ∧ R.2.2.1 = q.2.1 ∧ R.2.2.2.1 = s + l.length ∧ (∀ j, j < s → R.2.2.2.2.2.2.2.1 j = w4 j) ∧ (∀ i, i < l.length → R.2.2.2.2.2.2.2.1 (s + i) = zfi (l.getD i 0)) ∧ R.2.1.1 90 c = nI w ∧ (¬ w = 2 → R.2.1.1 91 c = a) ∧ (¬ w = 3 → R.2.1.1 92 c = nI s ∧ R.2.1.1 93 c = nI (s + l.length))) ∨
  (q.1 = none ∧ R.1 = false ∧ R.2.2.1 = q.2.1)
theorem zrC_k {y : zX} {c p s n : Nat} {o d : Int32} {w4 w5 : Nat → Int32} : (∀ i k, ¬ k = c → (zrC y T F c p s n o d w4 w5).2.1.1 i k = y.1 i k) ∧ (zrC y T F c p s n o d w4 w5).2.1.2 = y.2 := by
  have hs : ∀ (x : zX) (j : Nat) (v : Int32) (i k : Nat), ¬ k = c → (zsI x j c v).1 i k = x.1 i k := fun x j v i k hk => by
    by_cases e : i = j
    · rw [e, zsI_u]
      exact if_neg hk
    · rw [zsI_n e]
  have hE : ∀ (x : zX) (p s n : Nat) (o d : Int32) (w4 w5 : Nat → Int32), (∀ i k, ¬ k = c → (zrCE x T F c p s n o d w4 w5).2.1.1 i k = x.1 i k) ∧ (zrCE x T F c p s n o d w4 w5).2.1.2 = x.2 := fun x p s n o d w4 w5 => ⟨fun i k hk => by
    show (zsI (zsI x 92 c (nI s)) 93 c _).1 i k = _
    rw [hs _ _ _ _ _ hk, hs _ _ _ _ _ hk], rfl⟩
  unfold zrC
  split
  · split
    · exact ⟨fun i k hk => by rw [(hE _ _ _ _ _ _ _ _).1 i k hk, hs _ _ _ _ _ hk], (hE _ _ _ _ _ _ _ _).2⟩
    · split
      · split
        · exact ⟨fun i k hk => by
            show (zsI (zsI y 90 c _) 91 c _).1 i k = _
            rw [hs _ _ _ _ _ hk, hs _ _ _ _ _ hk], rfl⟩
        · split
          · exact ⟨fun i k hk => by rw [(hE _ _ _ _ _ _ _ _).1 i k hk, hs _ _ _ _ _ hk, hs _ _ _ _ _ hk], (hE _ _ _ _ _ _ _ _).2⟩
          · exact ⟨fun i k hk => by
              show (zsI (zsI y 90 c _) 91 c _).1 i k = _
              rw [hs _ _ _ _ _ hk, hs _ _ _ _ _ hk], rfl⟩
      · exact ⟨fun i k hk => hs _ _ _ _ _ hk, rfl⟩
  · exact ⟨fun i k hk => hs _ _ _ _ _ hk, rfl⟩
/-- a clause, in both -/
theorem zcla_e (hF : F ≤ 100) (hT : zTe T F) (hB : ∀ k, zby1 (T k)) {y : zX} {c p s n : Nat} {o d : Int32} {w4 w5 : Nat → Int32} {cs : List Int32} (hL : ∀ k, k < 16 → y.1 96 k = zx1 96 k) (hp : p ≤ F) (hcs : cs.length ≤ p) : zCo F y c p s w4 (zcla T p cs) cs (zrC y T F c p s n o d w4 w5) := by
  have h32 : ¬ (nI 32 : Int32) = -1 := by decide
  rcases zhd_e (T := T) (p := p) hL with ⟨h1, h2⟩ | ⟨w, hw, h1, h2, h3⟩
  · have eq : zcla T p cs = (none, p, cs) := by
      unfold zcla
      rw [if_pos h1]
    have er : zrC y T F c p s n o d w4 w5 = (false, zsI y 90 c (zrhw T p), p, s, n, o, d, w4, w5) := by
      unfold zrC
      rw [h2, if_neg (show ¬ false = true by decide)]
    rw [eq, er]
    exact Or.inr ⟨rfl, rfl, rfl⟩
  · have hw0 : ¬ nI w < 0 := nI_pos (by omega)
    have hwE : ∀ k, k < 4 → (nI w = nI k ↔ w = k) := fun k hk => zqE (by omega) (by omega)
    have e0 : zcla T p cs = (if (zwd T (zsp (nI w)) p cs).1 = true then (if (zam T (nI w) (zwd T (zsp (nI w)) p cs).2.1).1 < 0 then (none, (zam T (nI w) (zwd T (zsp (nI w)) p cs).2.1).2, cs) else zcl2 T (nI w) (zam T (nI w) (zwd T (zsp (nI w)) p cs).2.1).1 (zam T (nI w) (zwd T (zsp (nI w)) p cs).2.1).2 cs) else (none, (zwd T (zsp (nI w)) p cs).2)) := by
      unfold zcla
      rw [h1, if_neg hw0]
    rcases h3 with ⟨hm, h3⟩ | ⟨hm, h3⟩
    · have ewd : zwd T (zsp (nI w)) p cs = (true, p + zSlen.getD (zsp (nI w)) 0, cs) := by
        unfold zwd
        rw [hm, decide_eq_true rfl]
      have hlen := (zlet_t ⟨w, hw⟩)
      have hlen3 : 3 ≤ zSlen.getD (zsp (nI w)) 0 := by
        have := hlen.1
        have := hlen.2.2.1
        dsimp only at *
        omega
      rw [ewd, if_pos rfl] at e0
      generalize hp1 : p + zSlen.getD (zsp (nI w)) 0 = p1 at *
      have hp1F : p1 ≤ F := by
        have := (zwd_in (cs := cs) hT (zsp_6 (nI w)) hp (by omega)).1
        rw [ewd] at this
        exact this
      by_cases w2 : w = 2
      · subst w2
        have ea : zam T (nI 2) p1 = (nI 1, p1) := if_pos rfl
        rw [show (true, p1, cs).2.1 = p1 from rfl, ea, if_neg (show ¬ nI 1 < 0 from by decide)] at e0
        by_cases cq : T p1 = nI 32
        · have hlt : p1 < F := zE_lt hT (fun z => h32 (cq.symm.trans z))
          rw [if_pos cq] at h3
          have et : ztke T (nI 32) p1 cs = (true, p1 + 1, cs) := if_pos cq
          have e1 : zcla T p cs = (if (zEi (zPa T 4) T (p1 + 1) cs).1 = true then (some (nI 2, nI 1), (zEi (zPa T 4) T (p1 + 1) cs).2) else (none, (zEi (zPa T 4) T (p1 + 1) cs).2)) := by
            rw [e0]
            unfold zcl2
            rw [if_neg (by decide), et, if_pos rfl]
          have er : zrC y T F c p s n o d w4 w5 = zrCE (zsI y 90 c (nI 2)) T F c (p1 + 1) s n o d w4 w5 := by
            unfold zrC
            rw [h3, if_pos rfl, h2, if_pos rfl]
          rcases zcE_e hF hT hB (y := zsI y 90 c (nI 2)) (c := c) (p := p1 + 1) (s := s) (n := n) (o := o) (d := d) (w4 := w4) (w5 := w5) (cs := cs) (by omega) (by omega) with ⟨r1, l, d1, v4, v5, k1, k2, k3, k4, k5, k6, k7, k8⟩ | ⟨r1, r2, r3⟩
          · rw [e1, if_pos r1, er, k8]
            refine Or.inl ⟨2, nI 1, l, by omega, rfl, k1, ?_, k3, fun _ => k4, k5, fun _ => rfl, fun z => absurd rfl z, rfl, rfl, rfl, k6, k7, ?_, fun z => absurd rfl z, fun _ => ⟨?_, ?_⟩⟩
            · show l.length + p + 1 ≤ (zEi (zPa T 4) T (p1 + 1) cs).2.1
              omega
            · show (zsI (zsI (zsI y 90 c (nI 2)) 92 c (nI s)) 93 c (nI (s + l.length))).1 90 c = nI 2
              rw [zsI_n (by omega), zsI_n (by omega), zsI_u]
              exact if_pos rfl
            · show (zsI (zsI (zsI y 90 c (nI 2)) 92 c (nI s)) 93 c (nI (s + l.length))).1 92 c = nI s
              rw [zsI_n (by omega), zsI_u]
              exact if_pos rfl
            · show (zsI (zsI (zsI y 90 c (nI 2)) 92 c (nI s)) 93 c (nI (s + l.length))).1 93 c = _
              rw [zsI_u]
              exact if_pos rfl
          · rw [e1, if_neg (by rw [r1]; decide), er]
            exact Or.inr ⟨rfl, r2, r3⟩
        · rw [if_neg cq] at h3
          have et : ztke T (nI 32) p1 cs = (false, p1, cs) := if_neg cq
          have e1 : zcla T p cs = (none, p1, cs) := by
            rw [e0]
            unfold zcl2
            rw [if_neg (by decide), et, if_neg (show ¬ (false, p1, cs).1 = true from fun z => absurd (show false = true from z) (by decide))]
          have er : zrC y T F c p s n o d w4 w5 = (false, zsI y 90 c (zrhw T p), p1, s, n, o, d, w4, w5) := by
            unfold zrC
            rw [h3, if_neg (show ¬ (false, p1).1 = true from fun z => absurd (show false = true from z) (by decide))]
          rw [e1, er]
          exact Or.inr ⟨rfl, rfl, rfl⟩
      · have nw2 : ¬ nI w = nI 2 := fun z => w2 ((hwE 2 (by omega)).mp z)
        by_cases cq : T p1 = nI 32
        · have hlt : p1 < F := zE_lt hT (fun z => h32 (cq.symm.trans z))
          rw [if_pos cq] at h3
          have ea : zam T (nI w) p1 = znum T (p1 + 1) := (if_neg nw2).trans (if_pos cq)
          rw [show (true, p1, cs).2.1 = p1 from rfl, ea] at e0
          have erC : zrC y T F c p s n o d w4 w5 = (if (znuR T (p1 + 1) d).1 = true then (if nI w = nI 3 then (true, zsI (zsI y 90 c (nI w)) 91 c (znuR T (p1 + 1) d).2.2, (znuR T (p1 + 1) d).2.1, s, n, o, (znuR T (p1 + 1) d).2.2, w4, w5)
              else if T (znuR T (p1 + 1) d).2.1 = nI 32 then zrCE (zsI (zsI y 90 c (nI w)) 91 c (znuR T (p1 + 1) d).2.2) T F c ((znuR T (p1 + 1) d).2.1 + 1) s n o (znuR T (p1 + 1) d).2.2 w4 w5
              else (false, zsI (zsI y 90 c (nI w)) 91 c (znuR T (p1 + 1) d).2.2, (znuR T (p1 + 1) d).2.1, s, n, o, (znuR T (p1 + 1) d).2.2, w4, w5)) else (false, zsI y 90 c (nI w), p1 + 1, s, n, o, d, w4, w5)) := by
            unfold zrC
            rw [h3, if_pos rfl, h2, if_neg nw2]
          rcases znum_e (T := T) (p := p1 + 1) (d := d) hB with ⟨n1, n2, n3, n4, n5, n6, j, hj, n7⟩ | ⟨n1, n2, n3, n4⟩
          · have hle : (znum T (p1 + 1)).2 ≤ F := znum_in hT (by omega)
            rw [if_neg n2] at e0
            rw [if_pos n1, n3, n4] at erC
            generalize hp2 : (znum T (p1 + 1)).2 = p2 at *
            generalize hav : (znum T (p1 + 1)).1 = a at *
            by_cases w3 : w = 3
            · subst w3
              have e1 : zcla T p cs = (some (nI 3, a), p2, cs) := by
                rw [e0]
                unfold zcl2
                rw [if_pos rfl]
              rw [if_pos rfl] at erC
              rw [e1, erC]
              refine Or.inl ⟨3, a, [], by omega, rfl, (List.append_nil cs).symm, ?_, hle, fun z => absurd rfl z, fun v hv => absurd hv (by simp), fun z => absurd z (by omega), fun _ => ⟨j, hj, n7⟩, rfl, rfl, rfl, fun _ _ => rfl, fun i hi => absurd hi (by simp), ?_, fun _ => ?_, fun z => absurd rfl z⟩
              · show 0 + p + 1 ≤ p2
                omega
              · show (zsI (zsI y 90 c (nI 3)) 91 c a).1 90 c = nI 3
                rw [zsI_n (by omega), zsI_u]
                exact if_pos rfl
              · show (zsI (zsI y 90 c (nI 3)) 91 c a).1 91 c = a
                rw [zsI_u]
                exact if_pos rfl
            · have nw3 : ¬ nI w = nI 3 := fun z => w3 ((hwE 3 (by omega)).mp z)
              rw [if_neg nw3] at erC
              by_cases c2 : T p2 = nI 32
              · have hlt2 : p2 < F := zE_lt hT (fun z => h32 (c2.symm.trans z))
                have et : ztke T (nI 32) p2 cs = (true, p2 + 1, cs) := if_pos c2
                have e1 : zcla T p cs = (if (zEi (zPa T 4) T (p2 + 1) cs).1 = true then (some (nI w, a), (zEi (zPa T 4) T (p2 + 1) cs).2) else (none, (zEi (zPa T 4) T (p2 + 1) cs).2)) := by
                  rw [e0]
                  unfold zcl2
                  rw [if_neg nw3, et, if_pos rfl]
                rw [if_pos c2] at erC
                rcases zcE_e hF hT hB (y := zsI (zsI y 90 c (nI w)) 91 c a) (c := c) (p := p2 + 1) (s := s) (n := n) (o := o) (d := a) (w4 := w4) (w5 := w5) (cs := cs) (by omega) (by omega) with ⟨r1, l, d1, v4, v5, k1, k2, k3, k4, k5, k6, k7, k8⟩ | ⟨r1, r2, r3⟩
                · rw [e1, if_pos r1, erC, k8]
                  refine Or.inl ⟨w, a, l, hw, rfl, k1, ?_, k3, fun _ => k4, k5, fun z => absurd z w2, fun _ => ⟨j, hj, n7⟩, rfl, rfl, rfl, k6, k7, ?_, fun _ => ?_, fun _ => ⟨?_, ?_⟩⟩
                  · show l.length + p + 1 ≤ (zEi (zPa T 4) T (p2 + 1) cs).2.1
                    omega
                  · show (zsI (zsI (zsI (zsI y 90 c (nI w)) 91 c a) 92 c (nI s)) 93 c (nI (s + l.length))).1 90 c = nI w
                    rw [zsI_n (by omega), zsI_n (by omega), zsI_n (by omega), zsI_u]
                    exact if_pos rfl
                  · show (zsI (zsI (zsI (zsI y 90 c (nI w)) 91 c a) 92 c (nI s)) 93 c (nI (s + l.length))).1 91 c = a
                    rw [zsI_n (by omega), zsI_n (by omega), zsI_u]
                    exact if_pos rfl
                  · show (zsI (zsI (zsI (zsI y 90 c (nI w)) 91 c a) 92 c (nI s)) 93 c (nI (s + l.length))).1 92 c = nI s
                    rw [zsI_n (by omega), zsI_u]
                    exact if_pos rfl
                  · show (zsI (zsI (zsI (zsI y 90 c (nI w)) 91 c a) 92 c (nI s)) 93 c (nI (s + l.length))).1 93 c = _
                    rw [zsI_u]
                    exact if_pos rfl
                · rw [e1, if_neg (by rw [r1]; decide), erC]
                  exact Or.inr ⟨rfl, r2, r3⟩
              · have et : ztke T (nI 32) p2 cs = (false, p2, cs) := if_neg c2
                have e1 : zcla T p cs = (none, p2, cs) := by
                  rw [e0]
                  unfold zcl2
                  rw [if_neg nw3, et, if_neg (show ¬ (false, p2, cs).1 = true from fun z => absurd (show false = true from z) (by decide))]
                rw [if_neg c2] at erC
                rw [e1, erC]
                exact Or.inr ⟨rfl, rfl, rfl⟩
          · rw [if_pos n2, n3] at e0
            rw [if_neg (by rw [n1]; decide)] at erC
            rw [e0, erC]
            exact Or.inr ⟨rfl, rfl, rfl⟩
        · rw [if_neg cq] at h3
          have ea : zam T (nI w) p1 = (-1, p1) := (if_neg nw2).trans (if_neg cq)
          rw [show (true, p1, cs).2.1 = p1 from rfl, ea, if_pos (show (-1 : Int32) < 0 from by decide)] at e0
          have er : zrC y T F c p s n o d w4 w5 = (false, zsI y 90 c (zrhw T p), p1, s, n, o, d, w4, w5) := by
            unfold zrC
            rw [h3, if_neg (show ¬ (false, p1).1 = true from fun z => absurd (show false = true from z) (by decide))]
          rw [e0, er]
          exact Or.inr ⟨rfl, rfl, rfl⟩
    · have ewd : zwd T (zsp (nI w)) p cs = (false, p + zwm T (zsp (nI w)) p (zSlen.getD (zsp (nI w)) 0), cs) := by
        unfold zwd
        rw [decide_eq_false hm]
      rw [ewd, if_neg (show ¬ (false, p + zwm T (zsp (nI w)) p (zSlen.getD (zsp (nI w)) 0), cs).1 = true from fun z => absurd (show false = true from z) (by decide))] at e0
      have er : zrC y T F c p s n o d w4 w5 = (false, zsI y 90 c (zrhw T p), p + zwm T (zsp (nI w)) p (zSlen.getD (zsp (nI w)) 0), s, n, o, d, w4, w5) := by
        unfold zrC
        rw [h3, if_neg (show ¬ (false, p + zwm T (zsp (nI w)) p (zSlen.getD (zsp (nI w)) 0)).1 = true from fun z => absurd (show false = true from z) (by decide))]
      rw [e0, er]
      exact Or.inr ⟨rfl, rfl, rfl⟩
end
