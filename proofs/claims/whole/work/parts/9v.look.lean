/-! THE CALLS THAT ONLY LOOK: class and reference answer alike -/
def zkl (i : Nat) : Nat := [0, 1, 2, 3, 4, 8, 10].getD i 0
theorem zkd_t : ∀ i : Fin 7, ∀ j : Fin 7, ((if zkd (zkl i.val) (nI j.val) then zkn (zkl i.val) else -12) = (if nI j.val = nI 0 ∨ zkn (zkl i.val) = nI j.val ∨ (nI j.val = nI 1 ∧ zkn (zkl i.val) = nI 4) ∨ (nI j.val = nI 2 ∧ zkn (zkl i.val) = nI 5) ∨ (nI j.val = nI 3 ∧ zkn (zkl i.val) = nI 6) then zkn (zkl i.val) else -12)) := by decide +kernel
theorem zRl.kd {G : zG} {x : zX} {N R F : Nat} (h : zRl G x N R F) {q : Nat} (hq : q < N) : ∃ i : Fin 7, zk G (zob x q) = zkl i.val := by
  obtain ⟨⟨-, c1, c2, -⟩, -⟩ := h.pp.2.2 q hq
  rcases h.ok.2 _ c1 c2 with e | e | e | e | e | e | e
  · exact ⟨0, e⟩
  · exact ⟨1, e⟩
  · exact ⟨2, e⟩
  · exact ⟨3, e⟩
  · exact ⟨4, e⟩
  · exact ⟨5, e⟩
  · exact ⟨6, e⟩
theorem e_of {G : zG} {x u1 u2 : zX} {N R L : Nat} {q w : Int32} {r1 r2 : Int32} (H : zRl G x N R L)
    (h1 : x = u1 ∧ (if zin N q then zofN G x q.toNatClampNeg w else -1) = r1)
    (h2 : u1 = u2 ∧ (if zin N q then zofR u1 q.toNatClampNeg w else -1) = r2) : r1 = r2 ∧ x = u2 := by
  obtain ⟨rfl, rfl⟩ := h1
  obtain ⟨rfl, rfl⟩ := h2
  refine ⟨?_, rfl⟩
  by_cases hz : zin N q
  · rw [if_pos hz, if_pos hz]
    have h8 := H.sc.1
    obtain ⟨k, hk, rfl⟩ := z_ix hz.1 hz.2 (by omega)
    rw [nI_clamp (by omega)]
    obtain ⟨-, p0, p1, p2, p3, p4, -⟩ := H.pp.2.2 k hk
    obtain ⟨s8, -, s84, sse, -⟩ := H.st hk
    have ef : (if zbit (x.1 1 4) (nI k) then nI 1 else nI 0) = (if x.1 86 k = 0 then nI 0 else nI 1) := by
      have hb := H.sc.bit hk
      by_cases c : x.1 86 k = 0
      · rw [if_pos c, if_neg (fun z => hb.mp z c)]
      · rw [if_neg c, if_pos (hb.mpr c)]
    have h4 := (H.sc.2.1 _ (zxor8 s8)).1
    have h5 := (H.sc.2.2.2.1 k hk).1
    unfold zofN zofR
    rw [ef, sse, p0, p1, p2, p3, p4, h5, s84, h4]
  · rw [if_neg hz, if_neg hz]
theorem znmd {G : zG} {x : zX} {N R F : Nat} (H : zRl G x N R F) {q : Int32} (hq : ¬ q < 0) : zsum (fun k => if ¬ q < 0 ∧ x.1 5 k = q then 1 else 0) N = zsum (fun k => if x.1 83 k = q then 1 else 0) N := by
  refine zsum_c (fun k hk => ?_)
  rw [(H.sc.2.2.2.1 k hk).1]
  by_cases c : x.1 83 k = q
  · rw [if_pos ⟨hq, c⟩, if_pos c]
  · rw [if_neg (fun z => c z.2), if_neg c]
theorem e_named {G : zG} {x u1 u2 : zX} {N R L : Nat} {q : Int32} {r1 r2 : Int32} (H : zRl G x N R L)
    (h1 : x = u1 ∧ (if zin N q then zsum (fun k => if ¬ q < 0 ∧ x.1 5 k = q then 1 else 0) N else -1) = r1)
    (h2 : u1 = u2 ∧ (if zin N q then zsum (fun k => if u1.1 83 k = q then 1 else 0) N else -1) = r2) : r1 = r2 ∧ x = u2 := by
  obtain ⟨rfl, rfl⟩ := h1
  obtain ⟨rfl, rfl⟩ := h2
  refine ⟨?_, rfl⟩
  by_cases hz : zin N q
  · rw [if_pos hz, if_pos hz, znmd H hz.1]
  · rw [if_neg hz, if_neg hz]
theorem e_taken {G : zG} {x u1 u2 : zX} {N R L : Nat} {q w : Int32} {r1 r2 : Int32} (H : zRl G x N R L)
    (h1 : x = u1 ∧ ((¬ (¬ w < 0 ∧ ¬ nI 6 < w) ∧ -2 = r1) ∨ ((¬ w < 0 ∧ ¬ nI 6 < w) ∧ ¬ zin N q ∧ -11 = r1) ∨ ((¬ w < 0 ∧ ¬ nI 6 < w) ∧ ∃ kb, kb < N ∧ q = nI kb ∧ (if zkd (zk G (zob x kb)) w then zkn (zk G (zob x kb)) else -12) = r1)))
    (h2 : u1 = u2 ∧ ((¬ (¬ w < nI 0 ∧ ¬ nI 6 < w) ∧ -2 = r2) ∨ ((¬ w < nI 0 ∧ ¬ nI 6 < w) ∧ ¬ zin N q ∧ -11 = r2) ∨ ((¬ w < nI 0 ∧ ¬ nI 6 < w) ∧ ∃ kb, kb < N ∧ q = nI kb ∧ (if w = nI 0 ∨ u1.1 78 kb = w ∨ (w = nI 1 ∧ u1.1 78 kb = nI 4) ∨ (w = nI 2 ∧ u1.1 78 kb = nI 5) ∨ (w = nI 3 ∧ u1.1 78 kb = nI 6) then u1.1 78 kb else -12) = r2))) : r1 = r2 ∧ x = u2 := by
  obtain ⟨rfl, h1⟩ := h1
  obtain ⟨rfl, h2⟩ := h2
  refine ⟨?_, rfl⟩
  have h8 := H.sc.1
  rcases h1 with ⟨a1, rfl⟩ | ⟨a1, b1, rfl⟩ | ⟨a1, k, hk, rfl, rfl⟩
  · rcases h2 with ⟨a2, rfl⟩ | ⟨a2, -⟩ | ⟨a2, -⟩
    · rfl
    · exact absurd a2 a1
    · exact absurd a2 a1
  · rcases h2 with ⟨a2, -⟩ | ⟨a2, b2, rfl⟩ | ⟨a2, k, hk, rfl, -⟩
    · exact absurd a1 a2
    · rfl
    · exact absurd (zinI hk (by omega)) b1
  · rcases h2 with ⟨a2, -⟩ | ⟨a2, b2, -⟩ | ⟨a2, k2, hk2, e2, rfl⟩
    · exact absurd a1 a2
    · exact absurd (zinI hk (by omega)) b2
    · obtain rfl := (zqE (by omega) (by omega)).mp e2
      obtain ⟨j, hj, rfl⟩ := z_nat a1.1
      have hj7 : j < 7 := by
        have := a1.2
        rw [zqL (by decide) hj] at this
        omega
      obtain ⟨ki, hki⟩ := H.kd hk
      have ht := zkd_t ki ⟨j, hj7⟩
      rw [← hki] at ht
      have e0 := (H.pp.2.2 k hk).2.1
      rw [← e0]
      exact ht
theorem e_trace {G : zG} {x u1 u2 : zX} {N R L : Nat} {q : Int32} {r1 r2 : Int32} (H : zRl G x N R L)
    (h1 : x = u1 ∧ ((¬ (zin 20 q ∧ ¬ x.1 17 1 ≤ q) ∧ -1 = r1) ∨ (∃ kb, kb < 20 ∧ q = nI kb ∧ ¬ x.1 17 1 ≤ q ∧ x.1 18 kb = r1)))
    (h2 : u1 = u2 ∧ ((¬ (zin 20 q ∧ q < u1.1 77 45) ∧ -1 = r2) ∨ (∃ kb, kb < 20 ∧ q = nI kb ∧ q < u1.1 77 45 ∧ u1.1 107 kb = r2))) : r1 = r2 ∧ x = u2 := by
  obtain ⟨rfl, h1⟩ := h1
  obtain ⟨rfl, h2⟩ := h2
  refine ⟨?_, rfl⟩
  obtain ⟨n, hn, e1, e2, he⟩ := H.tc
  rw [e1] at h1
  rw [e2] at h2
  have hle : (¬ nI n ≤ q) ↔ q < nI n := ⟨z_le, z_nle2⟩
  rcases h1 with ⟨a1, rfl⟩ | ⟨k, hk, rfl, a1, rfl⟩
  · rcases h2 with ⟨a2, rfl⟩ | ⟨k, hk, rfl, a2, rfl⟩
    · rfl
    · exact absurd ⟨zinI hk (by decide), hle.mpr a2⟩ a1
  · rcases h2 with ⟨a2, rfl⟩ | ⟨k2, hk2, e3, a2, rfl⟩
    · exact absurd ⟨zinI hk (by decide), hle.mp a1⟩ a2
    · obtain rfl := (zqE (by omega) (by omega)).mp e3
      refine he k hk ?_
      rw [zqL (by omega) (by omega)] at a2
      exact a2
theorem e_count {G : zG} {x u1 u2 : zX} {N R L : Nat} {w : Int32} {r1 r2 : Int32} (H : zRl G x N R L)
    (h1 : x = u1 ∧ (if w = nI 0 then x.1 1 3 else if w = nI 1 then x.1 0 7 else if w = nI 2 then zlc (x.2.1 1 5) else if w = nI 3 then x.1 0 4 else if w = nI 4 then x.1 17 1 else -2) = r1)
    (h2 : u1 = u2 ∧ (if w = nI 0 then u1.1 77 0 else if w = nI 1 then u1.1 77 12 else if w = nI 2 then u1.1 77 1 else if w = nI 3 then u1.1 77 14 else if w = nI 4 then u1.1 77 45 else -2) = r2) : r1 = r2 ∧ x = u2 := by
  obtain ⟨rfl, rfl⟩ := h1
  obtain ⟨rfl, rfl⟩ := h2
  refine ⟨?_, rfl⟩
  obtain ⟨n, hn, e1, e2, he⟩ := H.tc
  rw [H.pp.1, H.pp.2.1, H.rq.2.1, H.rq.2.2.1, zlc_e, H.mo.2.2, H.rf.2.1, H.rf.2.2.1, e1, e2]
theorem zjud_c {b1 d1 b2 d2 : Nat → Prop} [DecidablePred b1] [DecidablePred d1] [DecidablePred b2] [DecidablePred d2] : ∀ (n p : Nat), (∀ k, p ≤ k → k < p + n → (b1 k ↔ b2 k) ∧ (¬ b1 k → (d1 k ↔ d2 k))) → zjud b1 d1 p n = zjud b2 d2 p n
  | 0, _, _ => rfl
  | n + 1, p, h => by
    obtain ⟨h1, h2⟩ := h p (by omega) (by omega)
    rw [zjud, zjud, zjud_c n (p + 1) (fun k h3 h4 => h k (by omega) (by omega))]
    by_cases c : b1 p
    · rw [if_pos c, if_pos (h1.mp c)]
    · rw [if_neg c, if_neg (fun z => c (h1.mpr z))]
      by_cases d : d1 p
      · rw [if_pos d, if_pos ((h2 c).mp d)]
      · rw [if_neg d, if_neg (fun z => d ((h2 c).mpr z))]
theorem e_judge {G : zG} {x u1 u2 : zX} {N R L : Nat} {t0 i : Int32} {r1 r2 : Int32} (H : zRl G x N R L)
    (h1 : x = u1 ∧ (if zin 6 t0 then (if ¬ x.1 26 t0.toNatClampNeg = -1 ∧ ¬ x.1 26 t0.toNatClampNeg = nI 1 then -12 else zjud (zjb x t0.toNatClampNeg i) (zjd x t0.toNatClampNeg i) 0 N) else -1) = r1)
    (h2 : u1 = u2 ∧ (if zin 6 t0 then (if ¬ u1.1 108 t0.toNatClampNeg < 0 ∧ ¬ u1.1 108 t0.toNatClampNeg = nI 1 then -12 else zjud (zjbR u1 t0.toNatClampNeg i) (zjdR u1 t0.toNatClampNeg i) 0 N) else -1) = r2) : r1 = r2 ∧ x = u2 := by
  obtain ⟨rfl, rfl⟩ := h1
  obtain ⟨rfl, rfl⟩ := h2
  refine ⟨?_, rfl⟩
  by_cases hz : zin 6 t0
  · rw [if_pos hz, if_pos hz]
    obtain ⟨t, ht, rfl⟩ := z_ix hz.1 hz.2 (by decide)
    rw [nI_clamp (by omega)]
    have hm := zRt_m H.rt ht
    have hs := zRt_z H.rt ht
    obtain ⟨e1, -, -, e3, e4⟩ := H.rt.2.2 t ht
    have h6 := (H.rt.1 t ht).2
    have hc : (¬ x.1 26 t = -1 ∧ ¬ x.1 26 t = nI 1) ↔ (¬ x.1 108 t < 0 ∧ ¬ x.1 108 t = nI 1) := by rw [hm, e1]
    have hj : zjud (zjb x t i) (zjd x t i) 0 N = zjud (zjbR x t i) (zjdR x t i) 0 N := by
      refine zjud_c N 0 (fun p _ hp => ?_)
      have hp2 : p < N := by omega
      have hb : (¬ i < 0 ∧ i.toNatClampNeg + p < zsz x t) ↔ (¬ x.1 108 t < 0 ∧ ¬ i < 0 ∧ i.toNatClampNeg + p < zszR x t) := by
        constructor
        · intro z
          exact ⟨zRt_s H.rt ht z.2, z.1, by rw [← hs]; exact z.2⟩
        · intro z
          exact ⟨z.2.1, by rw [hs]; exact z.2.2⟩
      refine ⟨not_congr hb, fun nb => ?_⟩
      have nb2 := Classical.not_not.mp nb
      show ¬ x.2.1 (20 + t) (i.toNatClampNeg + p) = (zfind (x.1 4) (nI p) 0 8).toInt64 ↔ ¬ x.2.1 110 (60 * t + (i.toNatClampNeg + p)) = (x.1 84 p).toInt64
      rw [e4 _ (by omega), (H.st hp2).2.1, (H.st hp2).2.2.1]
    by_cases c : (¬ x.1 26 t = -1 ∧ ¬ x.1 26 t = nI 1)
    · rw [if_pos c, if_pos (hc.mp c)]
    · rw [if_neg c, if_neg (fun z => c (hc.mpr z)), hj]
  · rw [if_neg hz, if_neg hz]
theorem z01 {v : Int32} : (v = 0 ∨ v = nI 1) ↔ (¬ v < nI 0 ∧ ¬ nI 1 < v) := by
  constructor
  · intro h
    rcases h with rfl | rfl <;> decide
  · intro h
    obtain ⟨k, hk, rfl⟩ := z_nat h.1
    have h2 := h.2
    rw [zqL (by decide) hk] at h2
    have : k = 0 ∨ k = 1 := by omega
    rcases this with rfl | rfl
    · exact Or.inl rfl
    · exact Or.inr rfl
theorem zbo_u : ∀ a b c d : Fin 8, ¬ a = b → ¬ c = d → (zic (zpb (10 * a.val + b.val) &&& zpb (10 * c.val + d.val)) = nI 1 ↔ zpop 8 (zpq (10 * a.val + b.val) (10 * c.val + d.val)) = 3) ∧ (zic (zpb (10 * a.val + b.val) &&& zpb (10 * c.val + d.val)) = nI 2 ↔ zpop 8 (zpq (10 * a.val + b.val) (10 * c.val + d.val)) = 2) := by decide +kernel
theorem zpr_x {N : Nat} {v : Int32} (h8 : N ≤ 8) (h : zpr N v) : ∃ a b : Fin 8, v.toNatClampNeg = 10 * a.val + b.val ∧ ¬ a = b := by
  obtain ⟨-, h1, h2, h3⟩ := h
  exact ⟨⟨v.toNatClampNeg / 10, by omega⟩, ⟨v.toNatClampNeg % 10, by omega⟩, by dsimp only; omega, fun z => h3 (congrArg Fin.val z)⟩
theorem e_both {G : zG} {x u1 u2 : zX} {N R L : Nat} {a b pt : Int32} {r1 r2 : Int64} (H : zRl G x N R L)
    (h1 : x = u1 ∧ (if (zpr N a ∧ zpr N b) ∧ (pt = 0 ∨ pt = nI 1) then (if zic (zpb a.toNatClampNeg &&& zpb b.toNatClampNeg) = nI 1 then pt.toInt64 else if pt = 0 then 1 else if zic (zpb a.toNatClampNeg &&& zpb b.toNatClampNeg) = nI 2 then 7 else 35) else -9223372036854775808) = r1)
    (h2 : u1 = u2 ∧ (if (zpr N a ∧ zpr N b) ∧ (¬ pt < nI 0 ∧ ¬ nI 1 < pt) then (if pt = 0 then (if zpop 8 (zpq a.toNatClampNeg b.toNatClampNeg) = 3 then 0 else 1) else if zpop 8 (zpq a.toNatClampNeg b.toNatClampNeg) = 2 then 7 else if zpop 8 (zpq a.toNatClampNeg b.toNatClampNeg) = 3 then 1 else 35) else -9223372036854775808) = r2) : r1 = r2 ∧ x = u2 := by
  obtain ⟨rfl, rfl⟩ := h1
  obtain ⟨rfl, rfl⟩ := h2
  refine ⟨?_, rfl⟩
  have hpt : (pt = 0 ∨ pt = nI 1) ↔ (¬ pt < nI 0 ∧ ¬ nI 1 < pt) := z01
  by_cases hc : (zpr N a ∧ zpr N b) ∧ (pt = 0 ∨ pt = nI 1)
  · have hc2 : (zpr N a ∧ zpr N b) ∧ (¬ pt < nI 0 ∧ ¬ nI 1 < pt) := ⟨hc.1, hpt.mp hc.2⟩
    rw [if_pos hc, if_pos hc2]
    obtain ⟨a1, a2, ea, na⟩ := zpr_x H.sc.1 hc.1.1
    obtain ⟨b1, b2, eb, nb⟩ := zpr_x H.sc.1 hc.1.2
    rw [ea, eb]
    obtain ⟨t3, t2⟩ := zbo_u a1 a2 b1 b2 na nb
    rcases hc.2 with e | e
    · rw [if_pos e, if_pos e, e]
      by_cases c3 : zpop 8 (zpq (10 * a1.val + a2.val) (10 * b1.val + b2.val)) = 3
      · rw [if_pos (t3.mpr c3), if_pos c3]
        rfl
      · rw [if_neg (fun z => c3 (t3.mp z)), if_neg c3]
    · have ne : ¬ pt = 0 := by rw [e]; decide
      rw [if_neg ne, if_neg ne, e]
      by_cases c3 : zpop 8 (zpq (10 * a1.val + a2.val) (10 * b1.val + b2.val)) = 3
      · rw [if_pos (t3.mpr c3), if_neg (by omega), if_pos c3]
        rfl
      · rw [if_neg (fun z => c3 (t3.mp z))]
        by_cases c2 : zpop 8 (zpq (10 * a1.val + a2.val) (10 * b1.val + b2.val)) = 2
        · rw [if_pos (t2.mpr c2), if_pos c2]
        · rw [if_neg (fun z => c2 (t2.mp z)), if_neg c2, if_neg c3]
  · rw [if_neg hc, if_neg (show ¬ ((zpr N a ∧ zpr N b) ∧ (¬ pt < nI 0 ∧ ¬ nI 1 < pt)) from fun z => hc ⟨z.1, hpt.mpr z.2⟩)]
