/-! WHAT THE CLASS'S STEP LEAVES: the reference's cells; the calls over tapes and text -/
def zKs (x u : zX) : Prop := (∀ i, 77 ≤ i → i < 112 → u.1 i = x.1 i) ∧ ∀ i, 77 ≤ i → u.2.1 i = x.2.1 i
theorem zKs.rf {x : zX} : zKs x x := ⟨fun _ _ _ => rfl, fun _ _ => rfl⟩
theorem zKs.i {x u : zX} {i k : Nat} {v : Int32} (h : zKs x u) (hi : i < 77 ∨ 112 ≤ i) : zKs x (zsI u i k v) := ⟨fun j h1 h2 => (zsI_n (by omega)).trans (h.1 j h1 h2), h.2⟩
theorem zKs.l {x u : zX} {i k : Nat} {v : Int64} (h : zKs x u) (hi : i < 77) : zKs x (zsL u i k v) := ⟨h.1, fun j h1 => (zsL_n (by omega)).trans (h.2 j h1)⟩
theorem zKs.rl {x u : zX} {i : Nat} {f : Nat → Int64} (h : zKs x u) (hi : i < 77) : zKs x (zsrL u i f) := ⟨h.1, fun j h1 => (show zup u.2.1 i f j = u.2.1 j from zup_n (by omega)).trans (h.2 j h1)⟩
theorem zKs.p {x u : zX} {i k : Nat} {v : Option Nat} (h : zKs x u) : zKs x (zsP u i k v) := h
theorem zKs.sr {x u : zX} (h : zSr x u) : zKs x u := ⟨fun i h1 h2 => h.2 i (by omega) (by omega) (by omega), fun i _ => by rw [h.1]⟩
theorem zKs.t {x y u : zX} (h : zKs x y) (g : zKs y u) : zKs x u := ⟨fun i h1 h2 => (g.1 i h1 h2).trans (h.1 i h1 h2), fun i h1 => (g.2 i h1).trans (h.2 i h1)⟩
theorem zKs.q6 {b : Nat} {x u : zX} (hb : zRm b) (h : zQ6 b x u) : zKs x u := ⟨fun i h1 h2 => h.1 i (by omega) (by omega) (by omega) (by have := zRm_b hb; omega), fun i _ => by rw [h.2]⟩
theorem zKs.q7 {b : Nat} {x u : zX} (hb : zRm b) (h : zQ7 b x u) : zKs x u := ⟨fun i h1 h2 => h.1 i (by omega) (by omega) (by omega) (by omega) (by have := zRm_b hb; omega), fun i _ => by rw [h.2.2]⟩
theorem zKs.cp {x : zX} {fr to : Nat} (ht : to = 1 ∨ to = 2) : zKs x (zcpy x fr to) := by
  refine ⟨fun i h1 h2 => ?_, fun i h1 => ?_⟩
  · unfold zcpy
    rw [zsI_n (by omega)]
    show (zsI (zsI (zcpR x (3 * to) (3 * to + 1) (3 * to + 2) _ _ _) to 3 _) to 4 _).1 i = _
    rw [zsI_n (by omega), zsI_n (by omega)]
    show zup (zup x.1 (3 * to + 1) _) (3 * to + 2) _ i = _
    rw [zup_n (by omega), zup_n (by omega)]
  · show zup x.2.1 to _ i = _
    exact zup_n (by omega)
theorem zKs.bg {x : zX} {l : List Int32} (hl : l.length < 900) : zKs x (zbgs l (zsI x 17 1 (nI 0))) := by
  obtain ⟨-, -, a3, a4⟩ := zbgs_e l (zsI x 17 1 (nI 0)) 0 (by omega) rfl
  exact ⟨fun i h1 h2 => by rw [a3 i (by omega) (by omega), zsI_n (by omega)], fun i _ => by rw [a4]; rfl⟩
theorem zKs.ref {x u : zX} {N : Nat} (K : zKs x u) (h : zRef x N) : zRef u N := by
  unfold zRef at h ⊢
  rw [K.1 77 (by omega) (by omega), K.1 83 (by omega) (by omega), K.1 84 (by omega) (by omega), K.1 85 (by omega) (by omega)]
  exact h
theorem zKs.cls {x u : zX} {F C : Nat} (K : zKs x u) (h : zCls x F C) : zCls u F C := by
  unfold zCls zClR zCkR at h ⊢
  rw [K.1 77 (by omega) (by omega), K.1 89 (by omega) (by omega), K.1 90 (by omega) (by omega), K.1 92 (by omega) (by omega), K.1 93 (by omega) (by omega), K.1 94 (by omega) (by omega)]
  exact h
theorem zKs.kd {x u : zX} {N : Nat} (K : zKs x u) (h : zKd x N) : zKd u N := by
  unfold zKd at h ⊢
  rw [K.1 78 (by omega) (by omega)]
  exact h
theorem zKs.tpr {x u : zX} (K : zKs x u) (h : zTpR x) : zTpR u := by
  unfold zTpR zszR at h ⊢
  rw [K.1 109 (by omega) (by omega)]
  exact h
theorem zRl.kdR {G : zG} {x : zX} {N R L : Nat} (H : zRl G x N R L) : zKd x N := fun q hq => by
  obtain ⟨i, hi⟩ := H.kd hq
  have p0 := (H.pp.2.2 q hq).2.1
  rw [hi] at p0
  have hd : ∀ i : Fin 7, ∃ k : Fin 7, zkn (zkl i.val) = nI k.val := by decide +kernel
  obtain ⟨k, hk⟩ := hd i
  exact ⟨k.val, k.isLt, by rw [← p0, hk]⟩
theorem zRl.ctT {G : zG} {x : zX} {N R L b F C : Nat} (H : zRl G x N R L) (Q : zHl x b F C) : ¬ x.1 0 9 = 0 → zTb G x N b C x := fun h => by
  obtain ⟨C2, c1, c2⟩ := H.ta h
  rw [Q.1] at c1 c2
  have e : nI C2 = nI C := c1.2.1.symm.trans Q.2.2.1.2.1
  have : C2 = C := (zqE (by have := c1.1; omega) (by have := Q.2.2.1.1; omega)).mp e
  rw [← this]
  exact c2
theorem zLx : ∀ k : Fin 16, ¬ zx1 96 k.val = -1 := by decide +kernel
theorem zRl.let_ {G : zG} {x : zX} {N R L : Nat} (H : zRl G x N R L) : ∀ k, k < 16 → ¬ x.1 96 k = -1 := fun k hk => by
  rw [H.rz.2.1 k hk]
  exact zLx ⟨k, hk⟩
theorem zRl.mo2 {G : zG} {x : zX} {N R L : Nat} (H : zRl G x N R L) : zbo (x.1 86) 8 ∧ zbo (x.1 87) 64 := ⟨H.sc.2.2.2.2.2, H.mo.2.1⟩
theorem f_read {G : zG} {x u1 u2 : zX} {N R L : Nat} {t0 q : Int32} {r1 r2 : Int64} (H : zRl G x N R L)
    (h1 : x = u1 ∧ ((¬ (zin 6 t0 ∧ zin (zsz x t0.toNatClampNeg) q) ∧ (-9223372036854775808) = r1) ∨ (∃ t j, t < 6 ∧ t0 = nI t ∧ j < zsz x t ∧ q = nI j ∧ x.2.1 (20 + t) j = r1)))
    (h2 : u1 = u2 ∧ ((¬ (zin 6 t0 ∧ ¬ u1.1 108 t0.toNatClampNeg < 0 ∧ zin (zszR u1 t0.toNatClampNeg) q) ∧ (-9223372036854775808) = r2) ∨ (∃ t j, t < 6 ∧ t0 = nI t ∧ ¬ u1.1 108 t < 0 ∧ j < zszR u1 t ∧ q = nI j ∧ u1.2.1 110 (60 * t + j) = r2))) : r1 = r2 ∧ ∃ N R L, zRl G u2 N R L := by
  obtain ⟨e, rfl⟩ := e_read H.rt h1 h2
  exact ⟨e, N, R, L, H⟩
theorem f_item {G : zG} {x u1 u2 : zX} {N R L : Nat} {t0 q : Int32} {v : Int64} {r1 r2 : Int32} (H : zRl G x N R L)
    (h1 : (¬ zin 6 t0 ∧ x = u1 ∧ -1 = r1) ∨ (∃ t, t < 6 ∧ t0 = nI t ∧ ((x.1 26 t = -1 ∧ x = u1 ∧ -11 = r1) ∨ (¬ x.1 26 t = -1 ∧ ¬ zin (zsz x t) q ∧ x = u1 ∧ -13 = r1) ∨ (¬ x.1 26 t = -1 ∧ ∃ j, j < zsz x t ∧ q = nI j ∧ zsL x (20 + t) j (zsort (x.1 26 t) v) = u1 ∧ nI 1 = r1))))
    (h2 : (¬ zin 6 t0 ∧ u1 = u2 ∧ -1 = r2) ∨ (∃ t, t < 6 ∧ t0 = nI t ∧ ((u1.1 108 t < 0 ∧ u1 = u2 ∧ -11 = r2) ∨ (¬ u1.1 108 t < 0 ∧ ¬ zin (zszR u1 t) q ∧ u1 = u2 ∧ -13 = r2) ∨ (¬ u1.1 108 t < 0 ∧ ∃ j, j < zszR u1 t ∧ q = nI j ∧ zsL u1 110 (60 * t + j) (zsort (u1.1 108 t) v) = u2 ∧ nI 1 = r2)))) : r1 = r2 ∧ ∃ N R L, zRl G u2 N R L := by
  obtain ⟨e, rt, et⟩ := e_item H.rt h1 h2
  exact ⟨e, N, R, L, H.et et rt⟩
theorem f_tape {G : zG} {x u1 u2 : zX} {N R L : Nat} {t0 sr n : Int32} {r1 r2 : Int32} (H : zRl G x N R L)
    (h1 : (¬ zin 6 t0 ∧ x = u1 ∧ -1 = r1) ∨ (∃ tb, tb < 6 ∧ t0 = nI tb ∧ (((sr < -1 ∨ nI 4 < sr ∨ (¬ sr = -1 ∧ nI 60 < n)) ∧ x = u1 ∧ -2 = r1) ∨ (¬ (sr < -1 ∨ nI 4 < sr ∨ (¬ sr = -1 ∧ nI 60 < n)) ∧ (¬ sr = -1 ∧ n < 0) ∧ x = u1 ∧ -14 = r1) ∨ (¬ (sr < -1 ∨ nI 4 < sr ∨ (¬ sr = -1 ∧ nI 60 < n)) ∧ ¬ (¬ sr = -1 ∧ n < 0) ∧ zsrL (zsI (zsI x 26 tb sr) 27 tb (if sr = -1 then nI 0 else n)) (20 + tb) (zclr (x.2.1 (20 + tb)) 0 60) = u1 ∧ nI 1 = r1))))
    (h2 : (¬ zin 6 t0 ∧ u1 = u2 ∧ -1 = r2) ∨ (∃ tb, tb < 6 ∧ t0 = nI tb ∧ (((¬ (¬ sr < -1 ∧ ¬ nI 4 < sr) ∨ (¬ sr < 0 ∧ nI 60 < n)) ∧ u1 = u2 ∧ -2 = r2) ∨ (¬ (¬ (¬ sr < -1 ∧ ¬ nI 4 < sr) ∨ (¬ sr < 0 ∧ nI 60 < n)) ∧ (¬ sr < 0 ∧ n < 0) ∧ u1 = u2 ∧ -14 = r2) ∨ (¬ (¬ (¬ sr < -1 ∧ ¬ nI 4 < sr) ∨ (¬ sr < 0 ∧ nI 60 < n)) ∧ ¬ (¬ sr < 0 ∧ n < 0) ∧ zsrL (zsI (zsI u1 108 tb sr) 109 tb (if sr < 0 then nI 0 else n)) 110 (zclr (u1.2.1 110) (60 * tb) 60) = u2 ∧ nI 1 = r2)))) : r1 = r2 ∧ ∃ N R L, zRl G u2 N R L := by
  obtain ⟨e, rt, et⟩ := e_tape H.rt h1 h2
  exact ⟨e, N, R, L, H.et et rt⟩
theorem f_shift {G : zG} {x u1 u2 : zX} {N R L : Nat} {t0 i t1 j n : Int32} {r1 r2 : Int32} (H : zRl G x N R L)
    (h1 : (¬ (zin 6 t0 ∧ zin 6 t1) ∧ x = u1 ∧ -1 = r1) ∨ ((zin 6 t0 ∧ zin 6 t1) ∧ (x.1 26 t0.toNatClampNeg = -1 ∨ x.1 26 t1.toNatClampNeg = -1) ∧ x = u1 ∧ -11 = r1) ∨ ((zin 6 t0 ∧ zin 6 t1) ∧ ¬ (x.1 26 t0.toNatClampNeg = -1 ∨ x.1 26 t1.toNatClampNeg = -1) ∧ ¬ x.1 26 t0.toNatClampNeg = x.1 26 t1.toNatClampNeg ∧ x = u1 ∧ -12 = r1) ∨ ((zin 6 t0 ∧ zin 6 t1) ∧ ¬ (x.1 26 t0.toNatClampNeg = -1 ∨ x.1 26 t1.toNatClampNeg = -1) ∧ x.1 26 t0.toNatClampNeg = x.1 26 t1.toNatClampNeg ∧ ¬ (zstr x t0.toNatClampNeg i n ∧ zstr x t1.toNatClampNeg j n) ∧ x = u1 ∧ -13 = r1) ∨ ((zin 6 t0 ∧ zin 6 t1) ∧ ¬ (x.1 26 t0.toNatClampNeg = -1 ∨ x.1 26 t1.toNatClampNeg = -1) ∧ x.1 26 t0.toNatClampNeg = x.1 26 t1.toNatClampNeg ∧ (zstr x t0.toNatClampNeg i n ∧ zstr x t1.toNatClampNeg j n) ∧ zsrL x (20 + t1.toNatClampNeg) (va_cpy (x.2.1 (20 + t0.toNatClampNeg)) (x.2.1 (20 + t1.toNatClampNeg)) i.toNatClampNeg j.toNatClampNeg n.toNatClampNeg) = u1 ∧ n = r1))
    (h2 : (¬ (zin 6 t0 ∧ zin 6 t1) ∧ u1 = u2 ∧ -1 = r2) ∨ ((zin 6 t0 ∧ zin 6 t1) ∧ (u1.1 108 t0.toNatClampNeg < 0 ∨ u1.1 108 t1.toNatClampNeg < 0) ∧ u1 = u2 ∧ -11 = r2) ∨ ((zin 6 t0 ∧ zin 6 t1) ∧ ¬ (u1.1 108 t0.toNatClampNeg < 0 ∨ u1.1 108 t1.toNatClampNeg < 0) ∧ ¬ u1.1 108 t0.toNatClampNeg = u1.1 108 t1.toNatClampNeg ∧ u1 = u2 ∧ -12 = r2) ∨ ((zin 6 t0 ∧ zin 6 t1) ∧ ¬ (u1.1 108 t0.toNatClampNeg < 0 ∨ u1.1 108 t1.toNatClampNeg < 0) ∧ u1.1 108 t0.toNatClampNeg = u1.1 108 t1.toNatClampNeg ∧ ¬ (zstT u1 t0.toNatClampNeg i n ∧ zstT u1 t1.toNatClampNeg j n) ∧ u1 = u2 ∧ -13 = r2) ∨ ((zin 6 t0 ∧ zin 6 t1) ∧ ¬ (u1.1 108 t0.toNatClampNeg < 0 ∨ u1.1 108 t1.toNatClampNeg < 0) ∧ u1.1 108 t0.toNatClampNeg = u1.1 108 t1.toNatClampNeg ∧ (zstT u1 t0.toNatClampNeg i n ∧ zstT u1 t1.toNatClampNeg j n) ∧ zshB u1 t0.toNatClampNeg i.toNatClampNeg t1.toNatClampNeg j.toNatClampNeg n.toNatClampNeg n.toNatClampNeg = u2 ∧ n = r2)) : r1 = r2 ∧ ∃ N R L, zRl G u2 N R L := by
  obtain ⟨e, rt, et⟩ := e_shift H.rt h1 h2
  exact ⟨e, N, R, L, H.et et rt⟩
theorem f_feed {G : zG} {x u1 u2 : zX} {N R L : Nat} {q : Int32} {r1 r2 : Int32} (H : zRl G x N R L)
    (h1 : (¬ (¬ q < 0 ∧ ¬ nI 127 < q) ∧ x = u1 ∧ -2 = r1) ∨ ((¬ q < 0 ∧ ¬ nI 127 < q) ∧ L = 100 ∧ x = u1 ∧ -4 = r1) ∨ ((¬ q < 0 ∧ ¬ nI 127 < q) ∧ L < 100 ∧ zsI (zsI x 9 L q) 0 4 (nI (L + 1)) = u1 ∧ nI (L + 1) = r1))
    (h2 : (¬ (¬ q < 0 ∧ ¬ nI 127 < q) ∧ u1 = u2 ∧ -2 = r2) ∨ ((¬ q < 0 ∧ ¬ nI 127 < q) ∧ L = 100 ∧ u1 = u2 ∧ -4 = r2) ∨ ((¬ q < 0 ∧ ¬ nI 127 < q) ∧ L < 100 ∧ zsI (zsI u1 88 L q) 77 14 (nI (L + 1)) = u2 ∧ nI (L + 1) = r2)) : r1 = r2 ∧ ∃ N R L, zRl G u2 N R L := by
  obtain ⟨e, ⟨F, rf⟩, ef⟩ := e_feed H.rf h1 h2
  exact ⟨e, N, R, F, H.ef ef rf⟩
theorem ks_front {G : zG} {x u1 : zX} {N R L : Nat} {q b : Int32} {r1 : Int32} (H : zRl G x N R L) (h1 : (zin N q ∧ zsI x 1 4 (if b = 0 then (x.1 1 4) &&& ((nI 1 <<< (q &&& 31)) ^^^ (-1)) else (x.1 1 4) ||| (nI 1 <<< (q &&& 31))) = u1 ∧ (if zbit (x.1 1 4) q then nI 1 else nI 0) = r1) ∨ (¬ zin N q ∧ x = u1 ∧ -1 = r1)) : zKs x u1 := by
  rcases h1 with ⟨-, rfl, -⟩ | ⟨-, rfl, -⟩
  · exact zKs.rf.i (by omega)
  · exact zKs.rf
theorem ks_name {G : zG} {x u1 : zX} {N R L : Nat} {q y : Int32} {r1 : Int32} (H : zRl G x N R L) (h1 : (¬ (zin N q ∧ (y = -1 ∨ zin N y)) ∧ x = u1 ∧ -1 = r1) ∨ (zin N q ∧ (y = -1 ∨ zin N y) ∧ q = y ∧ x = u1 ∧ -2 = r1) ∨ (∃ k, k < N ∧ q = nI k ∧ (y = -1 ∨ zin N y) ∧ ¬ q = y ∧ zsI (zsI x 5 k y) 0 9 (nI 0) = u1 ∧ (if 0 ≤ x.1 5 k then x.1 5 k else (-5)) = r1)) : zKs x u1 := by
  rcases h1 with ⟨-, rfl, -⟩ | ⟨-, -, -, rfl, -⟩ | ⟨k, -, -, -, -, rfl, -⟩
  · exact zKs.rf
  · exact zKs.rf
  · exact (zKs.rf.i (by omega)).i (by omega)
theorem ks_sit {G : zG} {x u1 : zX} {N R L : Nat} {q s0 : Int32} {r1 : Int32} (H : zRl G x N R L) (h1 : (¬ (zin N q ∧ zin 8 s0) ∧ x = u1 ∧ -1 = r1) ∨ (∃ k t, k < N ∧ q = nI k ∧ t < 8 ∧ s0 = nI t ∧ zsI (zsI x 4 (zst x k) (x.1 4 t)) 4 t (x.1 4 (zst x k)) = u1 ∧ nI (zst x k) = r1)) : zKs x u1 := by
  rcases h1 with ⟨-, rfl, -⟩ | ⟨k, t, -, -, -, -, rfl, -⟩
  · exact zKs.rf
  · exact (zKs.rf.i (by omega)).i (by omega)
theorem ks_feed {G : zG} {x u1 : zX} {N R L : Nat} {q : Int32} {r1 : Int32} (H : zRl G x N R L) (h1 : (¬ (¬ q < 0 ∧ ¬ nI 127 < q) ∧ x = u1 ∧ -2 = r1) ∨ ((¬ q < 0 ∧ ¬ nI 127 < q) ∧ L = 100 ∧ x = u1 ∧ -4 = r1) ∨ ((¬ q < 0 ∧ ¬ nI 127 < q) ∧ L < 100 ∧ zsI (zsI x 9 L q) 0 4 (nI (L + 1)) = u1 ∧ nI (L + 1) = r1)) : zKs x u1 := by
  rcases h1 with ⟨-, rfl, -⟩ | ⟨-, -, rfl, -⟩ | ⟨-, -, rfl, -⟩
  · exact zKs.rf
  · exact zKs.rf
  · exact (zKs.rf.i (by omega)).i (by omega)
theorem ks_month {G : zG} {x u1 : zX} {N R L : Nat} {r1 : Int32} (H : zRl G x N R L) (h1 : zsL x 1 5 (x.2.1 1 5 ||| zpairs (x.1 4)) = u1 ∧ zlc (zpairs (x.1 4) &&& (x.2.1 1 5 ^^^ (-1))) = r1) : zKs x u1 := by
  rw [← h1.1]
  exact zKs.rf.l (by omega)
theorem ks_image {G : zG} {x u1 : zX} {N R L : Nat} {r1 : Int32} (H : zRl G x N R L) (h1 : zsI (zcpy x 1 2) 0 2 (nI 1) = u1 ∧ nI N = r1) : zKs x u1 := by
  rw [← h1.1]
  exact (zKs.cp (Or.inr rfl)).i (by omega)
theorem ks_undo {G : zG} {x u1 : zX} {N R L : Nat} {r1 : Int32} (H : zRl G x N R L) (h1 : (x.1 0 2 = 0 ∧ x = u1 ∧ -3 = r1) ∨ (¬ x.1 0 2 = 0 ∧ zsI (zcpy x 2 1) 0 9 (nI 0) = u1 ∧ x.1 2 3 = r1)) : zKs x u1 := by
  rcases h1 with ⟨-, rfl, -⟩ | ⟨-, rfl, -⟩
  · exact zKs.rf
  · exact (zKs.cp (Or.inl rfl)).i (by omega)
theorem ks_act {G : zG} {x u1 : zX} {N R L : Nat} {q a w : Int32} {r1 : Int32} (H : zRl G x N R L) (h1 : (¬ zin N q ∧ (zsI x 17 1 (nI 0)) = u1 ∧ nI 0 = r1) ∨ (∃ kb, kb < N ∧ q = nI kb ∧ ((a = nI 0 ∧ zbgs (zsb (zk G (zob x kb))) (zsI x 17 1 (nI 0)) = u1 ∧ zsv (zk G (zob x kb)) (x.1 (zob x kb) 0) (x.1 (zob x kb) 1) w = r1) ∨ (a = nI 1 ∧ zbgs (ztb (zk G (zob x kb))) (zsI x 17 1 (nI 0)) = u1 ∧ ztv (zk G (zob x kb)) (x.1 (zob x kb) 0) (x.1 (zob x kb) 1) w = r1) ∨ (a = nI 2 ∧ zbgs (zeb (zk G (zob x kb))) (zsI x 17 1 (nI 0)) = u1 ∧ zev (zk G (zob x kb)) (x.1 (zob x kb) 0) (x.1 (zob x kb) 1) w = r1) ∨ ((¬ a = nI 0 ∧ ¬ a = nI 1 ∧ ¬ a = nI 2) ∧ (zsI x 17 1 (nI 0)) = u1 ∧ nI 0 = r1)))) : zKs x u1 := by
  rcases h1 with ⟨-, rfl, -⟩ | ⟨k, hk, -, h1⟩
  · exact zKs.rf.i (by omega)
  · obtain ⟨i, hi⟩ := H.kd hk
    obtain ⟨-, t4, t5, t6⟩ := zact_t i
    rw [hi] at h1
    rcases h1 with ⟨-, rfl, -⟩ | ⟨-, rfl, -⟩ | ⟨-, rfl, -⟩ | ⟨-, rfl, -⟩
    · exact zKs.bg t4
    · exact zKs.bg t5
    · exact zKs.bg t6
    · exact zKs.rf.i (by omega)
theorem ks_item {G : zG} {x u1 : zX} {N R L : Nat} {t0 q : Int32} {v : Int64} {r1 : Int32} (H : zRl G x N R L) (h1 : (¬ zin 6 t0 ∧ x = u1 ∧ -1 = r1) ∨ (∃ t, t < 6 ∧ t0 = nI t ∧ ((x.1 26 t = -1 ∧ x = u1 ∧ -11 = r1) ∨ (¬ x.1 26 t = -1 ∧ ¬ zin (zsz x t) q ∧ x = u1 ∧ -13 = r1) ∨ (¬ x.1 26 t = -1 ∧ ∃ j, j < zsz x t ∧ q = nI j ∧ zsL x (20 + t) j (zsort (x.1 26 t) v) = u1 ∧ nI 1 = r1)))) : zKs x u1 := by
  rcases h1 with ⟨-, rfl, -⟩ | ⟨t, ht, -, ⟨-, rfl, -⟩ | ⟨-, -, rfl, -⟩ | ⟨-, j, -, -, rfl, -⟩⟩
  · exact zKs.rf
  · exact zKs.rf
  · exact zKs.rf
  · exact zKs.rf.l (by omega)
theorem ks_pair {G : zG} {x u1 : zX} {N R L : Nat} {pa pb rw9 wh : Int32} {r1 : Int32} (H : zRl G x N R L) {b9 F C : Nat} (Q : zHl x b9 F C) (h1 : (¬ (zin N pa ∧ zin N pb ∧ (¬ rw9 < 0 ∧ ¬ nI 1 < rw9) ∧ ¬ wh < 0 ∧ wh ≤ nI 3) ∧ x = u1 ∧ -100001 = r1) ∨ ((zin N pa ∧ zin N pb ∧ (¬ rw9 < 0 ∧ ¬ nI 1 < rw9) ∧ ¬ wh < 0 ∧ wh ≤ nI 3) ∧ pa = pb ∧ x = u1 ∧ -100002 = r1) ∨ (∃ ka kb, ka < N ∧ kb < N ∧ ¬ ka = kb ∧ pa = nI ka ∧ pb = nI kb ∧ (¬ rw9 < 0 ∧ ¬ nI 1 < rw9) ∧ (¬ wh < 0 ∧ wh ≤ nI 3) ∧ zQ6x b9 x u1 ∧ (if wh = nI 0 then zsm (zlook x b9 ka kb rw9) b9 (nI 0) C else if wh = nI 1 then zsm (zlook x b9 ka kb rw9) b9 (nI 1) C else if wh = nI 2 then (if zVb x b9 C ka kb rw9 then nI 1 else nI 0) else zVw G x N b9 C ka kb rw9 - (if zk G (zob x ka) = 0 then x.1 (zob x ka) 1 else nI 0) * zacr x ka) = r1)) : zKs x u1 := by
  rcases h1 with ⟨-, rfl, -⟩ | ⟨-, -, rfl, -⟩ | ⟨ka, kb, -, -, -, -, -, -, -, q, -⟩
  · exact zKs.rf
  · exact zKs.rf
  · exact zKs.q6 Q.2.1 q.1
theorem ks_sitting {G : zG} {x u1 : zX} {N R L : Nat} {w : Int32} {r1 : Int32} (H : zRl G x N R L) {b9 F C : Nat} (Q : zHl x b9 F C) (h1 : (w = nI 0 ∧ zT7 G x N b9 C u1 ∧ zwor u1 (u1.1 4) = r1) ∨ (w = nI 1 ∧ zT7 G x N b9 C u1 ∧ zbrk u1 (u1.1 4) (nI 2) = r1) ∨ (w = nI 2 ∧ x = u1 ∧ x.1 b9 6 = r1) ∨ (¬ w = nI 0 ∧ ¬ w = nI 1 ∧ ¬ w = nI 2 ∧ x = u1 ∧ -100001 = r1)) : zKs x u1 := by
  rcases h1 with ⟨-, t, -⟩ | ⟨-, t, -⟩ | ⟨-, rfl, -⟩ | ⟨-, -, -, rfl, -⟩
  · exact zKs.q7 Q.2.1 t.1
  · exact zKs.q7 Q.2.1 t.1
  · exact zKs.rf
  · exact zKs.rf
theorem ks_mean {G : zG} {x u1 : zX} {N R L : Nat} {k : Int32} {r1 : Int64} (H : zRl G x N R L) {b9 F C : Nat} (Q : zHl x b9 F C) (h1 : (¬ (k = 0 ∨ k = nI 1) ∧ x = u1 ∧ (-9223372036854775808) = r1) ∨ ((k = 0 ∨ k = nI 1) ∧ zT7 G x N b9 C u1 ∧ (if k = 0 then (zm7 (zm2 (zall u1 N))).1 else (zm7 (zm2 (zall u1 N))).2) = r1)) : zKs x u1 := by
  rcases h1 with ⟨-, rfl, -⟩ | ⟨-, t, -⟩
  · exact zKs.rf
  · exact zKs.q7 Q.2.1 t.1
theorem zxout_s {v : zX} : ∀ n z c, zSr v z → zSr v (zxout n (z, c)).1 := by
  have hst : ∀ a b z c, zSr v z → zSr v (zxst a b (z, c)).1 := fun a b z c hs => by
    unfold zxst
    split
    · exact hs
    · exact (hs.x.o zweigh_o).x
  have hin : ∀ a n z c, zSr v z → zSr v (zxin a n (z, c)).1 := fun a n => by
    induction n with
    | zero => exact fun z c hs => hs
    | succ n ih => exact fun z c hs => hst _ _ _ _ (ih z c hs)
  intro n
  induction n with
  | zero => exact fun z c hs => hs
  | succ n ih => exact fun z c hs => hin _ _ _ _ (ih z c hs)
theorem ks_swap {G : zG} {x u1 : zX} {N R L : Nat} {r1 : Int32} (H : zRl G x N R L) {b9 F C : Nat} (Q : zHl x b9 F C) (h1 : ∃ v, zT7 G x N b9 C v ∧ (zxout 8 (zweigh (zbg v (v.1 4)) (nI 2), -5)) = (u1, r1)) : zKs x u1 := by
  obtain ⟨v, t, h⟩ := h1
  have hs : zSr v u1 := by
    have e : (zxout 8 (zweigh (zbg v (v.1 4)) (nI 2), -5)).1 = u1 := congrArg Prod.fst h
    rw [← e]
    exact zxout_s 8 _ _ (zSr.b.o zweigh_o)
  exact (zKs.q7 Q.2.1 t.1).t (zKs.sr hs)
theorem ks_best {G : zG} {x u1 : zX} {N R L : Nat} {k : Int32} {r1 : Int32} (H : zRl G x N R L) {b9 F C : Nat} (Q : zHl x b9 F C) (h1 : (¬ (¬ k < -2 ∧ k < nI N) ∧ x = u1 ∧ -100001 = r1) ∨ ((¬ k < -2 ∧ k < nI N) ∧ 5 < N ∧ x = u1 ∧ -9 = r1) ∨ ((¬ k < -2 ∧ k < nI N) ∧ N ≤ 5 ∧ ∃ v, zT7 G x N b9 C v ∧ zsrch v N (nI 2) = u1 ∧ (if k = -2 then u1.1 11 6 else if k = -1 then u1.1 11 7 else zfind (u1.1 16) k 0 8) = r1)) : zKs x u1 := by
  rcases h1 with ⟨-, rfl, -⟩ | ⟨-, -, rfl, -⟩ | ⟨-, -, v, t, rfl, -⟩
  · exact zKs.rf
  · exact zKs.rf
  · exact (zKs.q7 Q.2.1 t.1).t (zKs.sr zsrch_s)
theorem ks_cost {G : zG} {x u1 : zX} {N R L : Nat} {k : Int32} {r1 : Int32} (H : zRl G x N R L) {b9 F C : Nat} (Q : zHl x b9 F C) (h1 : (¬ (k = 0 ∨ k = nI 1) ∧ x = u1 ∧ -1 = r1) ∨ ((k = 0 ∨ k = nI 1) ∧ 5 < N ∧ x = u1 ∧ -9 = r1) ∨ ((k = 0 ∨ k = nI 1) ∧ N ≤ 5 ∧ ∃ v, zT7 G x N b9 C v ∧ zsrch (zsrch v N (nI 2)) N k = u1 ∧ u1.1 11 7 - (zsrch v N (nI 2)).1 11 7 = r1)) : zKs x u1 := by
  rcases h1 with ⟨-, rfl, -⟩ | ⟨-, -, rfl, -⟩ | ⟨-, -, v, t, rfl, -⟩
  · exact zKs.rf
  · exact zKs.rf
  · exact ((zKs.q7 Q.2.1 t.1).t (zKs.sr zsrch_s)).t (zKs.sr zsrch_s)
theorem ks_next {G : zG} {x u1 : zX} {N R L : Nat} {q : Int32} {r1 : Int32} (H : zRl G x N R L) (h1 : (¬ (¬ q < -1 ∧ q < nI N) ∧ x = u1 ∧ -100001 = r1) ∨ ((¬ q < -1 ∧ q < nI N) ∧ 6 < N ∧ x = u1 ∧ -9 = r1) ∨ ((¬ q < -1 ∧ q < nI N) ∧ N ≤ 6 ∧ (zplc (nI 3) N 0 (zbg x (fun _ => -1))) = u1 ∧ (if q = -1 then u1.1 11 7 else zfind (u1.1 16) q 0 8) = r1)) : zKs x u1 := by
  rcases h1 with ⟨-, rfl, -⟩ | ⟨-, -, rfl, -⟩ | ⟨-, -, rfl, -⟩
  · exact zKs.rf
  · exact zKs.rf
  · exact zKs.sr (zSr.b.o (zplc_o (nI 3) N 0 _))
theorem ks_tape {G : zG} {x u1 : zX} {N R L : Nat} {t0 sr n : Int32} {r1 : Int32} (H : zRl G x N R L) (h1 : (¬ zin 6 t0 ∧ x = u1 ∧ -1 = r1) ∨ (∃ tb, tb < 6 ∧ t0 = nI tb ∧ (((sr < -1 ∨ nI 4 < sr ∨ (¬ sr = -1 ∧ nI 60 < n)) ∧ x = u1 ∧ -2 = r1) ∨ (¬ (sr < -1 ∨ nI 4 < sr ∨ (¬ sr = -1 ∧ nI 60 < n)) ∧ (¬ sr = -1 ∧ n < 0) ∧ x = u1 ∧ -14 = r1) ∨ (¬ (sr < -1 ∨ nI 4 < sr ∨ (¬ sr = -1 ∧ nI 60 < n)) ∧ ¬ (¬ sr = -1 ∧ n < 0) ∧ zsrL (zsI (zsI x 26 tb sr) 27 tb (if sr = -1 then nI 0 else n)) (20 + tb) (zclr (x.2.1 (20 + tb)) 0 60) = u1 ∧ nI 1 = r1)))) : zKs x u1 := by
  rcases h1 with ⟨-, rfl, -⟩ | ⟨t, ht, -, ⟨-, rfl, -⟩ | ⟨-, -, rfl, -⟩ | ⟨-, -, rfl, -⟩⟩
  · exact zKs.rf
  · exact zKs.rf
  · exact zKs.rf
  · exact ((zKs.rf.i (by omega)).i (by omega)).rl (by omega)
theorem ks_shift {G : zG} {x u1 : zX} {N R L : Nat} {t0 i t1 j n : Int32} {r1 : Int32} (H : zRl G x N R L) (h1 : (¬ (zin 6 t0 ∧ zin 6 t1) ∧ x = u1 ∧ -1 = r1) ∨ ((zin 6 t0 ∧ zin 6 t1) ∧ (x.1 26 t0.toNatClampNeg = -1 ∨ x.1 26 t1.toNatClampNeg = -1) ∧ x = u1 ∧ -11 = r1) ∨ ((zin 6 t0 ∧ zin 6 t1) ∧ ¬ (x.1 26 t0.toNatClampNeg = -1 ∨ x.1 26 t1.toNatClampNeg = -1) ∧ ¬ x.1 26 t0.toNatClampNeg = x.1 26 t1.toNatClampNeg ∧ x = u1 ∧ -12 = r1) ∨ ((zin 6 t0 ∧ zin 6 t1) ∧ ¬ (x.1 26 t0.toNatClampNeg = -1 ∨ x.1 26 t1.toNatClampNeg = -1) ∧ x.1 26 t0.toNatClampNeg = x.1 26 t1.toNatClampNeg ∧ ¬ (zstr x t0.toNatClampNeg i n ∧ zstr x t1.toNatClampNeg j n) ∧ x = u1 ∧ -13 = r1) ∨ ((zin 6 t0 ∧ zin 6 t1) ∧ ¬ (x.1 26 t0.toNatClampNeg = -1 ∨ x.1 26 t1.toNatClampNeg = -1) ∧ x.1 26 t0.toNatClampNeg = x.1 26 t1.toNatClampNeg ∧ (zstr x t0.toNatClampNeg i n ∧ zstr x t1.toNatClampNeg j n) ∧ zsrL x (20 + t1.toNatClampNeg) (va_cpy (x.2.1 (20 + t0.toNatClampNeg)) (x.2.1 (20 + t1.toNatClampNeg)) i.toNatClampNeg j.toNatClampNeg n.toNatClampNeg) = u1 ∧ n = r1)) : zKs x u1 := by
  rcases h1 with ⟨-, rfl, -⟩ | ⟨-, -, rfl, -⟩ | ⟨-, -, -, rfl, -⟩ | ⟨-, -, -, -, rfl, -⟩ | ⟨hz, -, -, -, rfl, -⟩
  · exact zKs.rf
  · exact zKs.rf
  · exact zKs.rf
  · exact zKs.rf
  · obtain ⟨t, ht, rfl⟩ := zin_k (N := 6) (by omega) hz.2
    rw [nI_clamp (by omega)]
    exact zKs.rf.rl (by omega)
theorem ks_room {G : zG} {x u1 : zX} {N R L : Nat} {r1 : Int32} (H : zRl G x N R L) (h1 : (R = 6 ∧ x = u1 ∧ -4 = r1) ∨ (R < 6 ∧ 0 ≤ (zrd (zby (zt0 x (28 + 7 * R) L) (28 + 7 * R) L) L (28 + 7 * R) 10 0 (zt0 x (28 + 7 * R) L) 0 []).1 ∧ zsI (zrd (zby (zt0 x (28 + 7 * R) L) (28 + 7 * R) L) L (28 + 7 * R) 10 0 (zt0 x (28 + 7 * R) L) 0 []).2 0 4 (nI 0) = u1 ∧ (-10) - (zrd (zby (zt0 x (28 + 7 * R) L) (28 + 7 * R) L) L (28 + 7 * R) 10 0 (zt0 x (28 + 7 * R) L) 0 []).1 = r1) ∨ (R < 6 ∧ ¬ 0 ≤ (zrd (zby (zt0 x (28 + 7 * R) L) (28 + 7 * R) L) L (28 + 7 * R) 10 0 (zt0 x (28 + 7 * R) L) 0 []).1 ∧ zsI (zsI (zsI (zsI (zrd (zby (zt0 x (28 + 7 * R) L) (28 + 7 * R) L) L (28 + 7 * R) 10 0 (zt0 x (28 + 7 * R) L) 0 []).2 0 4 (nI 0)) 1 6 (nI R)) 0 7 (nI (R + 1))) 0 9 (nI 0) = u1 ∧ nI R = r1)) : zKs x u1 := by
  have key : R < 6 → zKs x (zrd (zby (zt0 x (28 + 7 * R) L) (28 + 7 * R) L) L (28 + 7 * R) 10 0 (zt0 x (28 + 7 * R) L) 0 []).2 := fun hR => ⟨fun i i1 i2 => by rw [zrd_n (by omega) (by omega) (by omega) (by omega) (by omega), zt0_n (by omega) (by omega)], fun i _ => by rw [zrd_2]; rfl⟩
  rcases h1 with ⟨-, rfl, -⟩ | ⟨hR, -, rfl, -⟩ | ⟨hR, -, rfl, -⟩
  · exact zKs.rf
  · exact (key hR).i (by omega)
  · exact ((((key hR).i (by omega)).i (by omega)).i (by omega)).i (by omega)
theorem ks_pupil {G G1 : zG} {x u1 : zX} {N R L t1 : Nat} {a v tk kn tg : Int32} {r1 : Int32} (H : zRl G x N R L) (h1 : (¬ zpg1 a ∧ (G, x) = (G1, u1) ∧ -1 = r1) ∨ (zpg1 a ∧ ¬ zpg2 v tk kn tg ∧ (G, x) = (G1, u1) ∧ -2 = r1) ∨ (zpg1 a ∧ zpg2 v tk kn tg ∧ N = 8 ∧ (G, x) = (G1, u1) ∧ -4 = r1) ∨ (zpg1 a ∧ zpg2 v tk kn tg ∧ N < 8 ∧ (∃ q, (zGx G q (zkc a), zppC x (zn G) N t1 v tk kn tg) = (G1, u1)) ∧ nI N = r1)) : zKs x u1 ∧ G1.1 = G.1 ∧ zT G1 = zT G ∧ za G1 0 = za G 0 ∧ za G1 77 = za G 77 ∧ zOK G1 := by
  have hz := H.ok.1
  rcases h1 with ⟨-, he, -⟩ | ⟨-, -, he, -⟩ | ⟨-, -, -, he, -⟩ | ⟨-, -, -, ⟨q, he⟩, -⟩
  · obtain ⟨rfl, rfl⟩ := Prod.mk.inj he
    exact ⟨zKs.rf, rfl, rfl, rfl, rfl, H.ok⟩
  · obtain ⟨rfl, rfl⟩ := Prod.mk.inj he
    exact ⟨zKs.rf, rfl, rfl, rfl, rfl, H.ok⟩
  · obtain ⟨rfl, rfl⟩ := Prod.mk.inj he
    exact ⟨zKs.rf, rfl, rfl, rfl, rfl, H.ok⟩
  · obtain ⟨rfl, rfl⟩ := Prod.mk.inj he
    refine ⟨?_, rfl, rfl, zGx_a (by omega), zGx_a (by omega), zGx_ok H.ok (zkc_ok _)⟩
    unfold zppC zadd
    refine ((((zKs.p ?_).i (by omega)).i (by omega)).i (by omega)).i (by omega)
    exact ⟨fun i i1 i2 => zMade_n (by omega), fun i _ => rfl⟩
