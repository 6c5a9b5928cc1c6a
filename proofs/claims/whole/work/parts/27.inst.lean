/-! instanceof over the kinds of pupils -/
abbrev zis (k t : Nat) : Prop := k = t ∨ (k = 3 ∧ t = 1) ∨ (k = 0 ∧ t = 8) ∨ (k = 2 ∧ t = 10)
section ZS
variable {p : Program} {l : Launch} {e : Env} {R : Room} {s : State} {m : MethodId} {args : Array Value} {below : List Frame} {meth : Method} {c : Code} {H : Heap} {locs : List Loc} {cells slots : Nat} {Q : State → Prop}
variable {cc : ByteArray} {pc : Nat} {ls : Array Slot} {rest : List Value} {G : zG} {x : zX} {A : Nat → Prop} {H0 : Heap}
theorem z_inst1 (hx : p.tables.exec = Jvm.exec) (hb : c.code = cc) {own : String} {index : Nat} (hown : s.vm.findClass own = some m.cls) (hlink : (Cond.classLink own index "WhoSitsBy$Helping").before args s = true) (hN : zN A s) (hK : va_K G.1 vwCl (zT G) s) (hG : zOK G) (hI : zI G x A H0 H locs) {i : Nat} (h1 : 112 ≤ i) (h2 : i < zn G) (hdg : decode cc pc = .ok (.instanceof index, 3))
    (kk : W p l e R s m args below meth c H locs cells slots Q (F0 m (pc + 3) ls (.int (if zis (zk G i) 1 then nI 1 else nI 0) :: rest))) : W p l e R s m args below meth c H locs cells slots Q (F0 m pc ls (.ref (za G i) :: rest)) := by
  have ho := zop (G := G) h1 h2
  rcases hG.2 i h1 h2 with h | h | h | h | h | h | h <;> rw [h] at ho kk
  · exact va_instNo (C := "WhoSitsBy$Carrier") hx hb hown hlink (hN.2.2.1 _ (z_mem 25 rfl)) (z_recv hK hI ho rfl) hdg kk
  · exact va_instS hx hb hown hlink (hK.1 1 _ rfl).2 (z_recv hK hI ho rfl) hdg kk
  · exact va_instNo (C := "WhoSitsBy$Hoped") hx hb hown hlink (hN.2.2.1 _ (z_mem 29 rfl)) (z_recv hK hI ho rfl) hdg kk
  · exact va_instY (C := "WhoSitsBy$Left") hx hb hown hlink (hN.2.1 _ (z_mem 0 rfl)) (z_recv hK hI ho rfl) hdg kk
  · exact va_instNo (C := "WhoSitsBy$Pupil") hx hb hown hlink (hN.2.2.1 _ (z_mem 0 rfl)) (z_recv hK hI ho rfl) hdg kk
  · exact va_instNo (C := "WhoSitsBy$Talker") hx hb hown hlink (hN.2.2.1 _ (z_mem 11 rfl)) (z_recv hK hI ho rfl) hdg kk
  · exact va_instNo (C := "WhoSitsBy$Wished") hx hb hown hlink (hN.2.2.1 _ (z_mem 16 rfl)) (z_recv hK hI ho rfl) hdg kk
theorem z_inst8 (hx : p.tables.exec = Jvm.exec) (hb : c.code = cc) {own : String} {index : Nat} (hown : s.vm.findClass own = some m.cls) (hlink : (Cond.classLink own index "WhoSitsBy$Talker").before args s = true) (hN : zN A s) (hK : va_K G.1 vwCl (zT G) s) (hG : zOK G) (hI : zI G x A H0 H locs) {i : Nat} (h1 : 112 ≤ i) (h2 : i < zn G) (hdg : decode cc pc = .ok (.instanceof index, 3))
    (kk : W p l e R s m args below meth c H locs cells slots Q (F0 m (pc + 3) ls (.int (if zis (zk G i) 8 then nI 1 else nI 0) :: rest))) : W p l e R s m args below meth c H locs cells slots Q (F0 m pc ls (.ref (za G i) :: rest)) := by
  have ho := zop (G := G) h1 h2
  rcases hG.2 i h1 h2 with h | h | h | h | h | h | h <;> rw [h] at ho kk
  · exact va_instY (C := "WhoSitsBy$Carrier") hx hb hown hlink (hN.2.1 _ (z_mem 1 rfl)) (z_recv hK hI ho rfl) hdg kk
  · exact va_instNo (C := "WhoSitsBy$Helping") hx hb hown hlink (hN.2.2.1 _ (z_mem 6 rfl)) (z_recv hK hI ho rfl) hdg kk
  · exact va_instNo (C := "WhoSitsBy$Hoped") hx hb hown hlink (hN.2.2.1 _ (z_mem 30 rfl)) (z_recv hK hI ho rfl) hdg kk
  · exact va_instNo (C := "WhoSitsBy$Left") hx hb hown hlink (hN.2.2.1 _ (z_mem 21 rfl)) (z_recv hK hI ho rfl) hdg kk
  · exact va_instNo (C := "WhoSitsBy$Pupil") hx hb hown hlink (hN.2.2.1 _ (z_mem 1 rfl)) (z_recv hK hI ho rfl) hdg kk
  · exact va_instS hx hb hown hlink (hK.1 8 _ rfl).2 (z_recv hK hI ho rfl) hdg kk
  · exact va_instNo (C := "WhoSitsBy$Wished") hx hb hown hlink (hN.2.2.1 _ (z_mem 17 rfl)) (z_recv hK hI ho rfl) hdg kk
theorem z_inst10 (hx : p.tables.exec = Jvm.exec) (hb : c.code = cc) {own : String} {index : Nat} (hown : s.vm.findClass own = some m.cls) (hlink : (Cond.classLink own index "WhoSitsBy$Wished").before args s = true) (hN : zN A s) (hK : va_K G.1 vwCl (zT G) s) (hG : zOK G) (hI : zI G x A H0 H locs) {i : Nat} (h1 : 112 ≤ i) (h2 : i < zn G) (hdg : decode cc pc = .ok (.instanceof index, 3))
    (kk : W p l e R s m args below meth c H locs cells slots Q (F0 m (pc + 3) ls (.int (if zis (zk G i) 10 then nI 1 else nI 0) :: rest))) : W p l e R s m args below meth c H locs cells slots Q (F0 m pc ls (.ref (za G i) :: rest)) := by
  have ho := zop (G := G) h1 h2
  rcases hG.2 i h1 h2 with h | h | h | h | h | h | h <;> rw [h] at ho kk
  · exact va_instNo (C := "WhoSitsBy$Carrier") hx hb hown hlink (hN.2.2.1 _ (z_mem 26 rfl)) (z_recv hK hI ho rfl) hdg kk
  · exact va_instNo (C := "WhoSitsBy$Helping") hx hb hown hlink (hN.2.2.1 _ (z_mem 7 rfl)) (z_recv hK hI ho rfl) hdg kk
  · exact va_instY (C := "WhoSitsBy$Hoped") hx hb hown hlink (hN.2.1 _ (z_mem 2 rfl)) (z_recv hK hI ho rfl) hdg kk
  · exact va_instNo (C := "WhoSitsBy$Left") hx hb hown hlink (hN.2.2.1 _ (z_mem 22 rfl)) (z_recv hK hI ho rfl) hdg kk
  · exact va_instNo (C := "WhoSitsBy$Pupil") hx hb hown hlink (hN.2.2.1 _ (z_mem 2 rfl)) (z_recv hK hI ho rfl) hdg kk
  · exact va_instNo (C := "WhoSitsBy$Talker") hx hb hown hlink (hN.2.2.1 _ (z_mem 12 rfl)) (z_recv hK hI ho rfl) hdg kk
  · exact va_instS hx hb hown hlink (hK.1 10 _ rfl).2 (z_recv hK hI ho rfl) hdg kk
theorem z_inst3 (hx : p.tables.exec = Jvm.exec) (hb : c.code = cc) {own : String} {index : Nat} (hown : s.vm.findClass own = some m.cls) (hlink : (Cond.classLink own index "WhoSitsBy$Left").before args s = true) (hN : zN A s) (hK : va_K G.1 vwCl (zT G) s) (hG : zOK G) (hI : zI G x A H0 H locs) {i : Nat} (h1 : 112 ≤ i) (h2 : i < zn G) (hdg : decode cc pc = .ok (.instanceof index, 3))
    (kk : W p l e R s m args below meth c H locs cells slots Q (F0 m (pc + 3) ls (.int (if zis (zk G i) 3 then nI 1 else nI 0) :: rest))) : W p l e R s m args below meth c H locs cells slots Q (F0 m pc ls (.ref (za G i) :: rest)) := by
  have ho := zop (G := G) h1 h2
  rcases hG.2 i h1 h2 with h | h | h | h | h | h | h <;> rw [h] at ho kk
  · exact va_instNo (C := "WhoSitsBy$Carrier") hx hb hown hlink (hN.2.2.1 _ (z_mem 27 rfl)) (z_recv hK hI ho rfl) hdg kk
  · exact va_instNo (C := "WhoSitsBy$Helping") hx hb hown hlink (hN.2.2.1 _ (z_mem 8 rfl)) (z_recv hK hI ho rfl) hdg kk
  · exact va_instNo (C := "WhoSitsBy$Hoped") hx hb hown hlink (hN.2.2.1 _ (z_mem 31 rfl)) (z_recv hK hI ho rfl) hdg kk
  · exact va_instS hx hb hown hlink (hK.1 3 _ rfl).2 (z_recv hK hI ho rfl) hdg kk
  · exact va_instNo (C := "WhoSitsBy$Pupil") hx hb hown hlink (hN.2.2.1 _ (z_mem 3 rfl)) (z_recv hK hI ho rfl) hdg kk
  · exact va_instNo (C := "WhoSitsBy$Talker") hx hb hown hlink (hN.2.2.1 _ (z_mem 13 rfl)) (z_recv hK hI ho rfl) hdg kk
  · exact va_instNo (C := "WhoSitsBy$Wished") hx hb hown hlink (hN.2.2.1 _ (z_mem 18 rfl)) (z_recv hK hI ho rfl) hdg kk
theorem z_inst0 (hx : p.tables.exec = Jvm.exec) (hb : c.code = cc) {own : String} {index : Nat} (hown : s.vm.findClass own = some m.cls) (hlink : (Cond.classLink own index "WhoSitsBy$Carrier").before args s = true) (hN : zN A s) (hK : va_K G.1 vwCl (zT G) s) (hG : zOK G) (hI : zI G x A H0 H locs) {i : Nat} (h1 : 112 ≤ i) (h2 : i < zn G) (hdg : decode cc pc = .ok (.instanceof index, 3))
    (kk : W p l e R s m args below meth c H locs cells slots Q (F0 m (pc + 3) ls (.int (if zis (zk G i) 0 then nI 1 else nI 0) :: rest))) : W p l e R s m args below meth c H locs cells slots Q (F0 m pc ls (.ref (za G i) :: rest)) := by
  have ho := zop (G := G) h1 h2
  rcases hG.2 i h1 h2 with h | h | h | h | h | h | h <;> rw [h] at ho kk
  · exact va_instS hx hb hown hlink (hK.1 0 _ rfl).2 (z_recv hK hI ho rfl) hdg kk
  · exact va_instNo (C := "WhoSitsBy$Helping") hx hb hown hlink (hN.2.2.1 _ (z_mem 9 rfl)) (z_recv hK hI ho rfl) hdg kk
  · exact va_instNo (C := "WhoSitsBy$Hoped") hx hb hown hlink (hN.2.2.1 _ (z_mem 32 rfl)) (z_recv hK hI ho rfl) hdg kk
  · exact va_instNo (C := "WhoSitsBy$Left") hx hb hown hlink (hN.2.2.1 _ (z_mem 23 rfl)) (z_recv hK hI ho rfl) hdg kk
  · exact va_instNo (C := "WhoSitsBy$Pupil") hx hb hown hlink (hN.2.2.1 _ (z_mem 4 rfl)) (z_recv hK hI ho rfl) hdg kk
  · exact va_instNo (C := "WhoSitsBy$Talker") hx hb hown hlink (hN.2.2.1 _ (z_mem 14 rfl)) (z_recv hK hI ho rfl) hdg kk
  · exact va_instNo (C := "WhoSitsBy$Wished") hx hb hown hlink (hN.2.2.1 _ (z_mem 19 rfl)) (z_recv hK hI ho rfl) hdg kk
theorem z_inst2 (hx : p.tables.exec = Jvm.exec) (hb : c.code = cc) {own : String} {index : Nat} (hown : s.vm.findClass own = some m.cls) (hlink : (Cond.classLink own index "WhoSitsBy$Hoped").before args s = true) (hN : zN A s) (hK : va_K G.1 vwCl (zT G) s) (hG : zOK G) (hI : zI G x A H0 H locs) {i : Nat} (h1 : 112 ≤ i) (h2 : i < zn G) (hdg : decode cc pc = .ok (.instanceof index, 3))
    (kk : W p l e R s m args below meth c H locs cells slots Q (F0 m (pc + 3) ls (.int (if zis (zk G i) 2 then nI 1 else nI 0) :: rest))) : W p l e R s m args below meth c H locs cells slots Q (F0 m pc ls (.ref (za G i) :: rest)) := by
  have ho := zop (G := G) h1 h2
  rcases hG.2 i h1 h2 with h | h | h | h | h | h | h <;> rw [h] at ho kk
  · exact va_instNo (C := "WhoSitsBy$Carrier") hx hb hown hlink (hN.2.2.1 _ (z_mem 28 rfl)) (z_recv hK hI ho rfl) hdg kk
  · exact va_instNo (C := "WhoSitsBy$Helping") hx hb hown hlink (hN.2.2.1 _ (z_mem 10 rfl)) (z_recv hK hI ho rfl) hdg kk
  · exact va_instS hx hb hown hlink (hK.1 2 _ rfl).2 (z_recv hK hI ho rfl) hdg kk
  · exact va_instNo (C := "WhoSitsBy$Left") hx hb hown hlink (hN.2.2.1 _ (z_mem 24 rfl)) (z_recv hK hI ho rfl) hdg kk
  · exact va_instNo (C := "WhoSitsBy$Pupil") hx hb hown hlink (hN.2.2.1 _ (z_mem 5 rfl)) (z_recv hK hI ho rfl) hdg kk
  · exact va_instNo (C := "WhoSitsBy$Talker") hx hb hown hlink (hN.2.2.1 _ (z_mem 15 rfl)) (z_recv hK hI ho rfl) hdg kk
  · exact va_instNo (C := "WhoSitsBy$Wished") hx hb hown hlink (hN.2.2.1 _ (z_mem 20 rfl)) (z_recv hK hI ho rfl) hdg kk
end ZS
/-- what the kind of a number takes in -/
abbrev zkd (k : Nat) (w : Int32) : Prop := w = nI 0 ∨ (w = nI 1 ∧ zis k 1) ∨ (w = nI 2 ∧ zis k 8) ∨ (w = nI 3 ∧ zis k 10) ∨ (w = nI 4 ∧ zis k 3) ∨ (w = nI 5 ∧ zis k 0) ∨ (w = nI 6 ∧ zis k 2)
/-- the JDK's count of bits, as it computes it -/
def zic1 (v : Int32) : Int32 := v - ((v.toUInt32 >>> ((nI 1).toUInt32 &&& Int32.toUInt32 31)).toInt32 &&& 1431655765)
def zic2 (v : Int32) : Int32 := (v &&& 858993459) + ((v.toUInt32 >>> ((nI 2).toUInt32 &&& Int32.toUInt32 31)).toInt32 &&& 858993459)
def zic3 (v : Int32) : Int32 := (v + (v.toUInt32 >>> ((nI 4).toUInt32 &&& Int32.toUInt32 31)).toInt32) &&& 252645135
def zic4 (v : Int32) : Int32 := v + (v.toUInt32 >>> ((nI 8).toUInt32 &&& Int32.toUInt32 31)).toInt32
def zic5 (v : Int32) : Int32 := v + (v.toUInt32 >>> ((nI 16).toUInt32 &&& Int32.toUInt32 31)).toInt32
def zic (v : Int32) : Int32 := zic5 (zic4 (zic3 (zic2 (zic1 v)))) &&& nI 63
theorem zic_pop {k : Nat} (h : k < 256) : zic (nI k) = nI (zpop 8 k) := by
  have hd : ∀ i : Fin 256, zic (nI i.val) = nI (zpop 8 i.val) := by decide +kernel
  exact hd ⟨k, h⟩
def zlc1 (v : Int64) : Int64 := v - ((v.toUInt64 >>> ((nI 1).toInt64.toUInt64 &&& Int64.toUInt64 63)).toInt64 &&& (6148914691236517205))
def zlc2 (v : Int64) : Int64 := (v &&& (3689348814741910323)) + ((v.toUInt64 >>> ((nI 2).toInt64.toUInt64 &&& Int64.toUInt64 63)).toInt64 &&& (3689348814741910323))
def zlc3 (v : Int64) : Int64 := (v + (v.toUInt64 >>> ((nI 4).toInt64.toUInt64 &&& Int64.toUInt64 63)).toInt64) &&& (1085102592571150095)
def zlc4 (v : Int64) : Int64 := v + (v.toUInt64 >>> ((nI 8).toInt64.toUInt64 &&& Int64.toUInt64 63)).toInt64
def zlc5 (v : Int64) : Int64 := v + (v.toUInt64 >>> ((nI 16).toInt64.toUInt64 &&& Int64.toUInt64 63)).toInt64
def zlc6 (v : Int64) : Int64 := v + (v.toUInt64 >>> ((nI 32).toInt64.toUInt64 &&& Int64.toUInt64 63)).toInt64
def zlc (v : Int64) : Int32 := (zlc6 (zlc5 (zlc4 (zlc3 (zlc2 (zlc1 v)))))).toInt32 &&& nI 127
theorem zin_i9 {q : Int32} : zin 20 q ↔ (¬ q < nI 0 ∧ ¬ nI 19 < q) := by
  unfold zin
  rw [show (nI 0) = (0 : Int32) from rfl]
  constructor
  · intro h
    refine ⟨h.1, fun h2 => h.2 ?_⟩
    rw [Int32.lt_iff_toInt_lt, nI_toInt (by omega)] at h2
    rw [Int32.le_iff_toInt_le, nI_toInt (by omega)]
    omega
  · intro h
    refine ⟨h.1, fun h2 => h.2 ?_⟩
    rw [Int32.le_iff_toInt_le, nI_toInt (by omega)] at h2
    rw [Int32.lt_iff_toInt_lt, nI_toInt (by omega)]
    omega
theorem zkd_1 {k : Nat} : zkd k (nI 1) ↔ zis k 1 := ⟨fun h => by rcases h with h | ⟨h, q⟩ | ⟨h, q⟩ | ⟨h, q⟩ | ⟨h, q⟩ | ⟨h, q⟩ | ⟨h, q⟩ <;> first | exact absurd h (by decide) | exact q, fun h => Or.inr (Or.inl ⟨rfl, h⟩)⟩
theorem zkd_2 {k : Nat} : zkd k (nI 2) ↔ zis k 8 := ⟨fun h => by rcases h with h | ⟨h, q⟩ | ⟨h, q⟩ | ⟨h, q⟩ | ⟨h, q⟩ | ⟨h, q⟩ | ⟨h, q⟩ <;> first | exact absurd h (by decide) | exact q, fun h => Or.inr (Or.inr (Or.inl ⟨rfl, h⟩))⟩
theorem zkd_3 {k : Nat} : zkd k (nI 3) ↔ zis k 10 := ⟨fun h => by rcases h with h | ⟨h, q⟩ | ⟨h, q⟩ | ⟨h, q⟩ | ⟨h, q⟩ | ⟨h, q⟩ | ⟨h, q⟩ <;> first | exact absurd h (by decide) | exact q, fun h => Or.inr (Or.inr (Or.inr (Or.inl ⟨rfl, h⟩)))⟩
theorem zkd_4 {k : Nat} : zkd k (nI 4) ↔ zis k 3 := ⟨fun h => by rcases h with h | ⟨h, q⟩ | ⟨h, q⟩ | ⟨h, q⟩ | ⟨h, q⟩ | ⟨h, q⟩ | ⟨h, q⟩ <;> first | exact absurd h (by decide) | exact q, fun h => Or.inr (Or.inr (Or.inr (Or.inr (Or.inl ⟨rfl, h⟩))))⟩
theorem zkd_5 {k : Nat} : zkd k (nI 5) ↔ zis k 0 := ⟨fun h => by rcases h with h | ⟨h, q⟩ | ⟨h, q⟩ | ⟨h, q⟩ | ⟨h, q⟩ | ⟨h, q⟩ | ⟨h, q⟩ <;> first | exact absurd h (by decide) | exact q, fun h => Or.inr (Or.inr (Or.inr (Or.inr (Or.inr (Or.inl ⟨rfl, h⟩)))))⟩
theorem zkd_6 {k : Nat} : zkd k (nI 6) ↔ zis k 2 := ⟨fun h => by rcases h with h | ⟨h, q⟩ | ⟨h, q⟩ | ⟨h, q⟩ | ⟨h, q⟩ | ⟨h, q⟩ | ⟨h, q⟩ <;> first | exact absurd h (by decide) | exact q, fun h => Or.inr (Or.inr (Or.inr (Or.inr (Or.inr (Or.inr ⟨rfl, h⟩)))))⟩
