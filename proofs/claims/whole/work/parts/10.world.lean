/-! THE UNIVERSE: every cell of the class and of the reference has a number. 0: the WhoSitsBy; 1, 2: now, kept; 3 .. 8 their rows; 9: text; 10: rooms; 11 .. 16: sittings; 17, 18: traced; 19 .. 25: items; 26, 27: sorts, sizes; 28 + 7 r: room r (6: bare), its six rows behind it; 77: the reference; 78 .. 111: its rows; 112 and on: pupils. A state is what the ints, the longs and the rows of pupils hold. -/
abbrev zX : Type := (Nat → Nat → Int32) × (Nat → Nat → Int64) × (Nat → Nat → Option Nat)
abbrev zG : Type := va_G × (Nat → ClassId) × (Nat → Nat) × (Nat → Nat) × Nat
def za (G : zG) (i : Nat) : Nat := G.2.2.1 i
def zk (G : zG) (i : Nat) : Nat := G.2.2.2.1 i
def zn (G : zG) : Nat := G.2.2.2.2
def zT (G : zG) : List (ClassId × FieldType) := [(G.2.1 0, .int), (G.2.1 1, .boolean), (G.2.1 2, .byte), (G.2.1 3, .long), (G.2.1 4, .object "WhoSitsBy$Pupil"), (G.2.1 5, .object "WhoSitsBy$Room"), (G.2.1 6, .array .long)]
def zup {α : Type} (f : Nat → α) (i : Nat) (g : α) : Nat → α := fun a => if a = i then g else f a
theorem zup_s {α : Type} {f : Nat → α} {i : Nat} {g : α} : zup f i g i = g := if_pos rfl
theorem zup_n {α : Type} {f : Nat → α} {i j : Nat} {g : α} (h : j ≠ i) : zup f i g j = f j := if_neg h
def zsI (x : zX) (i k : Nat) (y : Int32) : zX := (zup x.1 i (upd (x.1 i) k y), x.2)
def zsL (x : zX) (i k : Nat) (y : Int64) : zX := (x.1, zup x.2.1 i (vp_updL (x.2.1 i) k y), x.2.2)
def zsP (x : zX) (i k : Nat) (y : Option Nat) : zX := (x.1, x.2.1, zup x.2.2 i (va_up (x.2.2 i) k y))
def zBm (aT : Nat → ClassId) (ad : Nat → Nat) (i : Nat) (v : Nat → Int32) (l : Nat → Int64) (p : Nat → Option Nat) : va_E :=
 if i < 94 then
  if i < 85 then
   if i < 81 then
    if i < 79 then
     if i < 78 then
      .inr (12, [.int (v 0), .int (v 1), .ref (ad 78), .ref (ad 79), .ref (ad 80), .ref (ad 81), .ref (ad 82), .ref (ad 83), .ref (ad 84), .ref (ad 85), .ref (ad 86), .ref (ad 87), .int (v 12), .int (v 13), .int (v 14), .int (v 15), .int (v 16), .ref (ad 88), .ref (ad 89), .ref (ad 90), .ref (ad 91), .ref (ad 92), .ref (ad 93), .ref (ad 94), .ref (ad 95), .int (v 25), .int (v 26), .int (v 27), .ref (ad 96), .ref (ad 97), .ref (ad 98), .ref (ad 99), .ref (ad 100), .ref (ad 101), .int (v 34), .int (v 35), .int (v 36), .int (v 37), .int (v 38), .int (v 39), .ref (ad 102), .ref (ad 103), .ref (ad 104), .ref (ad 105), .ref (ad 106), .int (v 45), .ref (ad 107), .ref (ad 108), .ref (ad 109), .ref (ad 110), .ref (ad 111)])
     else
      .inl (aT 0, 8, .inl v)
    else
     if i < 80 then
      .inl (aT 0, 8, .inl v)
     else
      .inl (aT 0, 8, .inl v)
   else
    if i < 83 then
     if i < 82 then
      .inl (aT 0, 8, .inl v)
     else
      .inl (aT 0, 8, .inl v)
    else
     if i < 84 then
      .inl (aT 0, 8, .inl v)
     else
      .inl (aT 0, 8, .inl v)
  else
   if i < 89 then
    if i < 87 then
     if i < 86 then
      .inl (aT 0, 8, .inl v)
     else
      .inl (aT 1, 8, .inl v)
    else
     if i < 88 then
      .inl (aT 1, 64, .inl v)
     else
      .inl (aT 0, 100, .inl v)
   else
    if i < 91 then
     if i < 90 then
      .inl (aT 0, 6, .inl v)
     else
      .inl (aT 0, 60, .inl v)
    else
     if i < 92 then
      .inl (aT 0, 60, .inl v)
     else
      if i < 93 then
       .inl (aT 0, 60, .inl v)
      else
       .inl (aT 0, 60, .inl v)
 else
  if i < 103 then
   if i < 98 then
    if i < 96 then
     if i < 95 then
      .inl (aT 0, 600, .inl v)
     else
      .inl (aT 0, 101, .inl v)
    else
     if i < 97 then
      .inl (aT 0, 16, .inl v)
     else
      .inl (aT 1, 100, .inl v)
   else
    if i < 100 then
     if i < 99 then
      .inl (aT 0, 128, .inl v)
     else
      .inl (aT 1, 128, .inl v)
    else
     if i < 101 then
      .inl (aT 0, 8, .inl v)
     else
      if i < 102 then
       .inl (aT 0, 8, .inl v)
      else
       .inl (aT 0, 8, .inl v)
  else
   if i < 107 then
    if i < 105 then
     if i < 104 then
      .inl (aT 0, 8, .inl v)
     else
      .inl (aT 0, 8, .inl v)
    else
     if i < 106 then
      .inl (aT 1, 8, .inl v)
     else
      .inl (aT 1, 64, .inl v)
   else
    if i < 109 then
     if i < 108 then
      .inl (aT 0, 20, .inl v)
     else
      .inl (aT 0, 6, .inl v)
    else
     if i < 110 then
      .inl (aT 0, 6, .inl v)
     else
      if i < 111 then
       .inl (aT 3, 360, .inr (.inl l))
      else
       .inl (aT 3, 60, .inr (.inl l))
def zBc (aT : Nat → ClassId) (ad : Nat → Nat) (i : Nat) (v : Nat → Int32) (l : Nat → Int64) (p : Nat → Option Nat) : va_E :=
 if i < 14 then
  if i < 7 then
   if i < 3 then
    if i < 1 then
     .inr (11, [.ref (ad 1), .ref (ad 2), .int (v 2), .ref (ad 9), .int (v 4), .ref (ad 10), .ref (ad 70), .int (v 7), .ref (ad 11), .int (v 9), .ref (ad 17), .ref (ad 19), .ref (ad 26), .ref (ad 27)])
    else
     if i < 2 then
      .inr (7, [.ref (ad 3), .ref (ad 4), .ref (ad 5), .int (v 3), .int (v 4), .long (l 5), .int (v 6)])
     else
      .inr (7, [.ref (ad 6), .ref (ad 7), .ref (ad 8), .int (v 3), .int (v 4), .long (l 5), .int (v 6)])
   else
    if i < 5 then
     if i < 4 then
      .inl (aT 4, 8, .inr (.inr (.inr (.inr (fun j => (p j).map ad)))))
     else
      .inl (aT 0, 8, .inl v)
    else
     if i < 6 then
      .inl (aT 0, 8, .inl v)
     else
      .inl (aT 4, 8, .inr (.inr (.inr (.inr (fun j => (p j).map ad)))))
  else
   if i < 10 then
    if i < 8 then
     .inl (aT 0, 8, .inl v)
    else
     if i < 9 then
      .inl (aT 0, 8, .inl v)
     else
      .inl (aT 2, 100, .inl v)
   else
    if i < 12 then
     if i < 11 then
      .inl (aT 5, 6, .inr (.inr (.inr (.inr (fun j => if j < 6 then some (ad (28 + 7 * j)) else none)))))
     else
      .inr (6, [.ref (ad 12), .ref (ad 13), .ref (ad 14), .ref (ad 15), .ref (ad 16), .int (v 5), .int (v 6), .int (v 7)])
    else
     if i < 13 then
      .inl (aT 0, 128, .inl v)
     else
      .inl (aT 1, 128, .inl v)
 else
  if i < 21 then
   if i < 17 then
    if i < 15 then
     .inl (aT 0, 8, .inl v)
    else
     if i < 16 then
      .inl (aT 0, 8, .inl v)
     else
      .inl (aT 0, 8, .inl v)
   else
    if i < 19 then
     if i < 18 then
      .inr (9, [.ref (ad 18), .int (v 1)])
     else
      .inl (aT 0, 20, .inl v)
    else
     if i < 20 then
      .inl (aT 6, 6, .inr (.inr (.inr (.inr (fun j => if j < 6 then some (ad (20 + j)) else none)))))
     else
      .inl (aT 3, 60, .inr (.inl l))
  else
   if i < 24 then
    if i < 22 then
     .inl (aT 3, 60, .inr (.inl l))
    else
     if i < 23 then
      .inl (aT 3, 60, .inr (.inl l))
     else
      .inl (aT 3, 60, .inr (.inl l))
   else
    if i < 26 then
     if i < 25 then
      .inl (aT 3, 60, .inr (.inl l))
     else
      .inl (aT 3, 60, .inr (.inl l))
    else
     if i < 27 then
      .inl (aT 0, 6, .inl v)
     else
      .inl (aT 0, 6, .inl v)
def zBr (aT : Nat → ClassId) (ad : Nat → Nat) (i j : Nat) (v : Nat → Int32) : va_E :=
  if j = 0 then .inr (5, [.ref (ad (i + 1)), .ref (ad (i + 2)), .ref (ad (i + 3)), .ref (ad (i + 4)), .int (v 4), .int (v 5), .int (v 6), .ref (ad (i + 5)), .int (v 8), .int (v 9), .ref (ad (i + 6))]) else
  if j = 1 then .inl (aT 0, 10, .inl v) else
  if j = 2 then .inl (aT 0, 10, .inl v) else
  if j = 3 then .inl (aT 0, 10, .inl v) else
  if j = 4 then .inl (aT 0, 100, .inl v) else
  if j = 5 then .inl (aT 2, 100, .inl v) else
  .inl (aT 0, 7, .inl v)
def zB (aT : Nat → ClassId) (ad kd : Nat → Nat) (i : Nat) (v : Nat → Int32) (l : Nat → Int64) (p : Nat → Option Nat) : va_E :=
  if i < 28 then zBc aT ad i v l p else if i < 77 then zBr aT ad i ((i - 28) % 7) v else if i < 112 then zBm aT ad i v l p else .inr (kd i, [.int (v 0), .int (v 1), .int (v 2), .int (v 3), .int (v 4)])
def zf (G : zG) (x : zX) (i : Nat) : va_E := zB G.2.1 G.2.2.1 G.2.2.2.1 i (x.1 i) (x.2.1 i) (x.2.2 i)
theorem zsI_u {x : zX} {i k : Nat} {y : Int32} : (zsI x i k y).1 i = upd (x.1 i) k y := zup_s
theorem zsI_n {x : zX} {i k j : Nat} {y : Int32} (h : j ≠ i) : (zsI x i k y).1 j = x.1 j := zup_n h
theorem zsL_u {x : zX} {i k : Nat} {y : Int64} : (zsL x i k y).2.1 i = vp_updL (x.2.1 i) k y := zup_s
theorem zsL_n {x : zX} {i k j : Nat} {y : Int64} (h : j ≠ i) : (zsL x i k y).2.1 j = x.2.1 j := zup_n h
theorem zsP_u {x : zX} {i k : Nat} {y : Option Nat} : (zsP x i k y).2.2 i = va_up (x.2.2 i) k y := zup_s
theorem zsP_n {x : zX} {i k j : Nat} {y : Option Nat} (h : j ≠ i) : (zsP x i k y).2.2 j = x.2.2 j := zup_n h
theorem zf_I {G : zG} {x : zX} {i k j : Nat} {y : Int32} (h : j ≠ i) : zf G (zsI x i k y) j = zf G x j := by
  show zB _ _ _ j ((zsI x i k y).1 j) _ _ = zB _ _ _ j (x.1 j) _ _
  rw [zsI_n h]
  rfl
theorem zf_L {G : zG} {x : zX} {i k j : Nat} {y : Int64} (h : j ≠ i) : zf G (zsL x i k y) j = zf G x j := by
  show zB _ _ _ j _ ((zsL x i k y).2.1 j) _ = zB _ _ _ j _ (x.2.1 j) _
  rw [zsL_n h]
  rfl
theorem zf_P {G : zG} {x : zX} {i k j : Nat} {y : Option Nat} (h : j ≠ i) : zf G (zsP x i k y) j = zf G x j := by
  show zB _ _ _ j _ _ ((zsP x i k y).2.2 j) = zB _ _ _ j _ _ (x.2.2 j)
  rw [zsP_n h]
  rfl
def zw (ad : Nat → Nat) (f : Nat → va_E) (n : Nat) : va_W := (List.range n).map (fun i => (ad i, f i))
theorem zw_get {ad : Nat → Nat} {f : Nat → va_E} {n i : Nat} (h : i < n) : (zw ad f n)[i]? = some (ad i, f i) := by
  unfold zw
  rw [List.getElem?_map, List.getElem?_range h]
  rfl
theorem zw_set {ad : Nat → Nat} {f g : Nat → va_E} {n i : Nat} (h : i < n) (hg : ∀ j, j ≠ i → g j = f j) : (zw ad f n).set i (ad i, g i) = zw ad g n := by
  apply List.ext_getElem?
  intro j
  by_cases hj : j = i
  · subst hj
    rw [List.getElem?_set_self (by simp [zw, h]), zw_get h]
  · rw [List.getElem?_set_ne (Ne.symm hj)]
    unfold zw
    rw [List.getElem?_map, List.getElem?_map]
    by_cases hn : j < n
    · rw [List.getElem?_range hn]
      show some (ad j, f j) = some (ad j, g j)
      rw [hg j hj]
    · rw [List.getElem?_eq_none (by simpa using Nat.le_of_not_lt hn)]
      rfl
/-- the world of a state -/
abbrev zW (G : zG) (x : zX) : va_W := zw (za G) (zf G x) (zn G)
def zJ (G : zG) (x : zX) (A : Nat → Prop) (H : Heap) : Prop := va_P G.1 vwCl (zW G x) H ∧ va_D A (zW G x)
def zI (G : zG) (x : zX) (A : Nat → Prop) (H0 H : Heap) (locs : List Loc) : Prop := zJ G x A H ∧ va_S A H0 H locs
theorem zJ.eq {G : zG} {x y : zX} {A : Nat → Prop} {H : Heap} (h : zJ G x A H) (e : x = y) : zJ G y A H := e ▸ h
theorem zI.eq {G : zG} {x y : zX} {A : Nat → Prop} {H0 H : Heap} {locs : List Loc} (h : zI G x A H0 H locs) (e : x = y) : zI G y A H0 H locs := e ▸ h
/-- kinds of cells, whatever the state -/
def zIA (G : zG) (i N : Nat) : Prop := i < zn G ∧ ∀ x, zf G x i = .inl (G.2.1 0, N, .inl (x.1 i))
def zZA (G : zG) (i N : Nat) : Prop := i < zn G ∧ ∀ x, zf G x i = .inl (G.2.1 1, N, .inl (x.1 i))
def zBA (G : zG) (i N : Nat) : Prop := i < zn G ∧ ∀ x, zf G x i = .inl (G.2.1 2, N, .inl (x.1 i))
def zLA (G : zG) (i N : Nat) : Prop := i < zn G ∧ ∀ x, zf G x i = .inl (G.2.1 3, N, .inr (.inl (x.2.1 i)))
def zPA (G : zG) (i N : Nat) : Prop := i < zn G ∧ ∀ x, zf G x i = .inl (G.2.1 4, N, .inr (.inr (.inr (.inr (fun j => (x.2.2 i j).map (za G))))))
def zOB (G : zG) (i ci : Nat) (F : (Nat → Int32) → (Nat → Int64) → List Value) : Prop := i < zn G ∧ ∀ x, zf G x i = .inr (ci, F (x.1 i) (x.2.1 i))
def zFp (v : Nat → Int32) (_ : Nat → Int64) : List Value := [.int (v 0), .int (v 1), .int (v 2), .int (v 3), .int (v 4)]
/-- a room's place -/
def zRm (b : Nat) : Prop := ∃ r, r < 7 ∧ b = 28 + 7 * r
def zF0 (G : zG) (v : Nat → Int32) (l : Nat → Int64) : List Value := [.ref (za G 1), .ref (za G 2), .int (v 2), .ref (za G 9), .int (v 4), .ref (za G 10), .ref (za G 70), .int (v 7), .ref (za G 11), .int (v 9), .ref (za G 17), .ref (za G 19), .ref (za G 26), .ref (za G 27)]
def zF1 (G : zG) (v : Nat → Int32) (l : Nat → Int64) : List Value := [.ref (za G 3), .ref (za G 4), .ref (za G 5), .int (v 3), .int (v 4), .long (l 5), .int (v 6)]
def zF2 (G : zG) (v : Nat → Int32) (l : Nat → Int64) : List Value := [.ref (za G 6), .ref (za G 7), .ref (za G 8), .int (v 3), .int (v 4), .long (l 5), .int (v 6)]
def zF11 (G : zG) (v : Nat → Int32) (l : Nat → Int64) : List Value := [.ref (za G 12), .ref (za G 13), .ref (za G 14), .ref (za G 15), .ref (za G 16), .int (v 5), .int (v 6), .int (v 7)]
def zF17 (G : zG) (v : Nat → Int32) (l : Nat → Int64) : List Value := [.ref (za G 18), .int (v 1)]
def zF77 (G : zG) (v : Nat → Int32) (l : Nat → Int64) : List Value := [.int (v 0), .int (v 1), .ref (za G 78), .ref (za G 79), .ref (za G 80), .ref (za G 81), .ref (za G 82), .ref (za G 83), .ref (za G 84), .ref (za G 85), .ref (za G 86), .ref (za G 87), .int (v 12), .int (v 13), .int (v 14), .int (v 15), .int (v 16), .ref (za G 88), .ref (za G 89), .ref (za G 90), .ref (za G 91), .ref (za G 92), .ref (za G 93), .ref (za G 94), .ref (za G 95), .int (v 25), .int (v 26), .int (v 27), .ref (za G 96), .ref (za G 97), .ref (za G 98), .ref (za G 99), .ref (za G 100), .ref (za G 101), .int (v 34), .int (v 35), .int (v 36), .int (v 37), .int (v 38), .int (v 39), .ref (za G 102), .ref (za G 103), .ref (za G 104), .ref (za G 105), .ref (za G 106), .int (v 45), .ref (za G 107), .ref (za G 108), .ref (za G 109), .ref (za G 110), .ref (za G 111)]
def zFr (G : zG) (b : Nat) (v : Nat → Int32) (l : Nat → Int64) : List Value := [.ref (za G (b + 1)), .ref (za G (b + 2)), .ref (za G (b + 3)), .ref (za G (b + 4)), .int (v 4), .int (v 5), .int (v 6), .ref (za G (b + 5)), .int (v 8), .int (v 9), .ref (za G (b + 6))]
/-- what a setting must be: it holds the fixed cells, and the pupils' kinds are known -/
def zOK (G : zG) : Prop := 112 ≤ zn G ∧ ∀ i, 112 ≤ i → i < zn G → zk G i = 0 ∨ zk G i = 1 ∨ zk G i = 2 ∨ zk G i = 3 ∨ zk G i = 4 ∨ zk G i = 8 ∨ zk G i = 10
theorem zlt {G : zG} (h : zOK G) {i : Nat} (hi : i < 112) : i < zn G := Nat.lt_of_lt_of_le hi h.1
theorem zo0 {G : zG} (h : zOK G) : zOB G 0 11 (zF0 G) := ⟨zlt h (by decide), fun _ => rfl⟩
theorem zo1 {G : zG} (h : zOK G) : zOB G 1 7 (zF1 G) := ⟨zlt h (by decide), fun _ => rfl⟩
theorem zo2 {G : zG} (h : zOK G) : zOB G 2 7 (zF2 G) := ⟨zlt h (by decide), fun _ => rfl⟩
theorem zo11 {G : zG} (h : zOK G) : zOB G 11 6 (zF11 G) := ⟨zlt h (by decide), fun _ => rfl⟩
theorem zo17 {G : zG} (h : zOK G) : zOB G 17 9 (zF17 G) := ⟨zlt h (by decide), fun _ => rfl⟩
theorem zo77 {G : zG} (h : zOK G) : zOB G 77 12 (zF77 G) := ⟨zlt h (by decide), fun _ => rfl⟩
theorem zo3 {G : zG} (h : zOK G) : zPA G 3 8 := ⟨zlt h (by decide), fun _ => rfl⟩
theorem zo4 {G : zG} (h : zOK G) : zIA G 4 8 := ⟨zlt h (by decide), fun _ => rfl⟩
theorem zo5 {G : zG} (h : zOK G) : zIA G 5 8 := ⟨zlt h (by decide), fun _ => rfl⟩
theorem zo6 {G : zG} (h : zOK G) : zPA G 6 8 := ⟨zlt h (by decide), fun _ => rfl⟩
theorem zo7 {G : zG} (h : zOK G) : zIA G 7 8 := ⟨zlt h (by decide), fun _ => rfl⟩
theorem zo8 {G : zG} (h : zOK G) : zIA G 8 8 := ⟨zlt h (by decide), fun _ => rfl⟩
theorem zo9 {G : zG} (h : zOK G) : zBA G 9 100 := ⟨zlt h (by decide), fun _ => rfl⟩
theorem zo12 {G : zG} (h : zOK G) : zIA G 12 128 := ⟨zlt h (by decide), fun _ => rfl⟩
theorem zo13 {G : zG} (h : zOK G) : zZA G 13 128 := ⟨zlt h (by decide), fun _ => rfl⟩
theorem zo14 {G : zG} (h : zOK G) : zIA G 14 8 := ⟨zlt h (by decide), fun _ => rfl⟩
theorem zo15 {G : zG} (h : zOK G) : zIA G 15 8 := ⟨zlt h (by decide), fun _ => rfl⟩
theorem zo16 {G : zG} (h : zOK G) : zIA G 16 8 := ⟨zlt h (by decide), fun _ => rfl⟩
theorem zo18 {G : zG} (h : zOK G) : zIA G 18 20 := ⟨zlt h (by decide), fun _ => rfl⟩
theorem zo20 {G : zG} (h : zOK G) : zLA G 20 60 := ⟨zlt h (by decide), fun _ => rfl⟩
theorem zo21 {G : zG} (h : zOK G) : zLA G 21 60 := ⟨zlt h (by decide), fun _ => rfl⟩
theorem zo22 {G : zG} (h : zOK G) : zLA G 22 60 := ⟨zlt h (by decide), fun _ => rfl⟩
theorem zo23 {G : zG} (h : zOK G) : zLA G 23 60 := ⟨zlt h (by decide), fun _ => rfl⟩
theorem zo24 {G : zG} (h : zOK G) : zLA G 24 60 := ⟨zlt h (by decide), fun _ => rfl⟩
theorem zo25 {G : zG} (h : zOK G) : zLA G 25 60 := ⟨zlt h (by decide), fun _ => rfl⟩
theorem zo26 {G : zG} (h : zOK G) : zIA G 26 6 := ⟨zlt h (by decide), fun _ => rfl⟩
theorem zo27 {G : zG} (h : zOK G) : zIA G 27 6 := ⟨zlt h (by decide), fun _ => rfl⟩
theorem zo78 {G : zG} (h : zOK G) : zIA G 78 8 := ⟨zlt h (by decide), fun _ => rfl⟩
theorem zo79 {G : zG} (h : zOK G) : zIA G 79 8 := ⟨zlt h (by decide), fun _ => rfl⟩
theorem zo80 {G : zG} (h : zOK G) : zIA G 80 8 := ⟨zlt h (by decide), fun _ => rfl⟩
theorem zo81 {G : zG} (h : zOK G) : zIA G 81 8 := ⟨zlt h (by decide), fun _ => rfl⟩
theorem zo82 {G : zG} (h : zOK G) : zIA G 82 8 := ⟨zlt h (by decide), fun _ => rfl⟩
theorem zo83 {G : zG} (h : zOK G) : zIA G 83 8 := ⟨zlt h (by decide), fun _ => rfl⟩
theorem zo84 {G : zG} (h : zOK G) : zIA G 84 8 := ⟨zlt h (by decide), fun _ => rfl⟩
theorem zo85 {G : zG} (h : zOK G) : zIA G 85 8 := ⟨zlt h (by decide), fun _ => rfl⟩
theorem zo86 {G : zG} (h : zOK G) : zZA G 86 8 := ⟨zlt h (by decide), fun _ => rfl⟩
theorem zo87 {G : zG} (h : zOK G) : zZA G 87 64 := ⟨zlt h (by decide), fun _ => rfl⟩
theorem zo88 {G : zG} (h : zOK G) : zIA G 88 100 := ⟨zlt h (by decide), fun _ => rfl⟩
theorem zo89 {G : zG} (h : zOK G) : zIA G 89 6 := ⟨zlt h (by decide), fun _ => rfl⟩
theorem zo90 {G : zG} (h : zOK G) : zIA G 90 60 := ⟨zlt h (by decide), fun _ => rfl⟩
theorem zo91 {G : zG} (h : zOK G) : zIA G 91 60 := ⟨zlt h (by decide), fun _ => rfl⟩
theorem zo92 {G : zG} (h : zOK G) : zIA G 92 60 := ⟨zlt h (by decide), fun _ => rfl⟩
theorem zo93 {G : zG} (h : zOK G) : zIA G 93 60 := ⟨zlt h (by decide), fun _ => rfl⟩
theorem zo94 {G : zG} (h : zOK G) : zIA G 94 600 := ⟨zlt h (by decide), fun _ => rfl⟩
theorem zo95 {G : zG} (h : zOK G) : zIA G 95 101 := ⟨zlt h (by decide), fun _ => rfl⟩
theorem zo96 {G : zG} (h : zOK G) : zIA G 96 16 := ⟨zlt h (by decide), fun _ => rfl⟩
theorem zo97 {G : zG} (h : zOK G) : zZA G 97 100 := ⟨zlt h (by decide), fun _ => rfl⟩
theorem zo98 {G : zG} (h : zOK G) : zIA G 98 128 := ⟨zlt h (by decide), fun _ => rfl⟩
theorem zo99 {G : zG} (h : zOK G) : zZA G 99 128 := ⟨zlt h (by decide), fun _ => rfl⟩
theorem zo100 {G : zG} (h : zOK G) : zIA G 100 8 := ⟨zlt h (by decide), fun _ => rfl⟩
theorem zo101 {G : zG} (h : zOK G) : zIA G 101 8 := ⟨zlt h (by decide), fun _ => rfl⟩
theorem zo102 {G : zG} (h : zOK G) : zIA G 102 8 := ⟨zlt h (by decide), fun _ => rfl⟩
theorem zo103 {G : zG} (h : zOK G) : zIA G 103 8 := ⟨zlt h (by decide), fun _ => rfl⟩
theorem zo104 {G : zG} (h : zOK G) : zIA G 104 8 := ⟨zlt h (by decide), fun _ => rfl⟩
theorem zo105 {G : zG} (h : zOK G) : zZA G 105 8 := ⟨zlt h (by decide), fun _ => rfl⟩
theorem zo106 {G : zG} (h : zOK G) : zZA G 106 64 := ⟨zlt h (by decide), fun _ => rfl⟩
theorem zo107 {G : zG} (h : zOK G) : zIA G 107 20 := ⟨zlt h (by decide), fun _ => rfl⟩
theorem zo108 {G : zG} (h : zOK G) : zIA G 108 6 := ⟨zlt h (by decide), fun _ => rfl⟩
theorem zo109 {G : zG} (h : zOK G) : zIA G 109 6 := ⟨zlt h (by decide), fun _ => rfl⟩
theorem zo110 {G : zG} (h : zOK G) : zLA G 110 360 := ⟨zlt h (by decide), fun _ => rfl⟩
theorem zo111 {G : zG} (h : zOK G) : zLA G 111 60 := ⟨zlt h (by decide), fun _ => rfl⟩
theorem zo10 {G : zG} (x : zX) : zf G x 10 = .inl (G.2.1 5, 6, .inr (.inr (.inr (.inr (fun j => if j < 6 then some (za G (28 + 7 * j)) else none))))) := rfl
theorem zo19 {G : zG} (x : zX) : zf G x 19 = .inl (G.2.1 6, 6, .inr (.inr (.inr (.inr (fun j => if j < 6 then some (za G (20 + j)) else none))))) := rfl
theorem zol {G : zG} (h : zOK G) {t : Nat} (ht : t < 6) : zLA G (20 + t) 60 := by
  refine ⟨zlt h (by omega), fun x => ?_⟩
  rcases (show t = 0 ∨ t = 1 ∨ t = 2 ∨ t = 3 ∨ t = 4 ∨ t = 5 by omega) with rfl | rfl | rfl | rfl | rfl | rfl <;> rfl
theorem zor {G : zG} (h : zOK G) {b : Nat} (hb : zRm b) : zOB G b 5 (zFr G b) := by
  obtain ⟨r, hr, rfl⟩ := hb
  refine ⟨zlt h (by omega), fun x => ?_⟩
  rcases (show r = 0 ∨ r = 1 ∨ r = 2 ∨ r = 3 ∨ r = 4 ∨ r = 5 ∨ r = 6 by omega) with rfl | rfl | rfl | rfl | rfl | rfl | rfl <;> rfl
theorem zor1 {G : zG} (h : zOK G) {b : Nat} (hb : zRm b) : zIA G (b + 1) 10 := by
  obtain ⟨r, hr, rfl⟩ := hb
  refine ⟨zlt h (by omega), fun x => ?_⟩
  rcases (show r = 0 ∨ r = 1 ∨ r = 2 ∨ r = 3 ∨ r = 4 ∨ r = 5 ∨ r = 6 by omega) with rfl | rfl | rfl | rfl | rfl | rfl | rfl <;> rfl
theorem zor2 {G : zG} (h : zOK G) {b : Nat} (hb : zRm b) : zIA G (b + 2) 10 := by
  obtain ⟨r, hr, rfl⟩ := hb
  refine ⟨zlt h (by omega), fun x => ?_⟩
  rcases (show r = 0 ∨ r = 1 ∨ r = 2 ∨ r = 3 ∨ r = 4 ∨ r = 5 ∨ r = 6 by omega) with rfl | rfl | rfl | rfl | rfl | rfl | rfl <;> rfl
theorem zor3 {G : zG} (h : zOK G) {b : Nat} (hb : zRm b) : zIA G (b + 3) 10 := by
  obtain ⟨r, hr, rfl⟩ := hb
  refine ⟨zlt h (by omega), fun x => ?_⟩
  rcases (show r = 0 ∨ r = 1 ∨ r = 2 ∨ r = 3 ∨ r = 4 ∨ r = 5 ∨ r = 6 by omega) with rfl | rfl | rfl | rfl | rfl | rfl | rfl <;> rfl
theorem zor4 {G : zG} (h : zOK G) {b : Nat} (hb : zRm b) : zIA G (b + 4) 100 := by
  obtain ⟨r, hr, rfl⟩ := hb
  refine ⟨zlt h (by omega), fun x => ?_⟩
  rcases (show r = 0 ∨ r = 1 ∨ r = 2 ∨ r = 3 ∨ r = 4 ∨ r = 5 ∨ r = 6 by omega) with rfl | rfl | rfl | rfl | rfl | rfl | rfl <;> rfl
theorem zor5 {G : zG} (h : zOK G) {b : Nat} (hb : zRm b) : zBA G (b + 5) 100 := by
  obtain ⟨r, hr, rfl⟩ := hb
  refine ⟨zlt h (by omega), fun x => ?_⟩
  rcases (show r = 0 ∨ r = 1 ∨ r = 2 ∨ r = 3 ∨ r = 4 ∨ r = 5 ∨ r = 6 by omega) with rfl | rfl | rfl | rfl | rfl | rfl | rfl <;> rfl
theorem zor6 {G : zG} (h : zOK G) {b : Nat} (hb : zRm b) : zIA G (b + 6) 7 := by
  obtain ⟨r, hr, rfl⟩ := hb
  refine ⟨zlt h (by omega), fun x => ?_⟩
  rcases (show r = 0 ∨ r = 1 ∨ r = 2 ∨ r = 3 ∨ r = 4 ∨ r = 5 ∨ r = 6 by omega) with rfl | rfl | rfl | rfl | rfl | rfl | rfl <;> rfl
theorem zop {G : zG} {i : Nat} (h : 112 ≤ i) (hn : i < zn G) : zOB G i (zk G i) zFp := by
  refine ⟨hn, fun x => ?_⟩
  unfold zf zB
  rw [if_neg (by omega), if_neg (by omega), if_neg (by omega)]
  rfl
