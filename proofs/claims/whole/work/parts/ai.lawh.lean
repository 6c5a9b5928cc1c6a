/-! THE LAW'S WALK: its arguments, a call that may make a pupil -/
theorem z_arg {p : Program} {l : Launch} {e : Env} {RM : Room} {s : State} {m : MethodId} {args : Array Value} {below : List Frame} {meth : Method} {c : Code} {H : Heap} {locs : List Loc} {cells slots : Nat} {Q : State → Prop} {A : Nat → Prop} {b Ln j k pc : Nat} {kc : Int} {xs : Nat → Int32} {ls : Array Slot} {rest : List Value} {o1 o2 : Nat} (hx : p.tables.exec = Jvm.exec) (hb : c.code = cL_law) (hX : va_X b Ln xs s s.heap) (hbl : b < s.heap.size) (hbA : ¬ A b) (hS : va_S A s.heap H locs) (hl : lv_has ls 4 [(3, .int (nI j)), (2, .ref o2), (1, .ref o1), (0, .ref b)]) (d0 : decode cL_law pc = .ok (.aload_n 0, 1)) (d1 : decode cL_law (pc + 1) = .ok (.iload_n 3, 1)) (d2 : decode cL_law (pc + 2) = .ok (.iconst kc, 1)) (d3 : decode cL_law (pc + 3) = .ok (.iadd, 1)) (d4 : decode cL_law (pc + 4) = .ok (.iaload, 1)) (hk : Int32.ofInt kc = nI k) (hj : j + k < Ln) (hLn : Ln ≤ 3072)
    (kk : W p l e RM s m args below meth c H locs cells slots Q (F0 m (pc + 5) ls (.int (xs (j + k)) :: rest))) : W p l e RM s m args below meth c H locs cells slots Q (F0 m pc ls rest) := by
  refine lv_aload_n hx hb d0 rfl (lv_at hl 3 rfl) ?_
  refine lv_iload_n hx hb d1 rfl (lv_at hl 0 rfl) ?_
  refine lv_iconst hx hb d2 hk ?_
  refine lv_iadd hx hb d3 ?_
  rw [nI_add]
  refine va_sld hx hb hX hbl hbA hS (i := nI (j + k)) (fun h => h.elim (nI_pos (by omega)) (fun h => by rw [nI_clamp (by omega)] at h; omega)) d4 ?_
  rw [nI_clamp (by omega)]
  exact kk
theorem z_callg {p : Program} {l : Launch} {e : Env} {R : Room} {s : State} {m : MethodId} {args : Array Value} {below : List Frame} {meth : Method} {c : Code} {H : Heap} {locs : List Loc} {cells slots : Nat} {Q : State → Prop} {pc : Nat} {ls : Array Slot} {rest st0 : List Value} {G : zG} {x : zX} {A : Nat → Prop} {H0 : Heap} {a : Array Value} {post : Int32 → zG × zX → Prop} (hr : va_Run p l e R s m args below meth c H locs cells slots 1 5 (F0 m pc ls st0) rest (va_Qi post (fun u t => zJ u.1 u.2 A t.heap) A a) A) (hI : zI G x A H0 H locs)
    (kk : ∀ (r : Int32) (u : zG × zX) (H1 : Heap) (locs1 : List Loc), post r u → zI u.1 u.2 A H0 H1 locs1 → W p l e R s m args below meth c H1 locs1 (cells + 1) (slots + 5) Q (F0 m (pc + 3) ls (.int r :: rest))) : W p l e R s m args below meth c H locs cells slots Q (F0 m pc ls st0) :=
  va_calli hr hI.2 (fun _ _ h => h) (fun _ h => h) (fun r u t H1 locs1 ht _ hw hB _ _ hS => kk r u H1 locs1 hw ⟨(by rw [← ht]; exact hB), hS⟩)
