/-! THE RELATION, the text that is fed -/
def zRf (x : zX) (F : Nat) : Prop := F ≤ 100 ∧ x.1 0 4 = nI F ∧ x.1 77 14 = nI F ∧ (∀ k, k < 100 → ∃ q, q < 128 ∧ x.1 9 k = nI q) ∧ ∀ k, k < F → x.1 9 k = x.1 88 k
def zEf (x u : zX) : Prop := (∀ i, ¬ i = 0 → ¬ i = 77 → ¬ i = 9 → ¬ i = 88 → u.1 i = x.1 i) ∧ (∀ k, ¬ k = 4 → u.1 0 k = x.1 0 k) ∧ (∀ k, ¬ k = 14 → u.1 77 k = x.1 77 k) ∧ u.2 = x.2
theorem zEf.rf {x : zX} : zEf x x := ⟨fun _ _ _ _ _ => rfl, fun _ _ => rfl, fun _ _ => rfl, rfl⟩
theorem e_feed {x u1 u2 : zX} {f : Nat} {q r1 r2 : Int32} (h : zRf x f)
    (h1 : (¬ (¬ q < 0 ∧ ¬ nI 127 < q) ∧ x = u1 ∧ -2 = r1) ∨ ((¬ q < 0 ∧ ¬ nI 127 < q) ∧ f = 100 ∧ x = u1 ∧ -4 = r1) ∨ ((¬ q < 0 ∧ ¬ nI 127 < q) ∧ f < 100 ∧ zsI (zsI x 9 f q) 0 4 (nI (f + 1)) = u1 ∧ nI (f + 1) = r1))
    (h2 : (¬ (¬ q < 0 ∧ ¬ nI 127 < q) ∧ u1 = u2 ∧ -2 = r2) ∨ ((¬ q < 0 ∧ ¬ nI 127 < q) ∧ f = 100 ∧ u1 = u2 ∧ -4 = r2) ∨ ((¬ q < 0 ∧ ¬ nI 127 < q) ∧ f < 100 ∧ zsI (zsI u1 88 f q) 77 14 (nI (f + 1)) = u2 ∧ nI (f + 1) = r2)) : r1 = r2 ∧ (∃ F, zRf u2 F) ∧ zEf x u2 := by
  rcases h1 with ⟨n1, rfl, rfl⟩ | ⟨n1, b1, rfl, rfl⟩ | ⟨n1, b1, rfl, rfl⟩
  · rcases h2 with ⟨n2, rfl, rfl⟩ | ⟨n2, -⟩ | ⟨n2, -⟩
    · exact ⟨rfl, ⟨f, h⟩, zEf.rf⟩
    · exact absurd n2 n1
    · exact absurd n2 n1
  · rcases h2 with ⟨n2, -⟩ | ⟨n2, b2, rfl, rfl⟩ | ⟨n2, b2, -⟩
    · exact absurd n1 n2
    · exact ⟨rfl, ⟨f, h⟩, zEf.rf⟩
    · omega
  · rcases h2 with ⟨n2, -⟩ | ⟨n2, b2, -⟩ | ⟨n2, b2, rfl, rfl⟩
    · exact absurd n1 n2
    · omega
    · obtain ⟨k9, hk9, rfl⟩ := z_nat n1.1
      have hlt : k9 < 128 := by
        have h9 := n1.2
        rw [zqL (by decide) hk9] at h9
        omega
      refine ⟨rfl, ⟨f + 1, by omega, rfl, rfl, fun k hk => ?_, fun k hk => ?_⟩, fun i i1 i2 i3 i4 => ?_, fun k hk => ?_, fun k hk => ?_, rfl⟩
      · show ∃ q, q < 128 ∧ upd (x.1 9) f (nI k9) k = nI q
        by_cases e : k = f
        · exact ⟨k9, hlt, if_pos e⟩
        · rw [show upd (x.1 9) f (nI k9) k = x.1 9 k from if_neg e]
          exact h.2.2.2.1 k hk
      · show upd (x.1 9) f (nI k9) k = upd (x.1 88) f (nI k9) k
        by_cases e : k = f
        · rw [show upd (x.1 9) f (nI k9) k = nI k9 from if_pos e, show upd (x.1 88) f (nI k9) k = nI k9 from if_pos e]
        · rw [show upd (x.1 9) f (nI k9) k = x.1 9 k from if_neg e, show upd (x.1 88) f (nI k9) k = x.1 88 k from if_neg e]
          exact h.2.2.2.2 k (by omega)
      · show (zsI (zsI (zsI (zsI x 9 f (nI k9)) 0 4 (nI (f + 1))) 88 f (nI k9)) 77 14 (nI (f + 1))).1 i = x.1 i
        rw [zsI_n i2, zsI_n i4, zsI_n i1, zsI_n i3]
      · show upd (x.1 0) 4 (nI (f + 1)) k = x.1 0 k
        exact if_neg hk
      · show upd (x.1 77) 14 (nI (f + 1)) k = x.1 77 k
        exact if_neg hk
