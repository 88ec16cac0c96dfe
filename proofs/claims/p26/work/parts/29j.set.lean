/-! settings, class -/
abbrev s_al (x v : Int32) : Prop := (x = 0 ∧ 0 ≤ v ∧ v ≤ 5) ∨ (x = 1 ∧ 1 ≤ v ∧ v ≤ 99) ∨ (x = 2 ∧ (v = 0 ∨ v = 1)) ∨ (x = 3 ∧ 0 ≤ v ∧ v ≤ 50) ∨ (x = 4 ∧ (v = 0 ∨ v = 1))
theorem f6_al_e (x v : Int32) : f6_isAllowed x v = some (if s_al x v then 1 else 0) := by
  unfold f6_isAllowed s_al
  simp only [f9_side_e, q_b1_s, i_nlt, ite_not]
  by_cases c0 : x = 0
  · subst c0
    by_cases d1 : 0 ≤ v <;> by_cases d2 : v ≤ 5 <;> simp [d1, d2]
  · by_cases c1 : x = 1
    · subst c1
      by_cases d1 : 1 ≤ v <;> by_cases d2 : v ≤ 99 <;> simp [d1, d2]
    · by_cases c2 : x = 2
      · subst c2
        by_cases d1 : v = 0 <;> by_cases d2 : v = 1 <;> simp [d1, d2]
      · by_cases c3 : x = 3
        · subst c3
          by_cases d1 : 0 ≤ v <;> by_cases d2 : v ≤ 50 <;> simp [d1, d2]
        · by_cases c4 : x = 4
          · subst c4
            by_cases d1 : v = 0 <;> by_cases d2 : v = 1 <;> simp [d1, d2]
          · simp [c0, c1, c2, c3, c4]
def w_set (a : aSt) (x v : Int32) : Int32 × aSt :=
  if s_al x v then if a.1 x.toNatClampNeg = v then (-5, a) else (a.1 x.toNatClampNeg, va_up a.1 x.toNatClampNeg v, a.2) else (-2, a)
theorem r_set {a : aSt} {z : gSt} (h : r_c a z) (x v : Int32) : ∃ z2, f6_change z x v = some ((w_set a x v).1, z2) ∧ r_c (w_set a x v).2 z2 := by
  unfold f6_change w_set
  rw [f6_al_e, q_b1_s]
  simp only [q_b0, ite_not]
  by_cases c : s_al x v
  · simp only [if_pos c]
    have key : ∀ k, k < 5 → x.toNatClampNeg = k → f6_value z x = some (z.1 k) → f6_put z x v = some (g_si z k v) → ∃ z2, (g_b1 (f6_value z x) fun r5 => if r5 = v then some ((-5 : Int32), z) else g_b1 (f6_put z x v) fun z9 => some (r5, z9)) = some ((if a.1 x.toNatClampNeg = v then ((-5 : Int32), a) else (a.1 x.toNatClampNeg, va_up a.1 x.toNatClampNeg v, a.2)).1, z2) ∧ r_c (if a.1 x.toNatClampNeg = v then ((-5 : Int32), a) else (a.1 x.toNatClampNeg, va_up a.1 x.toNatClampNeg v, a.2)).2 z2 := by
      intro k hk ek e1 e2
      rw [e1, e2, q_b1_s, q_b1_s, ek, h.1 k (by omega)]
      by_cases d : a.1 k = v
      · simp only [if_pos d]
        exact ⟨z, rfl, h⟩
      · simp only [if_neg d]
        exact ⟨_, rfl, h.si (by omega) v⟩
    have hx : x = nI 0 ∨ x = nI 1 ∨ x = nI 2 ∨ x = nI 3 ∨ x = nI 4 := by
      rcases c with c | c | c | c | c
      · exact Or.inl c.1
      · exact Or.inr (Or.inl c.1)
      · exact Or.inr (Or.inr (Or.inl c.1))
      · exact Or.inr (Or.inr (Or.inr (Or.inl c.1)))
      · exact Or.inr (Or.inr (Or.inr (Or.inr c.1)))
    rcases hx with rfl | rfl | rfl | rfl | rfl
    · exact key 0 (by omega) (nI_clamp (by omega)) rfl rfl
    · exact key 1 (by omega) (nI_clamp (by omega)) rfl rfl
    · exact key 2 (by omega) (nI_clamp (by omega)) rfl rfl
    · exact key 3 (by omega) (nI_clamp (by omega)) rfl rfl
    · exact key 4 (by omega) (nI_clamp (by omega)) rfl rfl
  · simp only [if_neg c]
    exact ⟨z, rfl, h⟩
theorem w_set_ok {a : aSt} (ha : a_ok a) (x v : Int32) : a_ok (w_set a x v).2 := by
  unfold w_set
  split
  · next c =>
    split
    · exact ha
    · obtain ⟨⟨h0, h1, h2, h3, h4, h5⟩, ⟨m, hm, hk4⟩, hos⟩ := ha
      rcases c with ⟨rfl, c⟩ | ⟨rfl, c⟩ | ⟨rfl, c⟩ | ⟨rfl, c⟩ | ⟨rfl, c⟩
      · obtain ⟨j, hj, e⟩ := i_nat (n := 5) (by omega) c.1 c.2
        exact ⟨⟨⟨j, hj, e⟩, h1, h2, h3, h4, h5⟩, ⟨m, hm, hk4⟩, hos⟩
      · exact ⟨⟨h0, i_side c, h2, h3, h4, h5⟩, ⟨m, hm, hk4⟩, hos⟩
      · exact ⟨⟨h0, h1, c, h3, h4, h5⟩, ⟨m, hm, hk4⟩, hos⟩
      · obtain ⟨j, hj, e⟩ := i_nat (n := 50) (by omega) c.1 c.2
        exact ⟨⟨h0, h1, h2, ⟨j, hj, e⟩, h4, h5⟩, ⟨m, hm, hk4⟩, hos⟩
      · exact ⟨⟨h0, h1, h2, h3, c, h5⟩, ⟨m, hm, hk4⟩, hos⟩
  · exact ha
