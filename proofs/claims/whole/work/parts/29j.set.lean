/-! settings, class -/
abbrev s_al (x v : Int32) : Prop := (x = 0 ∧ 0 ≤ v ∧ v ≤ 5) ∨ (x = 1 ∧ 1 ≤ v ∧ v ≤ 99) ∨ (x = 2 ∧ (v = 0 ∨ v = 1)) ∨ (x = 3 ∧ 0 ≤ v ∧ v ≤ 50) ∨ (x = 4 ∧ (v = 0 ∨ v = 1))
theorem f6_al_e (x v : Int32) : f6_isAllowed x v = some (if s_al x v then 1 else 0) := by
  unfold f6_isAllowed s_al
  simp only [f9_side_e, q_b1_s, i_nlt, ite_not]
  by_cases c0 : x = 0
  · subst c0
    by_cases d1 : 0 ≤ v <;> by_cases d2 : v ≤ 5 <;> simp [d1, d2]
  · by_cases c1 : x = 1
    · subst c1
      by_cases d1 : 1 ≤ v <;> by_cases d2 : v ≤ 99 <;> simp [d1, d2]
    · by_cases c2 : x = 2
      · subst c2
        by_cases d1 : v = 0 <;> by_cases d2 : v = 1 <;> simp [d1, d2]
      · by_cases c3 : x = 3
        · subst c3
          by_cases d1 : 0 ≤ v <;> by_cases d2 : v ≤ 50 <;> simp [d1, d2]
        · by_cases c4 : x = 4
          · subst c4
            by_cases d1 : v = 0 <;> by_cases d2 : v = 1 <;> simp [d1, d2]
          · simp [c0, c1, c2, c3, c4]
