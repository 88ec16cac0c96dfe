noncomputable def w_plan (a : aSt) (c : Int32) : Int32 × aSt :=
  if 0 ≤ c ∧ c ≤ 2 then (match o_best (o_nx none) none a.2.2 with | none => (-5, a) | some o => w_steps c 12 a (some o) 0) else (-2, a)
theorem r_plan {a : aSt} (ha : a_ok a) {z : gSt} (h : r_c a z) (c : Int32) : ∃ z2, f8_planDay z c = some ((w_plan a c).1, z2) ∧ r_c (w_plan a c).2 z2 ∧ a_ok (w_plan a c).2 := by
  unfold f8_planDay w_plan
  rw [f9_choice_e, q_b1_s]
  simp only [q_b0, ite_not]
  by_cases c1 : 0 ≤ c ∧ c ≤ 2
  · simp only [if_pos c1]
    rw [r_next h.2.2.2 ha.2.2 none (fun l q => by cases q), q_b1_s]
    cases hb : o_best (o_nx none) none a.2.2 with
    | none =>
      rw [q_oc_n]
      exact ⟨z, rfl, h, ha⟩
    | some o =>
      rw [q_oc_s]
      have i1 := r_steps c 12 13 0 a z (some o) 0 (by omega) (by omega) ha h (fun o2 q => by cases q; exact o_best_at hb)
      rw [nI_0] at i1
      exact i1
  · simp only [if_neg c1]
    exact ⟨z, rfl, h, ha⟩
