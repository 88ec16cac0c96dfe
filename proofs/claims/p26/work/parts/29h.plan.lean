/-! the plan, class -/
theorem o_best_mem (P : gOd → Bool) : ∀ (os : List gOd) (b : Option gOd) (o : gOd), o_best P b os = some o → b = some o ∨ o ∈ os := by
  intro os
  induction os with
  | nil => intro b o h; exact Or.inl h
  | cons x xs ih =>
    intro b o h
    rw [o_best_c] at h
    rcases ih _ _ h with q | q
    · split at q
      · cases q
        exact Or.inr (List.mem_cons_self ..)
      · exact Or.inl q
    · exact Or.inr (List.mem_cons_of_mem _ q)
theorem o_best_at {P : gOd → Bool} {os : List gOd} {o : gOd} (h : o_best P none os = some o) : ∃ k : Nat, os[k]? = some o := by
  rcases o_best_mem P os none o h with q | q
  · cases q
  · exact List.getElem?_of_mem q
theorem r_steps (c : Int32) : ∀ (f n j : Nat) (a : aSt) (z : gSt) (v : Option gOd) (x : Int32), j + f = 12 → f < n → a_ok a → r_c a z → (∀ o, v = some o → ∃ k : Nat, a.2.2[k]? = some o) → ∃ z2, f8_planDay_31 n z c v x (nI j) = some ((w_steps c f a v x).1, z2) ∧ r_c (w_steps c f a v x).2 z2 ∧ a_ok (w_steps c f a v x).2 := by
  intro f
  induction f with
  | zero =>
    intro n j a z v x hj hn ha h hv
    obtain ⟨n, rfl⟩ : ∃ k, n = k + 1 := ⟨n - 1, by omega⟩
    obtain rfl : j = 12 := by omega
    refine ⟨z, ?_, h, ha⟩
    rw [f8_planDay_31]
    cases v with
    | none => rw [q_oc_n, if_pos (by decide)]; rfl
    | some w => rw [q_oc_s, if_pos (by decide)]; rfl
  | succ f ih =>
    intro n j a z v x hj hn ha h hv
    obtain ⟨n, rfl⟩ : ∃ k, n = k + 1 := ⟨n - 1, by omega⟩
    rw [f8_planDay_31]
    cases v with
    | none =>
      refine ⟨z, ?_, h, ha⟩
      rw [q_oc_n, ite_self]
      rfl
    | some o =>
      obtain ⟨k, hk⟩ := hv o rfl
      have ho := (ha.2.2.2 k o hk)
      have hk12 : k < 12 := by have := (List.getElem?_eq_some_iff.mp hk).1; have := ha.2.2.1; omega
      have hc : ¬ (12 : Int32) ≤ nI j := by
        rw [l12, nI_leI (by omega) (by omega)]
        omega
      obtain ⟨z1, w, e, h1, h2, h3⟩ := r_chosen ha h ho.1 c
      rw [q_oc_s, if_neg hc, h1, q_bd_s]
      have hj1 : nI j + 1 = nI (j + 1) := nI_add j 1
      rw [hj1]
      cases w with
      | none =>
        rw [q_oc_n, r_next h2.2.2.2 ha.2.2 (some o) (fun l q => by cases q; exact ha.2.2.num hk), q_b1_s]
        have i1 := ih n (j + 1) a z1 (o_best (o_nx (some o)) none a.2.2) x (by omega) (by omega) ha h2 (fun o2 q => o_best_at q)
        rw [w_steps, ch_at_n h3]
        show ∃ z2, _ = some ((w_steps c f a (o_best (o_nx (some o)) none a.2.2) x).1, z2) ∧ r_c (w_steps c f a (o_best (o_nx (some o)) none a.2.2) x).2 z2 ∧ a_ok (w_steps c f a (o_best (o_nx (some o)) none a.2.2) x).2
        generalize o_best (o_nx (some o)) none a.2.2 = b at i1 ⊢
        cases b with
        | none => rw [q_oc_n]; exact i1
        | some b => rw [q_oc_s]; exact i1
      | some s =>
        have hu := ha.2.1
        obtain ⟨m, hm, hk4⟩ := hu
        obtain ⟨r, p, hr, hs, hf, hat⟩ := ch_at_s hk4.2.2.1 h3
        obtain ⟨z3, y1, y2⟩ := r_cut ha h2 hr hs hk hf
        have ha3 := t_cut_ok ha hr hs hk
        have ek : o.1.toNatClampNeg = k := by rw [ho.2, nI_clamp (by omega)]
        rw [q_oc_s, y1, q_bd_s, w_steps, hat]
        show ∃ z2, _ = some ((w_steps c f (t_cut a r p o.1.toNatClampNeg s o).2 (o_best (o_nx (some o)) none (t_cut a r p o.1.toNatClampNeg s o).2.2.2) (if (t_cut a r p o.1.toNatClampNeg s o).1 = 10 then x else x + 1)).1, z2) ∧ r_c (w_steps c f (t_cut a r p o.1.toNatClampNeg s o).2 (o_best (o_nx (some o)) none (t_cut a r p o.1.toNatClampNeg s o).2.2.2) (if (t_cut a r p o.1.toNatClampNeg s o).1 = 10 then x else x + 1)).2 z2 ∧ a_ok (w_steps c f (t_cut a r p o.1.toNatClampNeg s o).2 (o_best (o_nx (some o)) none (t_cut a r p o.1.toNatClampNeg s o).2.2.2) (if (t_cut a r p o.1.toNatClampNeg s o).1 = 10 then x else x + 1)).2
        rw [ek]
        have i1 := fun y => ih n (j + 1) (t_cut a r p k s o).2 z3 (o_best (o_nx (some o)) none (t_cut a r p k s o).2.2.2) y (by omega) (by omega) ha3 y2 (fun o2 q => o_best_at q)
        rw [r_next y2.2.2.2 ha3.2.2 (some o) (fun l q => by cases q; exact ha.2.2.num hk)]
        simp only [q_b1_s]
        generalize o_best (o_nx (some o)) none (t_cut a r p k s o).2.2.2 = b at i1 ⊢
        by_cases c10 : (t_cut a r p k s o).1 = 10
        · simp only [if_pos c10]
          cases b with
          | none => rw [q_oc_n]; exact i1 x
          | some b => rw [q_oc_s]; exact i1 x
        · simp only [if_neg c10]
          cases b with
          | none => rw [q_oc_n]; exact i1 (x + 1)
          | some b => rw [q_oc_s]; exact i1 (x + 1)
