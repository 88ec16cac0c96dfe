theorem k_ok.put {m : Nat} {L : Nat → List gSh} (h : k_ok m L) {r : Nat} (hl : (L r).length < 8) {v : gSh} (hv : s_ok v) (e : ∃ k, k < m ∧ v.1 = nI k) (old : ∀ r2, r2 < 4 → ∀ s ∈ L r2, s.1 ≠ v.1) : k_ok m (va_up L r (L r ++ [v])) := by
  rw [k_ok_iff] at h ⊢
  obtain ⟨h1, h2, h3, h4⟩ := h
  rw [r_un_iff] at h3 ⊢
  have sp : ∀ (r4 : Nat) (u : gSh), u ∈ va_up L r (L r ++ [v]) r4 → u ∈ L r4 ∨ (u = v ∧ r4 = r) := by
    intro r4 u hu
    by_cases c : r4 = r
    · subst c
      rw [va_up_at, List.mem_append, List.mem_singleton] at hu
      exact hu.imp_right (fun q => ⟨q, rfl⟩)
    · rw [va_up_ne _ _ c] at hu
      exact Or.inl hu
  refine ⟨h1, fun r2 hr2 => ?_, ⟨fun r2 hr2 => ?_, fun r2 r3 hr2 hr3 hne x hx y hy => ?_⟩, fun r2 hr2 s hs => ?_⟩
  · by_cases c : r2 = r
    · subst c; rw [va_up_at, List.length_append]; exact hl
    · rw [va_up_ne _ _ c]; exact h2 r2 hr2
  · by_cases c : r2 = r
    · subst c
      rw [va_up_at, List.pairwise_append]
      refine ⟨h3.1 r2 hr2, List.pairwise_singleton _ _, fun x hx y hy => ?_⟩
      rw [List.mem_singleton] at hy
      subst hy
      exact old r2 hr2 x hx
    · rw [va_up_ne _ _ c]; exact h3.1 r2 hr2
  · rcases sp r2 x hx with p | p <;> rcases sp r3 y hy with q | q
    · exact h3.2 r2 r3 hr2 hr3 hne x p y q
    · rw [q.1]; exact old r2 hr2 x p
    · rw [p.1]; exact fun t => old r3 hr3 y q t.symm
    · exact absurd (p.2.trans q.2.symm) hne
  · rcases sp r2 s hs with p | p
    · exact h4 r2 hr2 s p
    · rw [p.1]; exact ⟨hv, e⟩
theorem t_out_gone {a : aSt} (ha : a_ok a) {r p : Nat} {s : gSh} (hr : r < 4) (hs : (a.2.1 r)[p]? = some s) : ∀ r2, r2 < 4 → ∀ u ∈ (t_out a r p s).2.2.1 r2, u.1 ≠ s.1 := by
  obtain ⟨hn, ⟨m, hm, hk4⟩, hos⟩ := ha
  have hp : p < (a.2.1 r).length := (List.getElem?_eq_some_iff.mp hs).1
  intro r2 hr2 u hu q
  by_cases c : r2 = r
  · subst c
    obtain ⟨i, hi, e⟩ := List.mem_eraseIdx_iff_getElem?.mp ((t_out_sub a s hp).subset hu)
    exact hi (hk4.2.2.1 _ _ _ _ _ _ hr hr e hs q).2
  · rw [t_out_ne a p s c] at hu
    obtain ⟨i, e⟩ := List.getElem?_of_mem hu
    exact c (hk4.2.2.1 _ _ _ _ _ _ hr2 hr e hs q).1
theorem w_move_ok {a : aSt} (ha : a_ok a) {r p : Nat} {s : gSh} (hr : r < 4) (hs : (a.2.1 r)[p]? = some s) (x : Int32) : a_ok (w_move a r p s x).2 := by
  have h1 := t_out_ok ha hr hs
  have h2 := t_out_gone ha hr hs
  have hp : p < (a.2.1 r).length := (List.getElem?_eq_some_iff.mp hs).1
  unfold w_move
  split
  · next c1 =>
    obtain ⟨j, hj, rfl⟩ := i_nat (n := 3) (by omega) c1.1 c1.2
    rw [nI_clamp (by omega)]
    split
    · next c2 =>
      show a_ok (if (t_out a r p s).1 = 0 then (t_out a r p s).2 else ((t_out a r p s).2.1, va_up (t_out a r p s).2.2.1 j ((t_out a r p s).2.2.1 j ++ [s]), (t_out a r p s).2.2.2))
      split
      · exact h1
      · obtain ⟨gn, ⟨m2, gm, gk⟩, gos⟩ := h1
        obtain ⟨hn, ⟨m, hm, hk4⟩, hos⟩ := ha
        have em : m2 = m := by
          have e1 := (t_out_nu a r p s (k := 12) (by omega) (by omega)).symm.trans gm
          rw [hm] at e1
          have := gk.1
          have := hk4.1
          exact ((nI_eq (by omega) (by omega)).mp e1).symm
        subst em
        have hlen : ((t_out a r p s).2.2.1 j).length < 8 := by
          by_cases cj : j = r
          · subst cj
            have hsub := (t_out_sub a (r := j) s hp).length_le
            rw [List.length_eraseIdx, if_pos hp] at hsub
            have := hk4.2.1 j hr
            omega
          · rw [t_out_ne a p s cj]
            exact c2.resolve_left (fun q => cj ((nI_eq (by omega) (by omega)).mp q).symm)
        obtain ⟨b1, b2⟩ := hk4.2.2.2 r p s hr hs
        exact ⟨gn, ⟨m2, gm, gk.put hlen b1 b2 h2⟩, gos⟩
    · exact ha
  · exact ha
