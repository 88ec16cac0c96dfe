/-! THE REFERENCE: an act is taken back; the class: copies and history -/
theorem m_undo_l {h : Nat} (hh : h < 4) : ∀ (d n k : Nat) (M : gMo), k + d = 1134 → d < n → M.2 5 = nI h → ∃ M2, f10_undo_22 n M (nI k) = some (nI h, M2) ∧ M2.2 = M.2 ∧ (∀ c, c ≠ 0 → M2.1 c = M.1 c) ∧ ∀ j, M2.1 0 j = if k ≤ j ∧ j < 1134 then M.1 3 (1134 * h + j) else M.1 0 j := by
  intro d
  induction d with
  | zero =>
    intro n k M hk hn h5
    obtain ⟨n, rfl⟩ : ∃ k, n = k + 1 := ⟨n - 1, by omega⟩
    rw [f10_undo_22, if_pos (by rw [l1134, nI_leI (by omega) (by omega)]; omega), h5]
    exact ⟨M, rfl, rfl, fun _ _ => rfl, fun j => by rw [if_neg (by omega)]⟩
  | succ d ih =>
    intro n k M hk hn h5
    obtain ⟨n, rfl⟩ : ∃ k, n = k + 1 := ⟨n - 1, by omega⟩
    rw [f10_undo_22, if_neg (by rw [l1134, nI_leI (by omega) (by omega)]; omega), h5]
    rw [l1134, pk_mul, nI_add, show nI k + 1 = nI (k + 1) from nI_add k 1]
    simp (disch := omega) only [q_in, nI_clamp, q_let]
    rw [if_pos (by omega), if_pos (by omega)]
    obtain ⟨M2, e1, e2, e3, e4⟩ := ih n (k + 1) (g_ma M 0 k (M.1 3 (1134 * h + k))) (by omega) (by omega) h5
    refine ⟨M2, e1, e2, fun c hc => (e3 c hc).trans (g_ma_o M _ _ hc), fun j => ?_⟩
    rw [e4 j, g_ma_o M _ _ (by omega), g_ma_b, q_up]
    by_cases c : j = k
    · subst c
      rw [if_neg (by omega), if_pos rfl, if_pos (by omega)]
    · by_cases c2 : k + 1 ≤ j ∧ j < 1134
      · rw [if_pos c2, if_pos (by omega)]
      · rw [if_neg c2, if_neg c, if_neg (by omega)]
theorem m_undo_n {M : gMo} (h : m_hi [] M) : f10_undo M = some (-5, M) := by
  unfold f10_undo
  rw [if_neg (not_not_intro (h.1.trans nI_0))]
theorem m_undo_s {hs : List aSt} {a : aSt} {M : gMo} (h : m_hi (hs ++ [a]) M) : ∃ M2, f10_undo M = some (nI hs.length, M2) ∧ m_hi hs M2 ∧ r_m a (M2.1 0) ∧ (∀ j, j ≠ 5 → M2.2 j = M.2 j) ∧ ∀ c, c ≠ 0 → M2.1 c = M.1 c := by
  obtain ⟨g1, g2, g3⟩ := h
  rw [List.length_append, List.length_singleton] at g1 g2
  unfold f10_undo
  have e0 : ¬ M.2 5 = 0 := by
    rw [g1, ← nI_0, nI_eq (by omega) (by omega)]
    omega
  rw [if_pos e0, g1, show nI (hs.length + 1) - (1 : Int32) = nI hs.length from pk_sub (b := 1) (by omega), q_let, ← nI_0]
  obtain ⟨M2, e1, e2, e3, e4⟩ := m_undo_l (h := hs.length) (by omega) 1134 1200 0 (g_mi M 5 (nI hs.length)) (by omega) (by omega) (va_up_at M.2 5 (nI hs.length))
  have ex : (hs ++ [a])[hs.length]? = some a := by simp
  obtain ⟨q1, q2⟩ := g3 _ _ ex
  refine ⟨M2, e1, ⟨by rw [e2]; exact va_up_at M.2 5 (nI hs.length), by omega, fun i x hx => ?_⟩, q2.cg q1 (fun k hk => ?_), fun j hj => by rw [e2]; exact va_up_ne _ _ hj, e3⟩
  · have hi : i < hs.length := (List.getElem?_eq_some_iff.mp hx).1
    obtain ⟨p1, p2⟩ := g3 i x (by rw [List.getElem?_append_left hi]; exact hx)
    refine ⟨p1, p2.cg p1 (fun k hk => ?_)⟩
    rw [e3 3 (by omega)]
    rfl
  · rw [e4, if_pos (by omega)]
    rfl
theorem f4_copy_l (s : gSt) : ∀ (d n k : Nat) (z : gSt), k + d = 12 → d < n → f4_copyFrom_10 s n z (nI k) = some (z.1, z.2.1, fun j => if k ≤ j ∧ j < 12 then s.2.2 j else z.2.2 j) := by
  intro d
  induction d with
  | zero =>
    intro n k z hk hn
    obtain ⟨n, rfl⟩ : ∃ k, n = k + 1 := ⟨n - 1, by omega⟩
    rw [f4_copyFrom_10, if_pos (by rw [l12, nI_leI (by omega) (by omega)]; omega)]
    refine congrArg some (Prod.ext rfl (Prod.ext rfl (funext fun j => ?_)))
    show z.2.2 j = if k ≤ j ∧ j < 12 then s.2.2 j else z.2.2 j
    rw [if_neg (by omega)]
  | succ d ih =>
    intro n k z hk hn
    obtain ⟨n, rfl⟩ : ∃ k, n = k + 1 := ⟨n - 1, by omega⟩
    have nb : f4_numbered s (nI k) = some (s.2.2 k) := by
      unfold f4_numbered
      simp (disch := omega) only [l12, nI_leI, q_lt0, q_in, nI_clamp, if_false]
      rw [if_neg (by omega), if_pos (by omega)]
      cases s.2.2 k <;> rfl
    rw [f4_copyFrom_10, if_neg (by rw [l12, nI_leI (by omega) (by omega)]; omega), nb, q_b1_s, show nI k + 1 = nI (k + 1) from nI_add k 1]
    simp (disch := omega) only [q_in, nI_clamp, q_let]
    have fin : ∀ x, x = s.2.2 k → f4_copyFrom_10 s n (g_so z k x) (nI (k + 1)) = some (z.1, z.2.1, fun j => if k ≤ j ∧ j < 12 then s.2.2 j else z.2.2 j) := by
      intro x hx
      rw [ih n (k + 1) (g_so z k x) (by omega) (by omega)]
      refine congrArg some (Prod.ext rfl (Prod.ext rfl (funext fun j => ?_)))
      show (if k + 1 ≤ j ∧ j < 12 then s.2.2 j else if j = k then x else z.2.2 j) = if k ≤ j ∧ j < 12 then s.2.2 j else z.2.2 j
      by_cases c : j = k
      · subst c
        rw [if_neg (by omega), if_pos rfl, if_pos (by omega), hx]
      · by_cases c2 : k + 1 ≤ j ∧ j < 12
        · rw [if_pos c2, if_pos (by omega)]
        · rw [if_neg c2, if_neg c, if_neg (by omega)]
    cases e : s.2.2 k with
    | none => rw [q_oc_n, if_pos (by omega)]; exact fin _ e.symm
    | some v => rw [q_oc_s, if_pos (by omega)]; exact fin _ e.symm
theorem f5_copy_l (s : gSt) : ∀ (d n k : Nat) (z : gSt), k + d = 32 → d < n → f5_copyFrom_10 s n z (nI k) = some (z.1, (fun j => if k ≤ j ∧ j < 32 then s.2.1 j else z.2.1 j), z.2.2) := by
  intro d
  induction d with
  | zero =>
    intro n k z hk hn
    obtain ⟨n, rfl⟩ : ∃ k, n = k + 1 := ⟨n - 1, by omega⟩
    rw [f5_copyFrom_10, if_pos (by rw [l32, nI_leI (by omega) (by omega)]; omega)]
    refine congrArg some (Prod.ext rfl (Prod.ext (funext fun j => ?_) rfl))
    show z.2.1 j = if k ≤ j ∧ j < 32 then s.2.1 j else z.2.1 j
    rw [if_neg (by omega)]
  | succ d ih =>
    intro n k z hk hn
    obtain ⟨n, rfl⟩ : ∃ k, n = k + 1 := ⟨n - 1, by omega⟩
    rw [f5_copyFrom_10, if_neg (by rw [l32, nI_leI (by omega) (by omega)]; omega), r_inslot s (by omega), q_b1_s, show nI k + 1 = nI (k + 1) from nI_add k 1]
    simp (disch := omega) only [q_in, nI_clamp, q_let]
    have fin : ∀ x, x = s.2.1 k → f5_copyFrom_10 s n (g_ss z k x) (nI (k + 1)) = some (z.1, (fun j => if k ≤ j ∧ j < 32 then s.2.1 j else z.2.1 j), z.2.2) := by
      intro x hx
      rw [ih n (k + 1) (g_ss z k x) (by omega) (by omega)]
      refine congrArg some (Prod.ext rfl (Prod.ext (funext fun j => ?_) rfl))
      show (if k + 1 ≤ j ∧ j < 32 then s.2.1 j else if j = k then x else z.2.1 j) = if k ≤ j ∧ j < 32 then s.2.1 j else z.2.1 j
      by_cases c : j = k
      · subst c
        rw [if_neg (by omega), if_pos rfl, if_pos (by omega), hx]
      · by_cases c2 : k + 1 ≤ j ∧ j < 32
        · rw [if_pos c2, if_pos (by omega)]
        · rw [if_neg c2, if_neg c, if_neg (by omega)]
    cases e : s.2.1 k with
    | none => rw [q_oc_n, if_pos (by omega)]; exact fin _ e.symm
    | some v => rw [q_oc_s, if_pos (by omega)]; exact fin _ e.symm
theorem r_copy {a : aSt} {s : gSt} (h : r_c a s) (z : gSt) : ∃ z2, f8_copyFrom z s = some z2 ∧ r_c a z2 := by
  obtain ⟨h1, h2, h3, h4⟩ := h
  unfold f8_copyFrom f6_copyFrom f5_copyFrom f4_copyFrom
  simp only [q_let, q_b1_s]
  rw [← nI_0, f5_copy_l s 32 70 0 _ (by omega) (by omega), q_b1_s, f4_copy_l s 12 70 0 _ (by omega) (by omega), q_b1_s]
  refine ⟨_, rfl, fun k hk => ?_, ?_, fun r p hr hp => ?_, h4.1, fun k hk => ?_⟩
  · simp only [g_si, q_up]
    have : k = 0 ∨ k = 1 ∨ k = 2 ∨ k = 3 ∨ k = 4 ∨ k = 5 ∨ k = 6 ∨ k = 7 ∨ k = 8 ∨ k = 9 ∨ k = 10 ∨ k = 11 ∨ k = 12 := by omega
    rcases this with rfl | rfl | rfl | rfl | rfl | rfl | rfl | rfl | rfl | rfl | rfl | rfl | rfl <;> exact h1 _ (by omega)
  · simp only [g_si, q_up]
    exact h2
  · show (if 0 ≤ 8 * r + p ∧ 8 * r + p < 32 then s.2.1 (8 * r + p) else _) = _
    rw [if_pos (by omega)]
    exact h3 r p hr hp
  · show (if 0 ≤ k ∧ k < 12 then s.2.2 k else _) = _
    rw [if_pos (by omega)]
    exact h4.2 k hk
/-- the class's history -/
def c_hi (hs : List aSt) (μ : gMu) : Prop := μ.2.1.2 = nI hs.length ∧ hs.length ≤ 4 ∧ (∀ i, i < 4 → 3 ≤ μ.2.1.1 i ∧ μ.2.1.1 i < 7) ∧ (∀ i j, i < 4 → j < 4 → μ.2.1.1 i = μ.2.1.1 j → i = j) ∧ ∀ i a, hs[i]? = some a → r_c a (μ.1 (μ.2.1.1 i))
theorem f2_at (μ : gMu) {i : Nat} (hi : i < 4) : f2_stateAt μ (nI i) = some (some (μ.2.1.1 i)) := by
  unfold f2_stateAt
  simp (disch := omega) only [l4, nI_leI, q_lt0, q_in, nI_clamp, if_false, q_let]
  rw [if_neg (by omega), if_pos (by omega)]
theorem f2_at_m (μ : gMu) : f2_stateAt μ (-1) = some none := by
  unfold f2_stateAt
  rw [if_pos (by decide)]
/-- the record behind what is dropped -/
theorem r_rec {hs : List aSt} {μ : gMu} (h : c_hi hs μ) (hl : hs.length < 4) {a : aSt} (ha : r_c a (μ.1 1)) : ∃ μ2, f2_record_16 1 μ = some μ2 ∧ c_hi (hs ++ [a]) μ2 ∧ (∀ i, i < 3 → μ2.1 i = μ.1 i) ∧ μ2.2.2 = μ.2.2 := by
  obtain ⟨h1, h2, h3, h4, h5⟩ := h
  have b := h3 hs.length hl
  obtain ⟨z2, e1, e2⟩ := r_copy ha (μ.1 (μ.2.1.1 hs.length))
  unfold f2_record_16
  rw [h1, f2_at μ hl, q_b1_s, q_oc_s, if_pos (by omega), e1, q_b1_s, q_let, q_let]
  refine ⟨_, rfl, ⟨?_, by rw [List.length_append]; exact hl, h3, h4, fun i x hx => ?_⟩, fun i hi => va_up_ne _ _ (by omega), rfl⟩
  · show μ.2.1.2 + 1 = _
    rw [h1, List.length_append]
    exact nI_add _ 1
  · show r_c x (va_up μ.1 (μ.2.1.1 hs.length) z2 (μ.2.1.1 i))
    by_cases c : i < hs.length
    · rw [List.getElem?_append_left c] at hx
      rw [va_up_ne _ _ (fun q => by have := h4 i hs.length (by omega) hl q; omega)]
      exact h5 i x hx
    · rw [List.getElem?_append_right (by omega)] at hx
      have hj : i - hs.length = 0 := by
        have := (List.getElem?_eq_some_iff.mp hx).1
        simp at this
        omega
      rw [hj] at hx
      cases hx
      rw [show i = hs.length by omega, va_up_at]
      exact e2
theorem f2_drop_e (μ : gMu) : f2_dropOldest μ = some (g_hr (g_hs (g_hs (g_hs (g_hs μ 0 (μ.2.1.1 1)) 1 (μ.2.1.1 2)) 2 (μ.2.1.1 3)) 3 (μ.2.1.1 0)) (μ.2.1.2 - 1)) := by
  unfold f2_dropOldest
  rw [show (0 : Int32) = nI 0 from rfl, f2_at μ (by omega), q_b1_s, q_oc_s]
  have st : ∀ (n k : Nat) (ν : gMu) (b : Nat), k < 3 → f2_dropOldest_8 (n + 1) ν b (nI k) = f2_dropOldest_8 n (g_hs ν k (ν.2.1.1 (k + 1))) b (nI (k + 1)) := by
    intro n k ν b hk
    rw [f2_dropOldest_8, l4, l1, nI_add, if_neg (by rw [nI_leI (by omega) (by omega)]; omega), if_neg (by rw [nI_leI (by omega) (by omega)]; omega)]
    simp (disch := omega) only [q_in, nI_clamp, q_let]
    rw [if_pos (by omega), if_pos (by omega)]
  rw [st 69 0 _ _ (by omega), st 68 1 _ _ (by omega), st 67 2 _ _ (by omega)]
  rw [f2_dropOldest_8, if_neg (by decide), if_pos (by decide), if_pos (by rw [q_in (by omega)]; omega), q_let, nI_clamp (by omega), f2_dropOldest_8, if_pos (by decide), q_let]
  rfl
theorem r_record {hs : List aSt} {μ : gMu} (h : c_hi hs μ) {a : aSt} (ha : r_c a (μ.1 1)) : ∃ μ2, f2_record μ 1 = some μ2 ∧ c_hi (h_push hs a) μ2 ∧ (∀ i, i < 3 → μ2.1 i = μ.1 i) ∧ μ2.2.2 = μ.2.2 := by
  have hh := h
  obtain ⟨h1, h2, h3, h4, h5⟩ := h
  unfold f2_record h_push
  by_cases c : hs.length = 4
  · rw [if_pos c, h1, c, if_neg (by decide), f2_drop_e, q_b1_s, h1, c]
    have e0 : ∀ i, (g_hr (g_hs (g_hs (g_hs (g_hs μ 0 (μ.2.1.1 1)) 1 (μ.2.1.1 2)) 2 (μ.2.1.1 3)) 3 (μ.2.1.1 0)) (nI 4 - 1)).2.1.1 i = if i = 3 then μ.2.1.1 0 else if i = 2 then μ.2.1.1 3 else if i = 1 then μ.2.1.1 2 else if i = 0 then μ.2.1.1 1 else μ.2.1.1 i := fun i => rfl
    have e1 : ∀ i, i < 3 → (g_hr (g_hs (g_hs (g_hs (g_hs μ 0 (μ.2.1.1 1)) 1 (μ.2.1.1 2)) 2 (μ.2.1.1 3)) 3 (μ.2.1.1 0)) (nI 4 - 1)).2.1.1 i = μ.2.1.1 (i + 1) := by
      intro i hi
      rw [e0 i]
      have : i = 0 ∨ i = 1 ∨ i = 2 := by omega
      rcases this with rfl | rfl | rfl <;> rfl
    have e3 : (g_hr (g_hs (g_hs (g_hs (g_hs μ 0 (μ.2.1.1 1)) 1 (μ.2.1.1 2)) 2 (μ.2.1.1 3)) 3 (μ.2.1.1 0)) (nI 4 - 1)).2.1.1 3 = μ.2.1.1 0 := rfl
    have key := r_rec (hs := hs.drop 1) (μ := g_hr (g_hs (g_hs (g_hs (g_hs μ 0 (μ.2.1.1 1)) 1 (μ.2.1.1 2)) 2 (μ.2.1.1 3)) 3 (μ.2.1.1 0)) (nI 4 - 1)) ⟨?_, by simp; omega, fun i hi => ?_, fun i j hi hj q => ?_, fun i x hx => ?_⟩ (by simp; omega) (a := a) ha
    · exact key
    · rw [List.length_drop, c]
      rfl
    · by_cases ci : i < 3
      · rw [e1 i ci]; exact h3 _ (by omega)
      · rw [show i = 3 by omega, e3]; exact h3 0 (by omega)
    · by_cases ci : i < 3
      · rw [e1 i ci] at q
        by_cases cj : j < 3
        · rw [e1 j cj] at q
          have := h4 _ _ (by omega) (by omega) q
          omega
        · rw [show j = 3 by omega, e3] at q
          have := h4 _ _ (by omega) (by omega) q
          omega
      · rw [show i = 3 by omega, e3] at q
        by_cases cj : j < 3
        · rw [e1 j cj] at q
          have := h4 _ _ (by omega) (by omega) q
          omega
        · omega
    · have hi : i < (hs.drop 1).length := (List.getElem?_eq_some_iff.mp hx).1
      rw [List.length_drop, c] at hi
      rw [List.getElem?_drop] at hx
      rw [e1 i (by omega)]
      have := h5 _ _ hx
      rw [Nat.add_comm] at this
      exact this
  · have hl : hs.length < 4 := by omega
    rw [if_neg c, h1, if_pos (by rw [l4, nI_ltI (by omega) (by omega)]; exact hl)]
    exact r_rec hh hl ha
theorem r_back_n {μ : gMu} (h : c_hi [] μ) : f2_takeBack μ 0 = some (-5, μ) := by
  unfold f2_takeBack
  rw [h.1, show nI ([] : List aSt).length - (1 : Int32) = -1 from by decide, f2_at_m, q_b1_s, q_oc_n]
theorem r_back_s {hs : List aSt} {a : aSt} {μ : gMu} (h : c_hi (hs ++ [a]) μ) : ∃ μ2, f2_takeBack μ 0 = some (nI hs.length, μ2) ∧ c_hi hs μ2 ∧ r_c a (μ2.1 0) ∧ (∀ i, i ≠ 0 → μ2.1 i = μ.1 i) ∧ μ2.2.2 = μ.2.2 := by
  obtain ⟨h1, h2, h3, h4, h5⟩ := h
  rw [List.length_append, List.length_singleton] at h1 h2
  have b := h3 hs.length (by omega)
  have ex : (hs ++ [a])[hs.length]? = some a := by simp
  obtain ⟨z2, e1, e2⟩ := r_copy (h5 _ _ ex) (μ.1 0)
  unfold f2_takeBack
  rw [h1, show nI (hs.length + 1) - (1 : Int32) = nI hs.length from pk_sub (b := 1) (by omega), f2_at μ (by omega), q_b1_s, q_oc_s, q_let, if_pos (by omega)]
  have e3 : (g_hr μ (nI hs.length)).1 = μ.1 := rfl
  rw [e3, e1, q_b1_s, q_let]
  refine ⟨_, rfl, ⟨rfl, by omega, h3, h4, fun i x hx => ?_⟩, va_up_at μ.1 0 z2 ▸ e2, fun i hi => va_up_ne _ _ hi, rfl⟩
  have hi : i < hs.length := (List.getElem?_eq_some_iff.mp hx).1
  show r_c x (va_up μ.1 0 z2 (μ.2.1.1 i))
  rw [va_up_ne _ _ (by have := h3 i (by omega); omega)]
  exact h5 i x (by rw [List.getElem?_append_left hi]; exact hx)
