/-! sheets put and taken -/
theorem f5_put_l (z : gSt) (v : gSh) (r q : Nat) (hr : r < 4) (hq : q < 8) (hn : z.2.1 (8 * r + q) = none) (hs : ∀ p, p < q → (z.2.1 (8 * r + p)).isSome = true) : ∀ (m n : Nat), m ≤ 32 → 32 - m ≤ 8 * r + q → m < n → f5_putInFront_2 n z v (nI r) (nI (32 - m)) = some (g_ss z (8 * r + q) (some v)) := by
  intro m
  induction m with
  | zero => intro n _ h _; omega
  | succ m ih =>
    intro n hm hk hn2
    obtain ⟨n, rfl⟩ : ∃ k, n = k + 1 := ⟨n - 1, by omega⟩
    rw [f5_putInFront_2]
    have hk1 : 32 - (m + 1) = 31 - m := by omega
    have hk2 : 31 - m + 1 = 32 - m := by omega
    rw [hk1] at hk ⊢
    simp (disch := omega) only [l32, l8, l1, nI_leI, pk_div, nI_eq, nI_clamp, q_in, nI_add, hk2]
    rw [if_neg (by omega)]
    by_cases c : (31 - m) / 8 = r
    · rw [if_neg (fun z => z c), if_pos (by omega)]
      by_cases c2 : 31 - m = 8 * r + q
      · rw [c2, hn, q_oc_n, if_pos (by omega), q_let]
      · have e := hs (31 - m - 8 * r) (by omega)
        rw [show 8 * r + (31 - m - 8 * r) = 31 - m by omega] at e
        cases e2 : z.2.1 (31 - m) with
        | none => rw [e2] at e; cases e
        | some w =>
          rw [q_oc_s]
          exact ih n (by omega) (by omega) (by omega)
    · rw [if_pos c]
      exact ih n (by omega) (by omega) (by omega)
theorem r_put {L : Nat → List gSh} {z : gSt} (h : r_sl L z.2.1) {r : Nat} (hr : r < 4) (hl : (L r).length < 8) (v : gSh) : f5_putInFront z v (nI r) = some (g_ss z (8 * r + (L r).length) (some v)) := by
  unfold f5_putInFront
  have e := f5_put_l z v r (L r).length hr hl ((h r _ hr hl).trans (List.getElem?_eq_none (Nat.le_refl _))) (fun p hp => by rw [h r p hr (by omega)]; simp [hp]) 32 70 (by omega) (by omega) (by omega)
  rw [Nat.sub_self, nI_0] at e
  exact e
/-- a rack's list with one more, or another -/
theorem r_sl_put {L : Nat → List gSh} {z : gSt} (h : r_sl L z.2.1) {r : Nat} (hr : r < 4) (hl : (L r).length < 8) (v : gSh) : r_sl (va_up L r (L r ++ [v])) (g_ss z (8 * r + (L r).length) (some v)).2.1 := by
  intro r' p hr' hp
  show (if 8 * r' + p = 8 * r + (L r).length then some v else z.2.1 (8 * r' + p)) = (if r' = r then L r ++ [v] else L r')[p]?
  by_cases c : r' = r
  · subst c
    rw [if_pos rfl]
    by_cases c2 : p = (L r').length
    · subst c2
      rw [if_pos rfl]
      simp
    · rw [if_neg (by omega), h r' p hr' hp]
      by_cases c3 : p < (L r').length
      · rw [List.getElem?_append_left c3]
      · rw [List.getElem?_eq_none (by omega), List.getElem?_eq_none (by simp; omega)]
  · rw [if_neg c, if_neg (by omega), h r' p hr' hp]
theorem f5_rem_l (last : Nat) (h32 : last < 32) : ∀ (m n k : Nat) (z : gSt), k + m = last + 1 → m < n → f5_removeFrom_19 n z (nI last) (nI k) = some (z.1, fun j => if k ≤ j ∧ j < last then z.2.1 (j + 1) else if j = last ∧ k ≤ last then none else z.2.1 j, z.2.2) := by
  intro m
  induction m with
  | zero =>
    intro n k z hk hn
    obtain ⟨n, rfl⟩ : ∃ k, n = k + 1 := ⟨n - 1, by omega⟩
    rw [f5_removeFrom_19]
    simp (disch := omega) only [nI_ltI]
    rw [if_pos (by omega)]
    congr 1
    refine Prod.ext rfl (Prod.ext (funext fun j => ?_) rfl)
    show z.2.1 j = if k ≤ j ∧ j < last then _ else if j = last ∧ k ≤ last then _ else _
    rw [if_neg (by omega), if_neg (by omega)]
  | succ m ih =>
    intro n k z hk hn
    obtain ⟨n, rfl⟩ : ∃ k, n = k + 1 := ⟨n - 1, by omega⟩
    rw [f5_removeFrom_19]
    simp (disch := omega) only [l32, l1, nI_ltI, nI_leI, nI_clamp, q_in, nI_add]
    rw [if_neg (by omega), if_neg (by omega)]
    have step : ∀ (x : Option gSh), x = (if k < last then z.2.1 (k + 1) else none) → f5_removeFrom_19 n (g_ss z k x) (nI last) (nI (k + 1)) = some (z.1, fun j => if k ≤ j ∧ j < last then z.2.1 (j + 1) else if j = last ∧ k ≤ last then none else z.2.1 j, z.2.2) := by
      intro x hx
      rw [ih n (k + 1) (g_ss z k x) (by omega) (by omega)]
      congr 1
      refine Prod.ext rfl (Prod.ext (funext fun j => ?_) rfl)
      show (if k + 1 ≤ j ∧ j < last then (if j + 1 = k then x else z.2.1 (j + 1)) else if j = last ∧ k + 1 ≤ last then none else (if j = k then x else z.2.1 j)) = if k ≤ j ∧ j < last then z.2.1 (j + 1) else if j = last ∧ k ≤ last then none else z.2.1 j
      by_cases c1 : k + 1 ≤ j ∧ j < last
      · rw [if_pos c1, if_neg (by omega), if_pos (by omega)]
      · rw [if_neg c1]
        by_cases c2 : j = k
        · subst c2
          by_cases c3 : j < last
          · rw [if_neg (by omega), if_pos rfl, if_pos ⟨Nat.le_refl _, c3⟩, hx, if_pos c3]
          · rw [if_neg (by omega), if_pos rfl, if_neg (by omega), if_pos (by omega), hx, if_neg c3]
        · by_cases c3 : j = last ∧ k + 1 ≤ last
          · rw [if_pos c3, if_neg (by omega), if_pos (by omega)]
          · rw [if_neg c3, if_neg c2, if_neg (by omega), if_neg (by omega)]
    by_cases c : last ≤ k
    · rw [if_pos c, if_pos (by omega), q_let]
      exact step none (by rw [if_neg (by omega)])
    · rw [if_neg c, if_neg (by omega), if_pos (by omega)]
      cases e : z.2.1 (k + 1) with
      | none =>
        rw [q_oc_n, if_pos (by omega), q_let]
        exact step none (by rw [if_pos (by omega), e])
      | some w =>
        rw [q_oc_s, if_pos (by omega), q_let]
        exact step (some w) (by rw [if_pos (by omega), e])
theorem r_rem {L : Nat → List gSh} {z : gSt} (h : r_sl L z.2.1) {r p : Nat} (hr : r < 4) (hl : (L r).length ≤ 8) (hp : p < (L r).length) : ∃ z2, f5_removeFrom z (nI (8 * r + p)) = some z2 ∧ z2.1 = z.1 ∧ z2.2.2 = z.2.2 ∧ r_sl (va_up L r ((L r).eraseIdx p)) z2.2.1 := by
  refine ⟨(z.1, fun j => if 8 * r + p ≤ j ∧ j < 8 * r + 7 then z.2.1 (j + 1) else if j = 8 * r + 7 ∧ 8 * r + p ≤ 8 * r + 7 then none else z.2.1 j, z.2.2), ?_, rfl, rfl, ?_⟩
  · unfold f5_removeFrom
    simp (disch := omega) only [l8, l1, q_0le, if_true, pk_rem, pk_sub, nI_add, show (8 * r + p) % 8 = p by omega]
    rw [q_let, show 8 * r + p - p + 8 - 1 = 8 * r + 7 by omega]
    exact f5_rem_l (8 * r + 7) (by omega) (8 - p) 70 (8 * r + p) z (by omega) (by omega)
  · intro r' q hr' hq
    show (if 8 * r + p ≤ 8 * r' + q ∧ 8 * r' + q < 8 * r + 7 then z.2.1 (8 * r' + q + 1) else if 8 * r' + q = 8 * r + 7 ∧ 8 * r + p ≤ 8 * r + 7 then none else z.2.1 (8 * r' + q)) = (if r' = r then (L r).eraseIdx p else L r')[q]?
    by_cases c : r' = r
    · subst c
      rw [if_pos rfl, List.getElem?_eraseIdx]
      by_cases c1 : q < p
      · rw [if_pos c1, if_neg (by omega), if_neg (by omega), h r' q hr' hq]
      · rw [if_neg c1]
        by_cases c2 : q < 7
        · rw [if_pos (by omega), Nat.add_assoc, h r' (q + 1) hr' (by omega)]
        · rw [if_neg (by omega), if_pos (by omega), List.getElem?_eq_none (by omega)]
    · rw [if_neg c, if_neg (by omega), if_neg (by omega), h r' q hr' hq]
