/-! more of the class: places, taking out, orders and sheets made -/
theorem r_at {L : Nat → List gSh} {z : gSt} (h : r_sl L z.2.1) {r q : Nat} (hr : r < 4) (hl : (L r).length ≤ 8) (hq : q < 2 ^ 31) : f5_atPlace z (nI r) (nI q) = some ((L r).reverse[q]?) := by
  unfold f5_atPlace
  rw [r_filled h hr hl, q_b1_s]
  simp (disch := omega) only [nI_leI]
  by_cases c : (L r).length ≤ q
  · rw [if_pos c, List.getElem?_eq_none (by simpa using c)]
  · rw [if_neg c]
    simp (disch := omega) only [l8, l1, pk_mul, nI_add, pk_sub]
    rw [show r * 8 + (L r).length - 1 - q = 8 * r + ((L r).length - 1 - q) by omega, r_inslot z (by omega), q_b1_s, h r _ hr (by omega), List.getElem?_reverse (by omega)]
    cases (L r)[(L r).length - 1 - q]? <;> rfl
theorem f8_take_e {a : aSt} {z : gSt} (h : r_c a z) (hn : n_ok a.1) {r p : Nat} {x : gSh} (hr : r < 4) (hl : (a.2.1 r).length ≤ 8) (hx : (a.2.1 r)[p]? = some x) : ∃ z2, f8_takeOut z (nI (8 * r + p)) = some ((t_out a r p x).1, z2) ∧ r_c (t_out a r p x).2 z2 := by
  have hp : p < (a.2.1 r).length := (List.getElem?_eq_some_iff.mp hx).1
  obtain ⟨z2, e1, e2⟩ := f8_take_l (p := p) hr x ((a.2.1 r).take p) (by rw [List.length_take]; omega) ((a.2.1 r).drop (p + 1)).reverse 70 z 0 [] a h hn (by rw [List.reverse_reverse, List.append_nil, ← drop_at hx, List.take_append_drop]) hl (by rw [List.length_reverse, List.length_drop]; omega) (Or.inl rfl)
  refine ⟨z2, ?_, e2⟩
  unfold f8_takeOut t_out
  rw [r_before h.2.2.1 hr hl hp, q_b1_s]
  rw [List.length_reverse, List.length_drop, show (a.2.1 r).length - (p + 1) = (a.2.1 r).length - 1 - p by omega] at e1
  exact e1
theorem r_numb {os : List gOd} {z : gSt} (h : r_ol os z.2.2) {k : Nat} (hk : k < 2 ^ 31) : f4_numbered z (nI k) = some (os[k]?) := by
  unfold f4_numbered
  simp (disch := omega) only [l12, nI_leI, q_lt0, q_in, nI_clamp, if_false]
  by_cases c : 12 ≤ k
  · rw [if_pos c, List.getElem?_eq_none (by have := h.1; omega)]
  · rw [if_neg c, if_pos (by omega), h.2 k (by omega)]
    cases os[k]? <;> rfl
theorem f4_repl_e (z : gSt) {o : gOd} {k : Nat} (hk : k < 12) (e : o.1 = nI k) : f4_replace z o = some (g_so z k (some o)) := by
  unfold f4_replace
  simp (disch := omega) only [e, l12, nI_leI, q_lt0, q_in, nI_clamp, if_false]
  rw [if_neg (by omega), if_pos hk, q_let]
theorem r_ol_set {os : List gOd} {f : Nat → Option gOd} (h : r_ol os f) {k : Nat} (hk : k < os.length) (o : gOd) : r_ol (os.set k o) (va_up f k (some o)) := by
  refine ⟨by rw [List.length_set]; exact h.1, fun j hj => ?_⟩
  rw [List.getElem?_set, q_up, h.2 j hj]
  by_cases c : j = k
  · subst c
    simp [hk]
  · rw [if_neg c, if_neg (fun q => c q.symm)]
theorem r_ol_app {os : List gOd} {f : Nat → Option gOd} (h : r_ol os f) (hk : os.length < 12) (o : gOd) : r_ol (os ++ [o]) (va_up f os.length (some o)) := by
  refine ⟨by rw [List.length_append]; exact hk, fun j hj => ?_⟩
  rw [q_up, h.2 j hj]
  by_cases c : j = os.length
  · subst c
    simp
  · rw [if_neg c]
    by_cases c2 : j < os.length
    · rw [List.getElem?_append_left c2]
    · rw [List.getElem?_eq_none (by omega), List.getElem?_eq_none (by simp; omega)]
theorem r_c.od {a : aSt} {z : gSt} (h : r_c a z) {k : Nat} (hk : k < a.2.2.length) (o : gOd) (e : o.1 = nI k) : ∃ z2, f4_replace z o = some z2 ∧ r_c (a.1, a.2.1, a.2.2.set k o) z2 ∧ z2.1 = z.1 := by
  have hle := h.2.2.2.1
  refine ⟨_, f4_repl_e z (by omega) e, ⟨h.1, ?_, h.2.2.1, r_ol_set h.2.2.2 hk o⟩, rfl⟩
  show z.1 13 = nI (a.2.2.set k o).length
  rw [List.length_set]
  exact h.2.1
theorem r_c.newo {a : aSt} {z : gSt} (h : r_c a z) (hk : a.2.2.length < 12) (q w y d : Int32) : ∃ z2, f4_addNew z q w y d = some (nI a.2.2.length, z2) ∧ r_c (a.1, a.2.1, a.2.2 ++ [(nI a.2.2.length, q, w, y, d, 0, -5, -5)]) z2 := by
  unfold f4_addNew
  simp only [q_let]
  rw [h.2.1, f4_repl_e _ hk rfl, q_b1_s]
  refine ⟨_, rfl, ⟨fun k hk2 => ?_, ?_, h.2.2.1, r_ol_app h.2.2.2 hk _⟩⟩
  · show (if k = 13 then _ else z.1 k) = a.1 k
    rw [if_neg (by omega)]
    exact h.1 k hk2
  · show nI a.2.2.length + 1 = nI (a.2.2 ++ [_]).length
    rw [l1, nI_add, List.length_append]
    rfl
theorem r_isfull {a : aSt} {z : gSt} (h : r_c a z) : f4_isFull z = some (if a.2.2.length < 12 then 0 else 1) := by
  have hle := h.2.2.2.1
  unfold f4_isFull
  rw [h.2.1]
  simp (disch := omega) only [l12, nI_ltI]
  split <;> rfl
theorem r_c.news {a : aSt} {z : gSt} (h : r_c a z) {m r : Nat} (hm : a.1 12 = nI m) (hr : r < 4) (hl : (a.2.1 r).length < 8) (q w y s : Int32) : ∃ z2, f5_addNew z (nI r) q w y s = some (nI m, z2) ∧ r_c (va_up a.1 12 (nI (m + 1)), va_up a.2.1 r (a.2.1 r ++ [(nI m, q, w, y, s)]), a.2.2) z2 := by
  have h1 := h.si (k := 12) (by omega) (nI (m + 1))
  unfold f5_addNew
  simp only [q_let]
  rw [h.1 12 (by omega), hm, l1, nI_add, r_put (z := g_si z 12 (nI (m + 1))) h.2.2.1 hr hl, q_b1_s]
  exact ⟨_, rfl, ⟨h1.1, h1.2.1, r_sl_put h1.2.2.1 hr hl _, h1.2.2.2⟩⟩
