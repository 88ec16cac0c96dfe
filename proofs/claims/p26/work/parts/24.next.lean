/-- the best of a list's orders (P: which count), b the best so far -/
def o_best (P : gOd → Bool) (b : Option gOd) : List gOd → Option gOd
  | [] => b
  | o :: os => o_best P (if P o = true ∧ (∀ x, b = some x → o_key o < o_key x) then some o else b) os
theorem o_best_c (P : gOd → Bool) (b : Option gOd) (o : gOd) (os : List gOd) : o_best P b (o :: os) = o_best P (if P o = true ∧ (∀ x, b = some x → o_key o < o_key x) then some o else b) os := rfl
def o_num (o : gOd) : Prop := o_ok o ∧ ∃ k, k < 12 ∧ o.1 = nI k
theorem f3_goes_n {o o2 : gOd} (h : o_num o) (h2 : o_num o2) : f3_goesBefore o o2 = some (if o_key o < o_key o2 then 1 else 0) := by
  obtain ⟨a, k, bk, ek⟩ := h
  obtain ⟨a2, k2, bk2, ek2⟩ := h2
  exact f3_goes_e a a2 ek ek2 bk bk2
/-- which orders a plan comes to behind 'last' -/
def o_nx (last : Option gOd) (o : gOd) : Bool := o_op o && (match last with | none => true | some l => decide (o_key l < o_key o))
def r_os (os : List gOd) : Prop := os.length ≤ 12 ∧ ∀ k o, os[k]? = some o → o_ok o ∧ o.1 = nI k
theorem r_os.num {os : List gOd} (h : r_os os) {k : Nat} {o : gOd} (e : os[k]? = some o) : o_num o := ⟨(h.2 k o e).1, k, by have := (List.getElem?_eq_some_iff.mp e).1; have := h.1; omega, (h.2 k o e).2⟩
theorem f4_next_l {os : List gOd} {z : gSt} (h : r_ol os z.2.2) (hos : r_os os) (last : Option gOd) (hlast : ∀ l, last = some l → o_num l) : ∀ (m n k : Nat) (b : Option gOd), k + m = 12 → m < n → (∀ x, b = some x → o_num x) → f4_nextOpen_4 n z last b (nI k) = some (o_best (o_nx last) b (os.drop k)) := by
  intro m
  induction m with
  | zero =>
    intro n k b hk hn hb
    obtain ⟨n, rfl⟩ : ∃ k, n = k + 1 := ⟨n - 1, by omega⟩
    rw [f4_nextOpen_4]
    simp (disch := omega) only [l12, nI_leI]
    rw [List.drop_eq_nil_of_le (by have := h.1; omega)]
    rcases last with _ | l <;> rcases b with _ | b <;> simp only [q_oc_n, q_oc_s] <;> rw [if_pos (by omega)] <;> rfl
  | succ m ih =>
    intro n k b hk hn hb
    obtain ⟨n, rfl⟩ : ∃ k, n = k + 1 := ⟨n - 1, by omega⟩
    rw [f4_nextOpen_4]
    simp (disch := omega) only [l12, l1, nI_leI, nI_clamp, q_in, nI_add]
    have c1 : ¬ 12 ≤ k := by omega
    have c2 : k < 12 := by omega
    simp only [c1, c2, if_false, if_true, h.2 k c2]
    cases e : os[k]? with
    | none =>
      have hl : os.length ≤ k := by simpa using e
      have i1 := ih n (k + 1) b (by omega) (by omega) hb
      rw [List.drop_eq_nil_of_le (by omega)] at i1
      rw [List.drop_eq_nil_of_le hl]
      rcases last with _ | l <;> rcases b with _ | b <;> simp only [q_oc_n, q_oc_s] <;> exact i1
    | some o =>
      have ho := hos.num e
      rw [drop_at e, o_best_c]
      have i0 := ih n (k + 1) b (by omega) (by omega) hb
      have i1 := ih n (k + 1) (some o) (by omega) (by omega) (fun x q => by cases q; exact ho)

      rcases last with _ | l <;> rcases b with _ | b <;> simp only [q_oc_n, q_oc_s, f3_isOpen_e, q_b1_s, o_nx]
      · by_cases c : o_op o = true
        · simp only [c, if_true, show ¬ (1 : Int32) = 0 by decide, if_false]
          rw [i1, if_pos ⟨rfl, fun x q => by cases q⟩]
        · simp only [c, if_true, if_false, Bool.false_eq_true]
          rw [i0, if_neg (fun q => by simp at q)]
      · by_cases c : o_op o = true
        · simp only [c, if_true, show ¬ (1 : Int32) = 0 by decide, if_false]
          rw [f3_goes_n ho (hb b rfl), q_b1_s]
          by_cases c4 : o_key o < o_key b
          · rw [if_pos c4, if_neg (by decide), i1, if_pos ⟨rfl, fun x q => by cases q; exact c4⟩]
          · rw [if_neg c4, if_pos rfl, i0, if_neg (fun q => c4 (q.2 b rfl))]
        · simp only [c, if_true, if_false, Bool.false_eq_true]
          rw [i0, if_neg (fun q => by simp at q)]
      · by_cases c : o_op o = true
        · simp only [c, if_true, show ¬ (1 : Int32) = 0 by decide, if_false]
          rw [f3_goes_n (hlast l rfl) ho, q_b1_s]
          by_cases c4 : o_key l < o_key o
          · rw [if_pos c4, if_neg (by decide), i1, if_pos ⟨by simp [c4], fun x q => by cases q⟩]
          · rw [if_neg c4, if_pos rfl, i0, if_neg (fun q => c4 (by simpa using q.1))]
        · simp only [c, if_true, if_false, Bool.false_eq_true]
          rw [i0, if_neg (fun q => by simp at q)]
      · by_cases c : o_op o = true
        · simp only [c, if_true, show ¬ (1 : Int32) = 0 by decide, if_false]
          rw [f3_goes_n (hlast l rfl) ho, q_b1_s]
          by_cases c4 : o_key l < o_key o
          · rw [if_pos c4, if_neg (by decide), f3_goes_n ho (hb b rfl), q_b1_s]
            by_cases c5 : o_key o < o_key b
            · rw [if_pos c5, if_neg (by decide), i1, if_pos ⟨by simp [c4], fun x q => by cases q; exact c5⟩]
            · rw [if_neg c5, if_pos rfl, i0, if_neg (fun q => c5 (q.2 b rfl))]
          · rw [if_neg c4, if_pos rfl, i0, if_neg (fun q => c4 (by simpa using q.1))]
        · simp only [c, if_true, if_false, Bool.false_eq_true]
          rw [i0, if_neg (fun q => by simp at q)]
theorem r_next {os : List gOd} {z : gSt} (h : r_ol os z.2.2) (hos : r_os os) (last : Option gOd) (hlast : ∀ l, last = some l → o_num l) : f4_nextOpen z last = some (o_best (o_nx last) none os) := by
  have e := f4_next_l h hos last hlast 12 70 0 none (by omega) (by omega) (fun x q => by cases q)
  unfold f4_nextOpen
  rw [nI_0, List.drop_zero] at e
  rcases last with _ | l
  · rw [q_oc_n]
    exact e
  · rw [q_oc_s]
    exact e
