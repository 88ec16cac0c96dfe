/-! acts on a sheet or an order that is there, or isn't -/
theorem k_find (L : Nat → List gSh) (x : Int32) : (∃ (r p : Nat) (s : gSh), r < 4 ∧ (L r)[p]? = some s ∧ s.1 = x) ∨ ∀ (r p : Nat) (v : gSh), r < 4 → (L r)[p]? = some v → v.1 ≠ x :=
  (Classical.em (∃ (r p : Nat) (s : gSh), r < 4 ∧ (L r)[p]? = some s ∧ s.1 = x)).imp_right (fun h r p v hr e q => h ⟨r, p, v, hr, e, q⟩)
theorem r_slot_in {L : Nat → List gSh} {z : gSt} (h : r_sl L z.2.1) {r p : Nat} {s : gSh} (hr : r < 4) (hl : (L r).length ≤ 8) (hs : (L r)[p]? = some s) : f5_inSlot z (nI (8 * r + p)) = some (some s) := by
  have hp : p < (L r).length := (List.getElem?_eq_some_iff.mp hs).1
  rw [r_inslot z (by omega), h r p hr (by omega), hs]
def w_scrap (a : aSt) (r p : Nat) (s : gSh) : aSt :=
  if (t_out a r p s).1 = 0 then (t_out a r p s).2 else (va_up (t_out a r p s).2.1 8 ((t_out a r p s).2.1 8 + s.2.2.1 * s.2.2.2.1), (t_out a r p s).2.2)
theorem r_scrap {a : aSt} (ha : a_ok a) {z : gSt} (h : r_c a z) {r p : Nat} {s : gSh} (hr : r < 4) (hs : (a.2.1 r)[p]? = some s) : ∃ z2, f8_scrapSheet z s.1 = some (s.2.2.1 * s.2.2.2.1, z2) ∧ r_c (w_scrap a r p s) z2 := by
  obtain ⟨hn, ⟨m, hm, hk4⟩, hos⟩ := ha
  obtain ⟨z1, e1, e2⟩ := f8_take_e h hn hr (hk4.2.1 r hr) hs
  unfold f8_scrapSheet w_scrap
  rw [r_slot h.2.2.1 hk4.2.2.1 hr (hk4.2.1 r hr) hs, q_b1_s, r_slot_in h.2.2.1 hr (hk4.2.1 r hr) hs, q_b1_s, q_oc_s, e1, q_bd_s]
  by_cases c : (t_out a r p s).1 = 0
  · rw [if_pos c, if_pos c]
    exact ⟨z1, rfl, e2⟩
  · rw [if_neg c, if_neg c]
    refine ⟨_, rfl, ?_⟩
    rw [e2.1 8 (by omega)]
    exact e2.si (by omega) _
theorem r_scrap_n {a : aSt} (ha : a_ok a) {z : gSt} (h : r_c a z) {x : Int32} (hx : ∀ (r p : Nat) (v : gSh), r < 4 → (a.2.1 r)[p]? = some v → v.1 ≠ x) : f8_scrapSheet z x = some (-1, z) := by
  obtain ⟨hn, ⟨m, hm, hk4⟩, hos⟩ := ha
  unfold f8_scrapSheet
  rw [r_slot_none h.2.2.1 hk4.2.1 hx, q_b1_s, r_inslot_m, q_b1_s, q_oc_n]
def w_move (a : aSt) (r p : Nat) (s : gSh) (x : Int32) : Int32 × aSt :=
  if 0 ≤ x ∧ x ≤ 3 then
    if nI r = x ∨ (a.2.1 x.toNatClampNeg).length < 8 then
      (nI ((a.2.1 r).length - 1 - p) + 1, if (t_out a r p s).1 = 0 then (t_out a r p s).2 else ((t_out a r p s).2.1, va_up (t_out a r p s).2.2.1 x.toNatClampNeg ((t_out a r p s).2.2.1 x.toNatClampNeg ++ [s]), (t_out a r p s).2.2.2))
    else (-3, a)
  else (-1, a)
theorem r_move {a : aSt} (ha : a_ok a) {z : gSt} (h : r_c a z) {r p : Nat} {s : gSh} (hr : r < 4) (hs : (a.2.1 r)[p]? = some s) (x : Int32) : ∃ z2, f8_moveSheet z s.1 x = some ((w_move a r p s x).1, z2) ∧ r_c (w_move a r p s x).2 z2 := by
  obtain ⟨hn, ⟨m, hm, hk4⟩, hos⟩ := ha
  have hl := hk4.2.1 r hr
  have hp : p < (a.2.1 r).length := (List.getElem?_eq_some_iff.mp hs).1
  obtain ⟨z1, e1, e2⟩ := f8_take_e h hn hr hl hs
  unfold f8_moveSheet w_move
  rw [r_slot h.2.2.1 hk4.2.2.1 hr hl hs, q_b1_s, r_slot_in h.2.2.1 hr hl hs, q_b1_s, q_oc_s, f9_rack_e, q_b1_s]
  simp only [q_b0, ite_not]
  by_cases c1 : 0 ≤ x ∧ x ≤ 3
  · simp only [if_pos c1]
    obtain ⟨j, hj, rfl⟩ := i_nat (n := 3) (by omega) c1.1 c1.2
    have hr8 : (nI (8 * r + p) / (8 : Int32)) = nI r := by
      simp (disch := omega) only [l8, pk_div]
      congr 1
      omega
    rw [hr8, nI_clamp (by omega)]
    have main : (r = j ∨ (a.2.1 j).length < 8) → ∃ z2, f8_moveSheet_55 z (nI j) (nI (8 * r + p)) s = some (nI ((a.2.1 r).length - 1 - p) + 1, z2) ∧ r_c (if (t_out a r p s).1 = 0 then (t_out a r p s).2 else ((t_out a r p s).2.1, va_up (t_out a r p s).2.2.1 j ((t_out a r p s).2.2.1 j ++ [s]), (t_out a r p s).2.2.2)) z2 := by
      intro hc
      unfold f8_moveSheet_55
      rw [r_before h.2.2.1 hr hl hp, q_b1_s, q_let, e1, q_bd_s]
      by_cases c : (t_out a r p s).1 = 0
      · rw [if_pos c, if_pos c]
        exact ⟨z1, rfl, e2⟩
      · rw [if_neg c, if_neg c]
        have hlen : ((t_out a r p s).2.2.1 j).length < 8 := by
          by_cases cj : j = r
          · subst cj
            have hsub := (t_out_sub a (r := j) s hp).length_le
            rw [List.length_eraseIdx, if_pos hp] at hsub
            omega
          · rw [t_out_ne a p s cj]
            exact hc.resolve_left (fun q => cj q.symm)
        rw [r_put e2.2.2.1 (r := j) (by omega) hlen, q_b1_s]
        exact ⟨_, rfl, ⟨e2.1, e2.2.1, r_sl_put e2.2.2.1 (by omega) hlen s, e2.2.2.2⟩⟩
    by_cases c2 : nI r = nI j
    · have c3 : r = j := (nI_eq (by omega) (by omega)).mp c2
      have c4 : nI r = nI j ∨ (a.2.1 j).length < 8 := Or.inl c2
      simp only [if_pos c2, if_pos c4]
      exact main (Or.inl c3)
    · rw [if_neg c2, r_full h.2.2.1 (r := j) (by omega) (hk4.2.1 j (by omega)), q_b1_s]
      by_cases c5 : (a.2.1 j).length < 8
      · have c4 : nI r = nI j ∨ (a.2.1 j).length < 8 := Or.inr c5
        simp only [if_pos c4, if_pos c5, if_true]
        exact main (Or.inr c5)
      · have c4 : ¬ (nI r = nI j ∨ (a.2.1 j).length < 8) := fun q => q.elim c2 c5
        simp only [if_neg c4, if_neg c5, show ¬ (1 : Int32) = 0 by decide, if_false]
        exact ⟨z, rfl, h⟩
  · simp only [if_neg c1]
    exact ⟨z, rfl, h⟩
theorem r_move_n {a : aSt} (ha : a_ok a) {z : gSt} (h : r_c a z) {x : Int32} (hx : ∀ (r p : Nat) (v : gSh), r < 4 → (a.2.1 r)[p]? = some v → v.1 ≠ x) (y : Int32) : f8_moveSheet z x y = some (-1, z) := by
  obtain ⟨hn, ⟨m, hm, hk4⟩, hos⟩ := ha
  unfold f8_moveSheet
  rw [r_slot_none h.2.2.1 hk4.2.1 hx, q_b1_s, r_inslot_m, q_b1_s, q_oc_n]
def w_cut (a : aSt) (r p k : Nat) (s : gSh) (o : gOd) : Int32 × aSt :=
  if o_op o = true then if c_lie a.1 o s = -1 then (-4, a) else t_cut a r p k s o else (-4, a)
theorem r_cutOrder {a : aSt} (ha : a_ok a) {z : gSt} (h : r_c a z) {r p k : Nat} {s : gSh} {o : gOd} (hr : r < 4) (hs : (a.2.1 r)[p]? = some s) (hk : a.2.2[k]? = some o) : ∃ z2, f8_cutOrder z (nI k) s.1 = some ((w_cut a r p k s o).1, z2) ∧ r_c (w_cut a r p k s o).2 z2 := by
  have ha2 := ha
  obtain ⟨hn, ⟨m, hm, hk4⟩, hos⟩ := ha
  have hl := hk4.2.1 r hr
  have hkl : k < a.2.2.length := (List.getElem?_eq_some_iff.mp hk).1
  have hle := hos.1
  obtain ⟨z1, y1, y2, -⟩ := r_lay h hn (hos.2 k o hk).1 (hk4.2.2.2 r p s hr hs).1
  unfold f8_cutOrder w_cut
  rw [r_numb h.2.2.2 (by omega), q_b1_s, hk, q_oc_s, r_slot h.2.2.1 hk4.2.2.1 hr hl hs, q_b1_s, r_slot_in h.2.2.1 hr hl hs, q_b1_s, q_oc_s, f3_isOpen_e, q_b1_s, y1]
  simp only [q_b0, ite_not]
  by_cases c1 : o_op o = true
  · simp only [if_pos c1, q_bd_s]
    by_cases c2 : c_lie a.1 o s = -1
    · simp only [if_pos c2, if_true]
      exact ⟨z1, rfl, y2⟩
    · simp only [if_neg c2, show ¬ (1 : Int32) = 0 by decide, if_false]
      obtain ⟨z2, e1, e2⟩ := r_cut ha2 y2 hr hs hk c2
      rw [e1, q_bd_s]
      exact ⟨z2, rfl, e2⟩
  · simp only [if_neg c1]
    exact ⟨z, rfl, h⟩
theorem r_cutOrder_n {a : aSt} (ha : a_ok a) {z : gSt} (h : r_c a z) {x : Int32} (hx : ∀ (r p : Nat) (v : gSh), r < 4 → (a.2.1 r)[p]? = some v → v.1 ≠ x) (k : Nat) (hk : k < 2 ^ 31) : f8_cutOrder z (nI k) x = some (-1, z) := by
  obtain ⟨hn, ⟨m, hm, hk4⟩, hos⟩ := ha
  unfold f8_cutOrder
  rw [r_numb h.2.2.2 hk, q_b1_s, r_slot_none h.2.2.1 hk4.2.1 hx, q_b1_s, r_inslot_m, q_b1_s, q_oc_n]
  cases a.2.2[k]? <;> rfl
def o_off (o : gOd) : gOd := (o.1, o.2.1, o.2.2.1, o.2.2.2.1, o.2.2.2.2.1, 2, -5, -5)
def w_cancel (a : aSt) (k : Nat) (o : gOd) : Int32 × aSt :=
  if o_op o = true then (nI ((a.2.2.set k (o_off o)).countP o_op), a.1, a.2.1, a.2.2.set k (o_off o)) else (-4, a)
theorem r_cancel {a : aSt} (ha : a_ok a) {z : gSt} (h : r_c a z) {k : Nat} {o : gOd} (hk : a.2.2[k]? = some o) : ∃ z2, f8_cancelOrder z (nI k) = some ((w_cancel a k o).1, z2) ∧ r_c (w_cancel a k o).2 z2 := by
  obtain ⟨hn, ⟨m, hm, hk4⟩, hos⟩ := ha
  have hkl : k < a.2.2.length := (List.getElem?_eq_some_iff.mp hk).1
  have hle := hos.1
  unfold f8_cancelOrder w_cancel
  rw [r_numb h.2.2.2 (by omega), q_b1_s, hk, q_oc_s, f3_isOpen_e, q_b1_s]
  simp only [q_b0, ite_not]
  by_cases c1 : o_op o = true
  · simp only [if_pos c1]
    unfold f3_asCancelled
    rw [q_b1_s]
    obtain ⟨z2, e1, e2, -⟩ := h.od (k := k) hkl (o_off o) (hos.2 k o hk).2
    rw [show (o.1, o.2.1, o.2.2.1, o.2.2.2.1, o.2.2.2.2.1, (2 : Int32), (-5 : Int32), (-5 : Int32)) = o_off o from rfl, e1, q_b1_s, r_open e2.2.2.2, q_b1_s]
    exact ⟨z2, rfl, e2⟩
  · simp only [if_neg c1]
    exact ⟨z, rfl, h⟩
theorem r_cancel_n {a : aSt} {z : gSt} (h : r_c a z) {k : Nat} (hk : k < 2 ^ 31) (e : a.2.2[k]? = none) : f8_cancelOrder z (nI k) = some (-1, z) := by
  unfold f8_cancelOrder
  rw [r_numb h.2.2.2 hk, q_b1_s, e, q_oc_n]
