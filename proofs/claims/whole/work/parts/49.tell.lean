/-! BOTH SYSTEMS: what is told -/
theorem i_5 {x : Int32} {n : Nat} (h : ∀ j, j ≤ n → x ≠ nI j) (hn : n < 2 ^ 31) : ¬ (0 ≤ x ∧ x ≤ nI n) := fun q => by
  obtain ⟨j, hj, e⟩ := i_nat hn q.1 q.2
  exact h j hj e
theorem j_sheet {μ : gMu} (h : j_inv μ) (p1 p2 : Int32) : ∃ r, f9_sheet μ p1 p2 = some r ∧ f10_sheet μ.2.2.2.2 p1 p2 = some r := by
  obtain ⟨a, hs, sn, t, l, ho, h1, h2⟩ := h
  have ha := ho.1
  have hc := h1.1
  have hm := h2.1
  obtain ⟨hn, ⟨m, hm2, hk4⟩, hos⟩ := ha
  unfold f9_sheet f10_sheet f10_sheet_47
  rcases k_find a.2.1 p1 with ⟨r, p, s, hr, hsx, rfl⟩ | hy
  · have hl := hk4.2.1 r hr
    have hp : p < (a.2.1 r).length := (List.getElem?_eq_some_iff.mp hsx).1
    obtain ⟨a0, a1, a2, a3, a4, -⟩ := m_its ho.1 hm hr hsx
    rw [r_slot hc.2.2.1 hk4.2.2.1 hr hl hsx, q_b1_s, r_slot_in hc.2.2.1 hr hl hsx, q_b1_s, q_oc_s, r_before hc.2.2.1 hr hl hp, q_b1_s, m_isSheet_y ho.1 hm hr hsx, q_b1_s, if_pos (show ¬ (1 : Int32) = 0 by decide), f10_in_e, q_b1_s]
    have e8 : nI (8 * r + p) / (8 : Int32) = nI r := by
      rw [l8, pk_div (by omega) (by omega) (by omega)]
      congr 1
      omega
    rw [e8]
    by_cases c0 : p2 = 0
    · subst c0
      rw [if_pos rfl, if_pos (show (0 : Int32) ≤ 0 ∧ (0 : Int32) ≤ 5 by decide), if_pos (by decide), if_pos (by decide), if_pos (by decide), a0]
      exact ⟨_, rfl, rfl⟩
    · rw [if_neg c0]
      by_cases c1 : p2 = 1
      · subst c1
        rw [if_pos rfl, if_pos (show (0 : Int32) ≤ 1 ∧ (1 : Int32) ≤ 5 by decide), if_pos (by decide), if_pos (by decide), if_pos (by decide), a1]
        exact ⟨_, rfl, rfl⟩
      · rw [if_neg c1]
        by_cases c2 : p2 = 2
        · subst c2
          rw [if_pos rfl, if_pos (show (0 : Int32) ≤ 2 ∧ (2 : Int32) ≤ 5 by decide), if_pos (by decide), if_pos (by decide), if_pos (by decide), a2]
          exact ⟨_, rfl, rfl⟩
        · rw [if_neg c2]
          by_cases c3 : p2 = 3
          · subst c3
            rw [if_pos rfl, if_pos (show (0 : Int32) ≤ 3 ∧ (3 : Int32) ≤ 5 by decide), if_pos (by decide), if_pos (by decide), if_pos (by decide), a3]
            exact ⟨_, rfl, rfl⟩
          · rw [if_neg c3]
            by_cases c4 : p2 = 4
            · subst c4
              rw [if_pos rfl, if_pos (show (0 : Int32) ≤ 4 ∧ (4 : Int32) ≤ 5 by decide), if_pos (by decide), if_neg (by decide), m_before ho.1 hm hr hsx]
              exact ⟨_, rfl, rfl⟩
            · rw [if_neg c4]
              by_cases c5 : p2 = 5
              · subst c5
                rw [if_pos rfl, if_pos (show (0 : Int32) ≤ 5 ∧ (5 : Int32) ≤ 5 by decide), if_pos (by decide), if_pos (by decide), if_neg (by decide), a4]
                exact ⟨_, rfl, rfl⟩
              · rw [if_neg c5, if_neg (show ¬ (0 ≤ p2 ∧ p2 ≤ 5) from i_5 (n := 5) (fun j hj e => by
                  have : j = 0 ∨ j = 1 ∨ j = 2 ∨ j = 3 ∨ j = 4 ∨ j = 5 := by omega
                  rcases this with rfl | rfl | rfl | rfl | rfl | rfl
                  · exact c0 e
                  · exact c1 e
                  · exact c2 e
                  · exact c3 e
                  · exact c4 e
                  · exact c5 e) (by omega)), if_neg (not_not_intro rfl)]
                exact ⟨_, rfl, rfl⟩
  · rw [r_slot_none hc.2.2.1 hk4.2.1 hy, q_b1_s, r_inslot_m, q_b1_s, q_oc_n, m_isSheet_n ho.1 hm hy, q_b1_s, if_neg (not_not_intro rfl)]
    exact ⟨_, rfl, rfl⟩
theorem j_at {μ : gMu} (h : j_inv μ) (p1 p2 : Int32) : ∃ r, f9_at μ p1 p2 = some r ∧ f10_at μ.2.2.2.2 p1 p2 = some r := by
  obtain ⟨a, hs, sn, t, l, ho, h1, h2⟩ := h
  have ha := ho.1
  have hc := h1.1
  have hm := h2.1
  obtain ⟨hn, ⟨m, hm2, hk4⟩, hos⟩ := ha
  unfold f9_at f10_at
  rw [f9_rack_e, q_b1_s, f10_in_e, q_b1_s]
  by_cases c1 : 0 ≤ p1 ∧ p1 ≤ 3
  · simp only [if_pos c1]
    obtain ⟨r, hr, rfl⟩ := i_nat (n := 3) (by omega) c1.1 c1.2
    have hl := hk4.2.1 r (by omega)
    by_cases c2 : 0 ≤ p2
    · rw [if_pos (by decide), if_pos c2, if_pos (by decide), if_pos c2]
      obtain ⟨q, hq, rfl⟩ := nI_of (Int32.not_lt.mpr c2)
      rw [r_at hc.2.2.1 (by omega) hl hq, q_b1_s, f10_many_e _ (by omega), q_b1_s, (m_rk_iff.mp hm.2.1 r (by omega)).1]
      by_cases c3 : (a.2.1 r).length ≤ q
      · rw [List.getElem?_eq_none (by simpa using c3), q_oc_n, if_pos ((nI_leI (by omega) (by omega)).mpr c3)]
        exact ⟨_, rfl, rfl⟩
      · have hx : (a.2.1 r).reverse[q]? = some ((a.2.1 r).reverse[q]'(by simp; omega)) := List.getElem?_eq_getElem _
        rw [hx, q_oc_s, if_neg (by rw [nI_leI (by omega) (by omega)]; exact c3), f10_stand_e _ (by omega) (by omega), q_b1_s, hm.2.1.fr (by omega) hx]
        exact ⟨_, rfl, rfl⟩
    · rw [if_pos (by decide), if_neg c2, if_pos (by decide), if_neg c2]
      exact ⟨_, rfl, rfl⟩
  · simp only [if_neg c1]
    exact ⟨_, rfl, rfl⟩
theorem j_ordered {μ : gMu} (h : j_inv μ) (p1 p2 : Int32) : ∃ r, f9_ordered μ p1 p2 = some r ∧ f10_ordered μ.2.2.2.2 p1 p2 = some r := by
  obtain ⟨a, hs, sn, t, l, ho, h1, h2⟩ := h
  have hos := ho.1.2.2
  have hc := h1.1
  have hm := h2.1.2.2.2.2
  unfold f9_ordered f10_ordered f10_ordered_63
  rcases o_find a.2.2 p1 with ⟨k, o, hk, rfl⟩ | hx
  · have hkl := (List.getElem?_eq_some_iff.mp hk).1
    have hle := hos.1
    obtain ⟨a0, a1, a2, a3, a4, a56⟩ := m_of hos hm hk
    obtain ⟨-, -, -, -, -, ono⟩ := (hos.2 k o hk).1
    have v0 : μ.2.2.2.2.1 0 0 = a.1 5 := h2.1.1.1
    rw [r_numb hc.2.2.2 (by omega), q_b1_s, hk, q_oc_s, m_isOrder_y hos hm hkl, q_b1_s, if_pos (show ¬ (1 : Int32) = 0 by decide), f10_in_e, q_b1_s]
    rw [f3_isLate_e, q_b1_s, hc.1 5 (by omega), m_isLate hos hm hk v0, q_b1_s]
    by_cases c0 : p2 = 0
    · subst c0
      rw [if_pos rfl, if_pos (show (0 : Int32) ≤ 0 ∧ (0 : Int32) ≤ 7 by decide), if_pos (by decide), if_pos (by decide), if_pos (by decide), a0]
      exact ⟨_, rfl, rfl⟩
    · rw [if_neg c0]
      by_cases c1 : p2 = 1
      · subst c1
        rw [if_pos rfl, if_pos (show (0 : Int32) ≤ 1 ∧ (1 : Int32) ≤ 7 by decide), if_pos (by decide), if_pos (by decide), if_pos (by decide), a1]
        exact ⟨_, rfl, rfl⟩
      · rw [if_neg c1]
        by_cases c2 : p2 = 2
        · subst c2
          rw [if_pos rfl, if_pos (show (0 : Int32) ≤ 2 ∧ (2 : Int32) ≤ 7 by decide), if_pos (by decide), if_pos (by decide), if_pos (by decide), a2]
          exact ⟨_, rfl, rfl⟩
        · rw [if_neg c2]
          by_cases c3 : p2 = 3
          · subst c3
            rw [if_pos rfl, if_pos (show (0 : Int32) ≤ 3 ∧ (3 : Int32) ≤ 7 by decide), if_pos (by decide), if_pos (by decide), if_pos (by decide), a3]
            exact ⟨_, rfl, rfl⟩
          · rw [if_neg c3]
            by_cases c4 : p2 = 4
            · subst c4
              rw [if_pos rfl, if_pos (show (0 : Int32) ≤ 4 ∧ (4 : Int32) ≤ 7 by decide), if_pos (by decide), if_pos (by decide), if_pos (by decide), a4]
              exact ⟨_, rfl, rfl⟩
            · rw [if_neg c4, a4, q_b1_s]
              by_cases c5 : p2 = 5
              · subst c5
                rw [if_pos rfl, if_pos (show (0 : Int32) ≤ 5 ∧ (5 : Int32) ≤ 7 by decide), if_pos (by decide), if_pos (by decide), if_neg (by decide)]
                by_cases st : o.2.2.2.2.2.1 = 1
                · rw [if_pos st, (a56 st).1]
                  exact ⟨_, rfl, rfl⟩
                · rw [if_neg st, (ono st).1]
                  exact ⟨_, rfl, rfl⟩
              · rw [if_neg c5]
                by_cases c6 : p2 = 6
                · subst c6
                  rw [if_pos rfl, if_pos (show (0 : Int32) ≤ 6 ∧ (6 : Int32) ≤ 7 by decide), if_pos (by decide), if_pos (by decide), if_neg (by decide)]
                  by_cases st : o.2.2.2.2.2.1 = 1
                  · rw [if_pos st, (a56 st).2]
                    exact ⟨_, rfl, rfl⟩
                  · rw [if_neg st, (ono st).2]
                    exact ⟨_, rfl, rfl⟩
                · rw [if_neg c6]
                  by_cases c7 : p2 = 7
                  · subst c7
                    rw [if_pos rfl, if_pos (show (0 : Int32) ≤ 7 ∧ (7 : Int32) ≤ 7 by decide), if_pos (show ¬ (1 : Int32) = 0 by decide), if_neg (show ¬ ¬ (7 : Int32) = 7 by decide)]
                    by_cases st : o_lt (a.1 5) o = true
                    · simp only [if_pos st]
                      exact ⟨_, rfl, rfl⟩
                    · simp only [if_neg st]
                      exact ⟨_, rfl, rfl⟩
                  · rw [if_neg c7, if_neg (show ¬ (0 ≤ p2 ∧ p2 ≤ 7) from i_5 (n := 7) (fun j hj e => by
                      have : j = 0 ∨ j = 1 ∨ j = 2 ∨ j = 3 ∨ j = 4 ∨ j = 5 ∨ j = 6 ∨ j = 7 := by omega
                      rcases this with rfl | rfl | rfl | rfl | rfl | rfl | rfl | rfl
                      · exact c0 e
                      · exact c1 e
                      · exact c2 e
                      · exact c3 e
                      · exact c4 e
                      · exact c5 e
                      · exact c6 e
                      · exact c7 e) (by omega)), if_neg (not_not_intro rfl)]
                    exact ⟨_, rfl, rfl⟩
  · rw [r_numb_n hc.2.2.2 hx, q_b1_s, q_oc_n, m_isOrder_n hos hm hx, q_b1_s, if_neg (not_not_intro rfl)]
    exact ⟨_, rfl, rfl⟩
/-- the class's state 0 in other words of the same -/
theorem j_inv.same {μ : gMu} (h : ∃ a hs sn t l, jo a sn l ∧ jc a hs sn t l μ ∧ jm a hs sn t l μ.2.2.2.2) : j_inv μ := h
theorem jc.set0 {a : aSt} {hs : List aSt} {sn : Option aSt} {t : Nat → Int32} {l : Nat} {μ : gMu} (h : jc a hs sn t l μ) {z : gSt} (hz : r_c a z) : jc a hs sn t l (g_setS μ 0 z) := by
  obtain ⟨h1, ⟨g1, g2, g3, g4, g5⟩, h3, h4, h5⟩ := h
  refine ⟨hz, ⟨g1, g2, g3, g4, fun i x hx => ?_⟩, h3, h4, h5⟩
  have hi : i < hs.length := (List.getElem?_eq_some_iff.mp hx).1
  have := g3 i (by omega)
  show r_c x (va_up μ.1 0 z (μ.2.1.1 i))
  rw [va_up_ne _ _ (by omega)]
  exact g5 i x hx
theorem jc.set1 {a : aSt} {hs : List aSt} {sn : Option aSt} {t : Nat → Int32} {l : Nat} {μ : gMu} (h : jc a hs sn t l μ) (z : gSt) : jc a hs sn t l (g_setS μ 1 z) := by
  obtain ⟨h1, ⟨g1, g2, g3, g4, g5⟩, h3, h4, h5⟩ := h
  refine ⟨h1, ⟨g1, g2, g3, g4, fun i x hx => ?_⟩, h3, h4, h5⟩
  have hi : i < hs.length := (List.getElem?_eq_some_iff.mp hx).1
  have := g3 i (by omega)
  show r_c x (va_up μ.1 1 z (μ.2.1.1 i))
  rw [va_up_ne _ _ (by omega)]
  exact g5 i x hx
theorem j_choice {μ : gMu} (h : j_inv μ) (p1 p2 : Int32) : ∃ r μ1, f9_choice μ p1 p2 = some (r, μ1) ∧ f10_choice μ1.2.2.2.2 p1 p2 = some r ∧ j_inv μ1 := by
  have hh := h
  obtain ⟨a, hs, sn, t, l, ho, h1, h2⟩ := h
  have ha := ho.1
  have hos := ho.1.2.2
  have hc := h1.1
  have hm := h2.1.2.2.2.2
  unfold f9_choice f10_choice
  rcases o_find a.2.2 p1 with ⟨k, o, hk, rfl⟩ | hx
  · have hkl := (List.getElem?_eq_some_iff.mp hk).1
    have hle := hos.1
    rw [r_numb hc.2.2.2 (by omega), q_b1_s, hk, q_oc_s, f9_choice_e, q_b1_s, f3_isOpen_e, q_b1_s]
    by_cases c1 : 0 ≤ p2 ∧ p2 ≤ 2
    · by_cases c2 : o_op o = true
      · simp only [if_pos c1, if_pos c2]
        rw [if_pos (by decide), if_pos (by decide)]
        obtain ⟨z2, w, e, e1, e2, e3⟩ := r_chosen ha hc (hos.2 k o hk).1 p2
        rw [e1, q_bd_s, q_let]
        have j2 : j_inv (g_setS μ 0 z2) := ⟨a, hs, sn, t, l, ho, h1.set0 e2, h2⟩
        have hm2 : ∀ r, r = (match ch_at a o p2 with | none => -5 | some q => q.2.2.1) → (g_b1 (f10_isOrder (g_setS μ 0 z2).2.2.2.2 (nI k)) fun r1 => if ¬ r1 = 0 then g_b1 (f10_in p2 0 2) fun r5 => if ¬ r5 = 0 then g_b1 (f10_isOpen (g_setS μ 0 z2).2.2.2.2 (nI k)) fun r9 => if r9 = 0 then some (-4) else g_b1 (f10_chosen (g_setS μ 0 z2).2.2.2.2 (nI k) p2) fun r13 => some r13 else some (-2) else some (-1)) = some r := by
          intro r hr
          show (g_b1 (f10_isOrder μ.2.2.2.2 (nI k)) fun r1 => if ¬ r1 = 0 then g_b1 (f10_in p2 0 2) fun r5 => if ¬ r5 = 0 then g_b1 (f10_isOpen μ.2.2.2.2 (nI k)) fun r9 => if r9 = 0 then some (-4) else g_b1 (f10_chosen μ.2.2.2.2 (nI k) p2) fun r13 => some r13 else some (-2) else some (-1)) = some r
          rw [m_isOrder_y hos hm hkl, q_b1_s, if_pos (by decide), f10_in_e, q_b1_s, if_pos c1, if_pos (by decide), m_isOpen hos hm hk, q_b1_s, if_pos c2, if_neg (by decide), m_chosen ha h2.1 hk p2, q_b1_s, hr]
          cases ch_at a o p2 <;> rfl
        obtain ⟨m, hm3, hk4⟩ := ha.2.1
        cases w with
        | none =>
          rw [q_oc_n]
          exact ⟨_, _, rfl, hm2 _ (by rw [ch_at_n e3]), j2⟩
        | some w =>
          rw [q_oc_s]
          obtain ⟨r, p, -, -, -, h4⟩ := ch_at_s hk4.2.2.1 e3
          exact ⟨_, _, rfl, hm2 _ (by rw [h4]), j2⟩
      · simp only [if_pos c1, if_neg c2]
        refine ⟨_, _, rfl, ?_, hh⟩
        rw [m_isOrder_y hos hm hkl, q_b1_s, if_pos (by decide), f10_in_e, q_b1_s, if_pos c1, if_pos (by decide), m_isOpen hos hm hk, q_b1_s, if_neg c2, if_pos rfl]
    · simp only [if_neg c1]
      refine ⟨_, _, rfl, ?_, hh⟩
      rw [m_isOrder_y hos hm hkl, q_b1_s, if_pos (by decide), f10_in_e, q_b1_s, if_neg c1, if_neg (not_not_intro rfl)]
  · rw [r_numb_n hc.2.2.2 hx, q_b1_s, q_oc_n]
    refine ⟨_, _, rfl, ?_, hh⟩
    rw [m_isOrder_n hos hm hx, q_b1_s, if_neg (not_not_intro rfl)]
