/-! THE LAW: plans, settings, orders, cancelling; one act -/
section DOES
variable {a : aSt} {hs : List aSt} {μ : gMu}
theorem c_02 {c : Nat} (hc : c < 3) : 0 ≤ nI c ∧ nI c ≤ 2 := ⟨nI_pos' (by omega), (nI_leI (b := 2) (by omega) (by omega)).mpr (by omega)⟩
theorem i_sac (x y : Int32) : x - y + y = x := Int32.sub_add_cancel x y
theorem plans_ok (h : JJ a hs μ) {T : Nat} (hb : b_ok a T) (p1 : Int32) : ACT a hs T (fL_plans μ p1) := by
  have qd : ∀ (v : Int32) (w : gMu) (f : Int32 → gMu → Option (Int32 × gMu)), g_bd (some (v, w)) f = f v w := fun _ _ _ => rfl
  have qb : ∀ (v : Int32) (f : Int32 → Option (Int32 × gMu)), g_b1 (some v) f = f v := fun _ _ => rfl
  have ql : ∀ (v : Int32) (f : Int32 → Option (Int32 × gMu)), g_let v f = f v := fun _ _ => rfl
  obtain ⟨c, hc, e1⟩ : ∃ j, j < 3 ∧ fL_low p1 (3 : Int32) = some (nI j) := low_e p1 (n := 3) (by omega) (by omega)
  have hle := h.1.2.2.1
  have hop := List.countP_le_length (p := o_op) (l := a.2.2)
  obtain ⟨μ1, w1, j1⟩ := k_wouldPlan h (c_02 hc) (x := 0) (by decide)
  obtain ⟨μ2, w2, j2⟩ := k_wouldPlan j1 (c_02 hc) (x := 1) (by decide)
  obtain ⟨μ3, w3, j3⟩ := k_wouldPlan j2 (c_02 hc) (x := 2) (by decide)
  obtain ⟨μ4, w4, j4⟩ := k_wouldPlan j3 (c_02 hc) (x := 3) (by decide)
  obtain ⟨μ5, w5, j5⟩ := k_plan j4 (nI c)
  obtain ⟨b5, hw⟩ := w_plan_b h.1 hb (c_02 hc)
  have fin : ∀ f, f = some ((1 : Int32), μ5) → ACT a hs T f := fun f hf => ⟨μ5, _, _, T, hf, j5, b5, by omega, j_hs_or _ _ _⟩
  have t0 : t_wp a (nI c) 0 = if 0 ≤ (w_plan a (nI c)).1 then (w_plan a (nI c)).1 else 0 := rfl
  have t1 : t_wp a (nI c) 1 = (w_plan a (nI c)).2.1 8 - a.1 8 := rfl
  have t2 : t_wp a (nI c) 2 = (w_plan a (nI c)).2.1 11 - a.1 11 := rfl
  have t3 : t_wp a (nI c) 3 = (w_plan a (nI c)).2.1 9 - a.1 9 := rfl
  refine fin _ ?_
  unfold fL_plans
  rw [e1, q_b1_s, w1, qd, w2, qd, k_c5 j2.r, qb, ql, w3, qd, k_c8 j3.r, qb, ql, w4, qd, k_c6 j4.r, qb, ql, k_c10 j4.r, qb, w5, qd, t0, t1, t2, t3, i_sac, i_sac, i_sac]
  rcases hw with ⟨c0, ew⟩ | ⟨c1, y, ey, hy, ho⟩
  · rw [c0, if_neg (not_not_intro (show nI 0 = 0 from rfl)), ew, if_neg (not_not_intro rfl), if_neg (show ¬ (0 : Int32) ≤ -5 by decide), if_neg (not_not_intro rfl)]
  · rw [if_pos (show ¬ nI (a.2.2.countP o_op) = 0 from nI_ne0 c1 (by omega)), ey, if_pos (nI_pos' (by omega)), if_neg (not_not_intro rfl), k_c10 j5.r, qb, pk_sub (show y ≤ a.2.2.countP o_op by omega), if_neg (not_not_intro (congrArg nI (by omega))), k_c5 j5.r, qb, if_neg (not_not_intro rfl), k_c8 j5.r, qb, if_neg (not_not_intro rfl), k_c6 j5.r, qb, if_neg (not_not_intro rfl)]
/-- the law's tail behind a setting -/
def st_tl (z0 : gMu) (j v : Int32) : Option (Int32 × gMu) :=
  g_b1 (f9_count z0 ((20 : Int32) + j)) fun r138 =>
          g_bd (f9_set z0 j v) fun r141 z142 =>
          if ¬ r138 = v then
            if ¬ r141 = r138 then
              some ((0 : Int32), z142)
            else
              g_b1 (f9_count z142 ((20 : Int32) + j)) fun r147 =>
              if ¬ r147 = v then
                some ((0 : Int32), z142)
              else
                some ((1 : Int32), z142)
          else
            if ¬ r141 = (-5 : Int32) then
              some ((0 : Int32), z142)
            else
              g_b1 (f9_count z142 ((20 : Int32) + j)) fun r152 =>
              if ¬ r152 = v then
                some ((0 : Int32), z142)
              else
                some ((1 : Int32), z142)
theorem st_ok (h : JJ a hs μ) {T : Nat} (hb : b_ok a T) {j : Nat} (hj : j < 5) {v : Int32} (hal : s_al (nI j) v) : ACT a hs T (st_tl μ (nI j) v) := by
  obtain ⟨μ2, f1, f2⟩ := k_set h (nI j) v
  have g3 := w_set_b hb (nI j) v
  have fin : ∀ f, f = some ((1 : Int32), μ2) → ACT a hs T f := fun f hf => ⟨μ2, _, _, T, hf, f2, g3, by omega, j_hs_or _ _ _⟩
  refine fin _ ?_
  unfold st_tl
  have e20 : (20 : Int32) + nI j = nI (20 + j) := nI_add 20 j
  rw [e20, k_c20 h.r hj, q_b1_s, f1, q_bd_s, k_c20 f2.r hj, q_b1_s]
  by_cases c : a.1 j = v
  · have ew : w_set a (nI j) v = (-5, a) := by
      unfold w_set
      rw [if_pos hal, nI_clamp (by omega), if_pos c]
    rw [if_neg (not_not_intro c), ew, if_neg (not_not_intro rfl), if_neg (not_not_intro c)]
  · have ew : w_set a (nI j) v = (a.1 j, va_up a.1 j v, a.2) := by
      unfold w_set
      rw [if_pos hal, nI_clamp (by omega), if_neg c]
    rw [if_pos c, ew, if_neg (not_not_intro rfl)]
    show (if ¬ va_up a.1 j v j = v then _ else _) = _
    rw [va_up_at, if_neg (not_not_intro rfl)]
theorem w_order_e (a : aSt) {q w y d : Nat} (hq : q < 3) (hw : 1 ≤ w) (hw2 : w ≤ 99) (hy : 1 ≤ y) (hy2 : y ≤ 99) (hd : d ≤ 999) : (w_order a (nI q) (nI w) (nI y) (nI d)).1 = if a.2.2.length < 12 then nI a.2.2.length else -3 := by
  unfold w_order
  rw [if_pos (show 0 ≤ nI q ∧ nI q ≤ 2 from c_02 hq), if_pos (show 1 ≤ nI w ∧ nI w ≤ 99 from ⟨(nI_leI (a := 1) (by omega) (by omega)).mpr hw, (nI_leI (b := 99) (by omega) (by omega)).mpr hw2⟩), if_pos (show 1 ≤ nI y ∧ nI y ≤ 99 from ⟨(nI_leI (a := 1) (by omega) (by omega)).mpr hy, (nI_leI (b := 99) (by omega) (by omega)).mpr hy2⟩), if_pos (show 0 ≤ nI d ∧ nI d ≤ 999 from ⟨nI_pos' (by omega), (nI_leI (b := 999) (by omega) (by omega)).mpr hd⟩)]
  split <;> rfl
/-- an order: its four numbers, and its answer -/
theorem od_low (h : JJ a hs μ) {T : Nat} (hb : b_ok a T) (p2 p3 : Int32) : ∃ (q w y d : Nat) (μ2 : gMu) (a2 : aSt) (hs2 : List aSt), fL_low p2 (3 : Int32) = some (nI q) ∧ fL_low (p2 >>> ((3 : Int32) &&& 31)) (40 : Int32) = some (nI w) ∧ fL_low p3 (40 : Int32) = some (nI y) ∧ fL_low (p3 >>> ((7 : Int32) &&& 31)) (30 : Int32) = some (nI d) ∧
    f9_order μ (nI q) ((1 : Int32) + nI w) ((1 : Int32) + nI y) (nI d) = some (if a.2.2.length < 12 then nI a.2.2.length else -3, μ2) ∧ JJ a2 hs2 μ2 ∧ b_ok a2 T ∧ (hs2 = hs ∨ hs2 = h_push hs a) := by
  obtain ⟨q, hq, e1⟩ : ∃ j, j < 3 ∧ fL_low p2 (3 : Int32) = some (nI j) := low_e p2 (n := 3) (by omega) (by omega)
  obtain ⟨w, hw, e2⟩ : ∃ j, j < 40 ∧ fL_low (p2 >>> ((3 : Int32) &&& 31)) (40 : Int32) = some (nI j) := low_e _ (n := 40) (by omega) (by omega)
  obtain ⟨y, hy, e3⟩ : ∃ j, j < 40 ∧ fL_low p3 (40 : Int32) = some (nI j) := low_e p3 (n := 40) (by omega) (by omega)
  obtain ⟨d, hd, e4⟩ : ∃ j, j < 30 ∧ fL_low (p3 >>> ((7 : Int32) &&& 31)) (30 : Int32) = some (nI j) := low_e _ (n := 30) (by omega) (by omega)
  have e5 : (1 : Int32) + nI w = nI (1 + w) := nI_add 1 w
  have e6 : (1 : Int32) + nI y = nI (1 + y) := nI_add 1 y
  obtain ⟨μ2, f1, f2⟩ := k_order h (nI q) (nI (1 + w)) (nI (1 + y)) (nI d)
  refine ⟨q, w, y, d, μ2, _, _, e1, e2, e3, e4, ?_, f2, w_order_b hb (nI q) (nI (1 + w)) (nI (1 + y)) (nI d), j_hs_or _ _ _⟩
  rw [e5, e6, f1, w_order_e a hq (by omega) (by omega) (by omega) (by omega) (by omega)]
theorem cancel_ok (h : JJ a hs μ) {T : Nat} (hb : b_ok a T) {k : Nat} {o : gOd} (hk : a.2.2[k]? = some o) : ACT a hs T (g_b1 (f9_count μ (10 : Int32)) fun r52 =>
                    g_b1 (f9_ordered μ (nI k) (4 : Int32)) fun r55 =>
                    if ¬ r55 = 0 then
                      g_bd (f9_cancel μ (nI k)) fun r59 z60 =>
                      if ¬ r59 = (-4 : Int32) then
                        some ((0 : Int32), z60)
                      else
                        g_b1 (f9_ordered z60 (nI k) (4 : Int32)) fun r67 =>
                        if r67 = 0 then
                          some ((0 : Int32), z60)
                        else
                          some ((1 : Int32), z60)
                    else
                      g_bd (f9_cancel μ (nI k)) fun r71 z72 =>
                      if ¬ r71 = (r52 - (1 : Int32)) then
                        some ((0 : Int32), z72)
                      else
                        g_b1 (f9_ordered z72 (nI k) (4 : Int32)) fun r79 =>
                        if r79 = 0 then
                          some ((0 : Int32), z72)
                        else
                          some ((1 : Int32), z72)) := by
  obtain ⟨μ2, f1, f2⟩ := k_cancel h hk
  have g3 := w_cancel_b hb hk
  have hkl := (List.getElem?_eq_some_iff.mp hk).1
  have fin : ∀ f, f = some ((1 : Int32), μ2) → ACT a hs T f := fun f hf => ⟨μ2, _, _, T, hf, f2, g3, by omega, j_hs_or _ _ _⟩
  refine fin _ ?_
  have t4 : f9_ordered μ (nI k) 4 = some o.2.2.2.2.2.1 := k_ordered h.1 h.r hk 4
  rw [k_c10 h.r, q_b1_s, t4, q_b1_s, f1, q_bd_s, q_bd_s]
  by_cases st : o.2.2.2.2.2.1 = 0
  · have hop : o_op o = true := decide_eq_true st
    have ew : w_cancel a k o = (nI ((a.2.2.set k (o_off o)).countP o_op), a.1, a.2.1, a.2.2.set k (o_off o)) := if_pos hop
    have hk2 : (w_cancel a k o).2.2.2[k]? = some (o_off o) := by
      rw [ew]
      show (a.2.2.set k (o_off o))[k]? = _
      rw [List.getElem?_set, if_pos rfl, if_pos hkl]
    have t5 : f9_ordered μ2 (nI k) 4 = some 2 := k_ordered f2.1 f2.r hk2 4
    have sc := cnt_set o_op a.2.2 k o (o_off o) hk
    rw [if_pos hop, if_neg (show ¬ o_op (o_off o) = true from by show ¬ decide ((2 : Int32) = 0) = true; decide)] at sc
    rw [if_neg (not_not_intro st), ew, l1, pk_sub (show 1 ≤ a.2.2.countP o_op by omega), if_neg (not_not_intro (congrArg nI (by omega))), t5, q_b1_s, if_neg (show ¬ (2 : Int32) = 0 by decide)]
  · have hop : ¬ o_op o = true := fun q => st (of_decide_eq_true q)
    have ew : w_cancel a k o = (-4, a) := if_neg hop
    rw [ew] at f2
    have t5 : f9_ordered μ2 (nI k) 4 = some o.2.2.2.2.2.1 := k_ordered f2.1 f2.r hk 4
    rw [if_pos st, ew, if_neg (not_not_intro rfl), t5, q_b1_s, if_neg st]
theorem ACT.pass {T : Nat} {f : Option (Int32 × gMu)} (h : ACT a hs T f) : ACT a hs T (g_bd f fun r z => if r = 0 ∨ r = 1 then some (r, z) else none) := by
  obtain ⟨μ2, a2, hs2, T2, h1, h2⟩ := h
  refine ⟨μ2, a2, hs2, T2, ?_, h2⟩
  rw [h1, q_bd_s, if_pos (Or.inr rfl)]
theorem al_0 {v : Nat} (h : v < 6) : s_al (nI 0) (nI v) := Or.inl ⟨rfl, nI_pos' (by omega), (nI_leI (b := 5) (by omega) (by omega)).mpr (by omega)⟩
theorem al_1 {v : Nat} (h : v < 20) : s_al (nI 1) (nI (1 + v)) := Or.inr (Or.inl ⟨rfl, (nI_leI (a := 1) (by omega) (by omega)).mpr (by omega), (nI_leI (b := 99) (by omega) (by omega)).mpr (by omega)⟩)
theorem al_3 {v : Nat} (h : v < 9) : s_al (nI 3) (nI v) := Or.inr (Or.inr (Or.inr (Or.inl ⟨rfl, nI_pos' (by omega), (nI_leI (b := 50) (by omega) (by omega)).mpr (by omega)⟩)))
theorem al_24 {j v : Nat} (hj : j = 2 ∨ j = 4) (h : v < 2) : s_al (nI j) (nI v) := by
  have hv : nI v = 0 ∨ nI v = 1 := by
    have : v = 0 ∨ v = 1 := by omega
    rcases this with rfl | rfl
    · exact Or.inl rfl
    · exact Or.inr rfl
  rcases hj with rfl | rfl
  · exact Or.inr (Or.inr (Or.inl ⟨rfl, hv⟩))
  · exact Or.inr (Or.inr (Or.inr (Or.inr ⟨rfl, hv⟩)))
theorem does_ok (h : JJ a hs μ) {T : Nat} (hb : b_ok a T) (hT : T ≤ 1000000) (p1 p2 p3 : Int32) : ACT a hs T (fL_does μ p1 p2 p3) := by
  obtain ⟨hn, ⟨m, hm, hk4⟩, hos⟩ := id h.1
  have hml := hk4.1
  have hle := hos.1
  unfold fL_does
  rw [k_c9 h.r, q_b1_s]
  by_cases c0 : p1 = 0
  · rw [if_neg (not_not_intro c0)]
    obtain ⟨j, hj, e1⟩ : ∃ j, j < 5 ∧ fL_low p2 (5 : Int32) = some (nI j) := low_e p2 (n := 5) (by omega) (by omega)
    rw [e1, q_b1_s]
    by_cases d0 : j = 0
    · subst d0
      obtain ⟨v, hv, e2⟩ : ∃ j, j < 6 ∧ fL_low p3 (6 : Int32) = some (nI j) := low_e p3 (n := 6) (by omega) (by omega)
      rw [if_neg (not_not_intro (show nI 0 = 0 from rfl)), e2, q_b1_s]
      exact st_ok h hb (by omega) (al_0 hv)
    · rw [if_pos (show ¬ nI j = 0 from nI_ne0 (by omega) (by omega))]
      by_cases d1 : j = 1
      · subst d1
        obtain ⟨v, hv, e2⟩ : ∃ j, j < 20 ∧ fL_low p3 (20 : Int32) = some (nI j) := low_e p3 (n := 20) (by omega) (by omega)
        rw [if_neg (not_not_intro (show nI 1 = 1 from rfl)), e2, q_b1_s, show (1 : Int32) + nI v = nI (1 + v) from nI_add 1 v, q_let]
        exact st_ok h hb (by omega) (al_1 hv)
      · rw [if_pos (show ¬ nI j = 1 from fun q => d1 ((nI_eq (b := 1) (by omega) (by omega)).mp q))]
        by_cases d3 : j = 3
        · subst d3
          obtain ⟨v, hv, e2⟩ : ∃ j, j < 9 ∧ fL_low p3 (9 : Int32) = some (nI j) := low_e p3 (n := 9) (by omega) (by omega)
          rw [if_neg (not_not_intro (show nI 3 = 3 from rfl)), e2, q_b1_s]
          exact st_ok h hb (by omega) (al_3 hv)
        · obtain ⟨v, hv, e2⟩ : ∃ j, j < 2 ∧ fL_low p3 (2 : Int32) = some (nI j) := low_e p3 (n := 2) (by omega) (by omega)
          rw [if_pos (show ¬ nI j = 3 from fun q => d3 ((nI_eq (b := 3) (by omega) (by omega)).mp q)), e2, q_b1_s]
          exact st_ok h hb hj (al_24 (by omega) hv)
  · rw [if_pos c0]
    by_cases c4 : p1 < 4
    · rw [if_pos c4]
      exact (buys_ok h hb p2 p3).pass
    · rw [if_neg c4, k_c12 h.r, q_b1_s, hm]
      by_cases m0 : m = 0
      · subst m0
        rw [if_neg (not_not_intro (show nI 0 = 0 from rfl))]
        exact (buys_ok h hb p2 p3).pass
      · rw [if_pos (show ¬ nI m = 0 from nI_ne0 (by omega) (by omega))]
        obtain ⟨q, w, y, d, μ2, a2, hs2, o1, o2, o3, o4, o5, o6, o7, o8⟩ := od_low h hb p2 p3
        have fin : ∀ f, f = some ((1 : Int32), μ2) → ACT a hs T f := fun f hf => ⟨μ2, a2, hs2, T, hf, o6, o7, by omega, o8⟩
        by_cases c7 : p1 < 7
        · rw [if_pos c7, o1, q_b1_s, o2, q_b1_s, o3, q_b1_s, o4, q_b1_s, o5, q_bd_s]
          refine fin _ ?_
          by_cases c12 : a.2.2.length < 12
          · rw [if_pos c12, if_pos (show ¬ nI a.2.2.length = 12 from fun q => by have := (nI_eq (b := 12) (by omega) (by omega)).mp q; omega), if_neg (not_not_intro rfl)]
          · rw [if_neg c12, show a.2.2.length = 12 by omega, if_neg (not_not_intro (show nI 12 = 12 from rfl)), if_neg (not_not_intro rfl)]
        · rw [if_neg c7]
          by_cases n0 : a.2.2.length = 0
          · rw [if_neg (not_not_intro (show nI a.2.2.length = 0 by rw [n0]; rfl)), o1, q_b1_s, o2, q_b1_s, o3, q_b1_s, o4, q_b1_s, o5, q_bd_s, if_pos (show a.2.2.length < 12 by omega), if_neg (not_not_intro rfl)]
            exact fin _ rfl
          · rw [if_pos (show ¬ nI a.2.2.length = 0 from nI_ne0 (by omega) (by omega))]
            by_cases c9 : (9 : Int32) ≤ p1
            · rw [if_pos c9]
              by_cases e9 : p1 = 9
              · rw [if_neg (not_not_intro e9)]
                exact (plans_ok h hb p2).pass
              · rw [if_pos e9]
                by_cases c12 : (12 : Int32) ≤ p1
                · rw [if_pos c12]
                  by_cases e12 : p1 = 12
                  · obtain ⟨k, hk, e1⟩ := low_e p2 (n := a.2.2.length) (by omega) (by omega)
                    rw [if_neg (not_not_intro e12), e1, q_b1_s]
                    exact cancel_ok h hb (List.getElem?_eq_getElem hk)
                  · rw [if_pos e12]
                    exact (passes_ok h hb p2).pass
                · rw [if_neg c12]
                  exact (moves_ok h hb hm (by omega) hml p2 p3).pass
            · rw [if_neg c9]
              exact (cuts_ok h hb hT hm (by omega) hml (by omega) p2 p3).pass
end DOES
