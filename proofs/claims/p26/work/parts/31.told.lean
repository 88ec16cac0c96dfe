/-! THE CLASS ALONE: what is told of a state, what each act makes of it -/
def JJ (a : aSt) (hs : List aSt) (μ : gMu) : Prop := a_ok a ∧ jc a hs none (fun _ => 0) 0 μ
theorem JJ.r {a : aSt} {hs : List aSt} {μ : gMu} (h : JJ a hs μ) : r_c a (μ.1 0) := h.2.1
def t_sh (r n : Nat) (s : gSh) (x : Int32) : Int32 := if x = 0 then s.2.1 else if x = 1 then s.2.2.1 else if x = 2 then s.2.2.2.1 else if x = 3 then nI r else if x = 4 then nI n else if x = 5 then s.2.2.2.2 else -2
theorem k_sheet {a : aSt} (ha : a_ok a) {μ : gMu} (hc : r_c a (μ.1 0)) {r p : Nat} {s : gSh} (hr : r < 4) (hsx : (a.2.1 r)[p]? = some s) (x : Int32) : f9_sheet μ s.1 x = some (t_sh r ((a.2.1 r).length - 1 - p) s x) := by
  obtain ⟨hn, ⟨m, hm2, hk4⟩, hos⟩ := ha
  have hl := hk4.2.1 r hr
  have hp : p < (a.2.1 r).length := (List.getElem?_eq_some_iff.mp hsx).1
  unfold f9_sheet t_sh
  have e8 : nI (8 * r + p) / (8 : Int32) = nI r := by
    rw [l8, pk_div (by omega) (by omega) (by omega)]
    congr 1
    omega
  rw [r_slot hc.2.2.1 hk4.2.2.1 hr hl hsx, q_b1_s, r_slot_in hc.2.2.1 hr hl hsx, q_b1_s, q_oc_s, r_before hc.2.2.1 hr hl hp, q_b1_s, e8]
  repeat' split
  all_goals rfl
theorem k_sheet_n {a : aSt} (ha : a_ok a) {μ : gMu} (hc : r_c a (μ.1 0)) {x : Int32} (hy : ∀ (r p : Nat) (v : gSh), r < 4 → (a.2.1 r)[p]? = some v → v.1 ≠ x) (w : Int32) : f9_sheet μ x w = some (-1) := by
  obtain ⟨hn, ⟨m, hm2, hk4⟩, hos⟩ := ha
  unfold f9_sheet
  rw [r_slot_none hc.2.2.1 hk4.2.1 hy, q_b1_s, r_inslot_m, q_b1_s, q_oc_n]
theorem k_at {a : aSt} (ha : a_ok a) {μ : gMu} (hc : r_c a (μ.1 0)) {r q : Nat} (hr : r < 4) (hq : q < 2 ^ 31) : f9_at μ (nI r) (nI q) = some (match (a.2.1 r).reverse[q]? with | none => -5 | some s => s.1) := by
  obtain ⟨hn, ⟨m, hm2, hk4⟩, hos⟩ := ha
  unfold f9_at
  rw [f9_rack_e, q_b1_s, if_pos (show 0 ≤ nI r ∧ nI r ≤ 3 from ⟨nI_pos' (by omega), (nI_leI (b := 3) (by omega) (by omega)).mpr (by omega)⟩), if_pos (by decide), if_pos (nI_pos' hq), r_at hc.2.2.1 hr (hk4.2.1 r hr) hq, q_b1_s]
  cases (a.2.1 r).reverse[q]? <;> rfl
theorem k_at_m {μ : gMu} {r : Nat} (hr : r < 4) : f9_at μ (nI r) (-1) = some (-2) := by
  unfold f9_at
  rw [f9_rack_e, q_b1_s, if_pos (show 0 ≤ nI r ∧ nI r ≤ 3 from ⟨nI_pos' (by omega), (nI_leI (b := 3) (by omega) (by omega)).mpr (by omega)⟩), if_pos (by decide), if_neg (by decide)]
theorem k_at_4 (μ : gMu) : f9_at μ 4 0 = some (-1) := by
  unfold f9_at
  rw [f9_rack_e, q_b1_s, if_neg (by decide)]
def t_od (d : Int32) (o : gOd) (x : Int32) : Int32 := if x = 0 then o.2.1 else if x = 1 then o.2.2.1 else if x = 2 then o.2.2.2.1 else if x = 3 then o.2.2.2.2.1 else if x = 4 then o.2.2.2.2.2.1 else if x = 5 then o.2.2.2.2.2.2.1 else if x = 6 then o.2.2.2.2.2.2.2 else if x = 7 then (if o_lt d o = true then 1 else 0) else -2
theorem k_ordered {a : aSt} (ha : a_ok a) {μ : gMu} (hc : r_c a (μ.1 0)) {k : Nat} {o : gOd} (hk : a.2.2[k]? = some o) (x : Int32) : f9_ordered μ (nI k) x = some (t_od (a.1 5) o x) := by
  have hos := ha.2.2
  have hkl := (List.getElem?_eq_some_iff.mp hk).1
  have hle := hos.1
  unfold f9_ordered t_od
  rw [r_numb hc.2.2.2 (by omega), q_b1_s, hk, q_oc_s, f3_isLate_e, q_b1_s, hc.1 5 (by omega)]
  have hlt : (if (if o_lt (a.1 5) o = true then (1 : Int32) else 0) = 0 then some (0 : Int32) else some 1) = some (if o_lt (a.1 5) o = true then 1 else 0) := by
    by_cases st : o_lt (a.1 5) o = true
    · rw [if_pos st, if_neg (by decide)]
    · rw [if_neg st, if_pos rfl]
  rw [hlt]
  repeat' split
  all_goals rfl
theorem k_ordered_n {a : aSt} (ha : a_ok a) {μ : gMu} (hc : r_c a (μ.1 0)) (x : Int32) : f9_ordered μ (nI a.2.2.length) x = some (-1) := by
  have hos := ha.2.2
  have hle := hos.1
  unfold f9_ordered
  rw [r_numb hc.2.2.2 (by omega), q_b1_s, List.getElem?_eq_none (Nat.le_refl _), q_oc_n]
section COUNTS
variable {a : aSt} {hs : List aSt} {μ : gMu}
theorem k_there (ha : a_ok a) (hc : r_c a (μ.1 0)) : f5_sheetsThere (μ.1 0) = some (nI (a_all a.2.1).length) ∧ f5_areaThere (μ.1 0) = some (a_sa (a_all a.2.1)) := by
  obtain ⟨hn, ⟨m, hm2, hk4⟩, hos⟩ := ha
  constructor
  · have := f5_there_l hc.2.2.1 32 70 0 (by omega) (by omega)
    rw [s_ra_all hk4.2.1, Nat.sub_self, nI_0, Nat.zero_add] at this
    exact this
  · have := f5_area_l hc.2.2.1 32 70 0 (by omega) (by omega)
    rw [s_ra_all hk4.2.1, Nat.sub_self, nI_0, Int32.zero_add] at this
    exact this
theorem k_c0 (hc : r_c a (μ.1 0)) : f9_count μ 0 = some (a.1 5) := congrArg some (hc.1 5 (by omega))
theorem k_c1 (ha : a_ok a) (hc : r_c a (μ.1 0)) : f9_count μ 1 = some (nI (a_all a.2.1).length) := by
  unfold f9_count
  rw [if_neg (by decide), if_pos rfl, (k_there ha hc).1, q_b1_s]
theorem k_c2 (ha : a_ok a) (hc : r_c a (μ.1 0)) : f9_count μ 2 = some (a_sa (a_all a.2.1)) := by
  unfold f9_count
  rw [if_neg (by decide), if_neg (by decide), if_pos rfl, (k_there ha hc).2, q_b1_s]
theorem k_c3 (hc : r_c a (μ.1 0)) : f9_count μ 3 = some (a.1 6) := congrArg some (hc.1 6 (by omega))
theorem k_c4 (hc : r_c a (μ.1 0)) : f9_count μ 4 = some (a.1 7) := congrArg some (hc.1 7 (by omega))
theorem k_c5 (hc : r_c a (μ.1 0)) : f9_count μ 5 = some (a.1 8) := congrArg some (hc.1 8 (by omega))
theorem k_c6 (hc : r_c a (μ.1 0)) : f9_count μ 6 = some (a.1 9) := congrArg some (hc.1 9 (by omega))
theorem k_c7 (hc : r_c a (μ.1 0)) : f9_count μ 7 = some (a.1 10) := congrArg some (hc.1 10 (by omega))
theorem k_c8 (hc : r_c a (μ.1 0)) : f9_count μ 8 = some (a.1 11) := congrArg some (hc.1 11 (by omega))
theorem k_c9 (hc : r_c a (μ.1 0)) : f9_count μ 9 = some (nI a.2.2.length) := congrArg some hc.2.1
theorem k_c10 (hc : r_c a (μ.1 0)) : f9_count μ 10 = some (nI (a.2.2.countP o_op)) := by
  have : f9_count μ 10 = g_b1 (f4_openOnes (μ.1 0)) fun r => some r := rfl
  rw [this, r_open hc.2.2.2, q_b1_s]
theorem k_c11 (hc : r_c a (μ.1 0)) : f9_count μ 11 = some (nI (a.2.2.countP (o_lt (a.1 5)))) := by
  have : f9_count μ 11 = g_b1 (f4_lateOnes (μ.1 0) ((μ.1 0).1 5)) fun r => some r := rfl
  rw [this, r_late hc.2.2.2, q_b1_s, hc.1 5 (by omega)]
theorem k_c12 (hc : r_c a (μ.1 0)) : f9_count μ 12 = some (a.1 12) := congrArg some (hc.1 12 (by omega))
theorem k_c13 (h : JJ a hs μ) : f9_count μ 13 = some (nI hs.length) := congrArg some h.2.2.1.1
theorem k_c20 (hc : r_c a (μ.1 0)) {j : Nat} (hj : j < 5) : f9_count μ (nI (20 + j)) = some (a.1 j) := by
  have : j = 0 ∨ j = 1 ∨ j = 2 ∨ j = 3 ∨ j = 4 := by omega
  rcases this with rfl | rfl | rfl | rfl | rfl
  · exact congrArg some (hc.1 0 (by omega))
  · exact congrArg some (hc.1 1 (by omega))
  · exact congrArg some (hc.1 2 (by omega))
  · exact congrArg some (hc.1 3 (by omega))
  · exact congrArg some (hc.1 4 (by omega))
end COUNTS
section WOULD
variable {a : aSt} {hs : List aSt} {μ : gMu}
theorem k_would (h : JJ a hs μ) {r p k : Nat} {s : gSh} {o : gOd} (hr : r < 4) (hsx : (a.2.1 r)[p]? = some s) (hk : a.2.2[k]? = some o) {x : Int32} (c : 0 ≤ x ∧ x ≤ 6) : ∃ μ2, f9_would μ (nI k) s.1 x = some (if c_lie a.1 o s = -1 then -5 else w_wd a o s ((a.2.1 r).length - 1 - p) x, μ2) ∧ JJ a hs μ2 := by
  obtain ⟨ha, hj⟩ := h
  have hos := ha.2.2
  have hc := hj.1
  have hkl := (List.getElem?_eq_some_iff.mp hk).1
  have hle := hos.1
  obtain ⟨hn, ⟨m, hm2, hk4⟩, -⟩ := id ha
  have hl := hk4.2.1 r hr
  have hp : p < (a.2.1 r).length := (List.getElem?_eq_some_iff.mp hsx).1
  unfold f9_would
  rw [r_numb hc.2.2.2 (by omega), q_b1_s, hk, q_oc_s, r_slot hc.2.2.1 hk4.2.2.1 hr hl hsx, q_b1_s, r_slot_in hc.2.2.1 hr hl hsx, q_b1_s, q_oc_s]
  obtain ⟨z2, y1, y2, y3⟩ := r_lay hc hn (hos.2 k o hk).1 (hk4.2.2.2 r p s hr hsx).1
  rw [if_neg (fun q => (i_nlt x 0).mp q c.1), if_pos c.2, y1, q_bd_s, q_let]
  refine ⟨g_setS μ 0 z2, ?_, ha, hj.set0 y2⟩
  by_cases cl : c_lie a.1 o s = -1
  · rw [if_pos cl, if_neg (not_not_intro rfl), if_pos cl]
  · rw [if_neg cl, if_pos (show ¬ (1 : Int32) = 0 by decide), if_neg cl]
    obtain ⟨q14, q15, q16, q17, q18, q19, q20, q21, q22, q23⟩ := y3 cl
    have e0 : (g_setS μ 0 z2).1 0 = z2 := rfl
    rw [e0, q14, q17, q20, q21, q22, q23, r_before y2.2.2.1 hr hl hp, q_b1_s]
    unfold w_wd
    have e := c_lie_01 cl
    by_cases c0 : x = 0
    · rw [if_pos c0, if_pos c0]
      by_cases c00 : c_lie a.1 o s = 0
      · rw [if_pos c00, c00]
      · rw [if_neg c00] at e ⊢
        rw [← e]
    · rw [if_neg c0, if_neg c0]
      repeat' split
      all_goals rfl
theorem k_would_n (h : JJ a hs μ) {k : Nat} {o : gOd} (hk : a.2.2[k]? = some o) {x : Int32} (hy : ∀ (r p : Nat) (v : gSh), r < 4 → (a.2.1 r)[p]? = some v → v.1 ≠ x) (w : Int32) : f9_would μ (nI k) x w = some (-1, μ) := by
  obtain ⟨ha, hj⟩ := h
  have hos := ha.2.2
  have hc := hj.1
  have hkl := (List.getElem?_eq_some_iff.mp hk).1
  have hle := hos.1
  obtain ⟨hn, ⟨m, hm2, hk4⟩, -⟩ := id ha
  unfold f9_would
  rw [r_numb hc.2.2.2 (by omega), q_b1_s, hk, q_oc_s, r_slot_none hc.2.2.1 hk4.2.1 hy, q_b1_s, r_inslot_m, q_b1_s, q_oc_n]
theorem k_choice (h : JJ a hs μ) {k : Nat} {o : gOd} (hk : a.2.2[k]? = some o) {c : Int32} (hc2 : 0 ≤ c ∧ c ≤ 2) (hop : o_op o = true) : ∃ μ2 w e, f9_choice μ (nI k) c = some (match w with | none => -5 | some s => s.1, μ2) ∧ ch_b a o c 32 w e ∧ JJ a hs μ2 := by
  obtain ⟨ha, hj⟩ := h
  have hos := ha.2.2
  have hc := hj.1
  have hkl := (List.getElem?_eq_some_iff.mp hk).1
  have hle := hos.1
  unfold f9_choice
  rw [r_numb hc.2.2.2 (by omega), q_b1_s, hk, q_oc_s, f9_choice_e, q_b1_s, f3_isOpen_e, q_b1_s, if_pos hc2, if_pos hop, if_pos (show ¬ (1 : Int32) = 0 by decide), if_pos (show ¬ (1 : Int32) = 0 by decide)]
  obtain ⟨z2, w, e, y1, y2, y3⟩ := r_chosen ha hc (hos.2 k o hk).1 c
  rw [y1, q_bd_s, q_let]
  refine ⟨g_setS μ 0 z2, w, e, ?_, y3, ha, hj.set0 y2⟩
  cases w <;> rfl
theorem k_choice_n (h : JJ a hs μ) {k : Nat} {o : gOd} (hk : a.2.2[k]? = some o) {c : Int32} (hc2 : 0 ≤ c ∧ c ≤ 2) (hop : ¬ o_op o = true) : f9_choice μ (nI k) c = some (-4, μ) := by
  obtain ⟨ha, hj⟩ := h
  have hos := ha.2.2
  have hc := hj.1
  have hkl := (List.getElem?_eq_some_iff.mp hk).1
  have hle := hos.1
  unfold f9_choice
  rw [r_numb hc.2.2.2 (by omega), q_b1_s, hk, q_oc_s, f9_choice_e, q_b1_s, f3_isOpen_e, q_b1_s, if_pos hc2, if_neg hop, if_pos (show ¬ (1 : Int32) = 0 by decide), if_neg (not_not_intro rfl)]
theorem k_next (ha : a_ok a) (hc : r_c a (μ.1 0)) {R : Nat} (hR : R < 2 ^ 31) : f9_next μ (nI R) = some (m_nm (w_rank a.2.2 R (o_best (o_nx none) none a.2.2))) := by
  have hos := ha.2.2
  unfold f9_next
  rw [if_pos (nI_pos' hR)]
  unfold f4_openAtRank
  by_cases c2 : R < 12
  · rw [if_pos (by rw [l12, nI_ltI (by omega) (by omega)]; exact c2), r_next hc.2.2.2 hos none (fun l q => by cases q), q_b1_s]
    have e3 := r_rank hc.2.2.2 hos c2 R 70 0 (o_best (o_nx none) none a.2.2) (by omega) (by omega) (fun o q => o_best_at q)
    rw [nI_0] at e3
    have e4 : (g_oc (o_best (o_nx none) none a.2.2) (f4_openAtRank_16 70 (μ.1 0) (nI R) none 0) fun v7 => f4_openAtRank_16 70 (μ.1 0) (nI R) (some v7) 0) = some (w_rank a.2.2 R (o_best (o_nx none) none a.2.2)) := by
      generalize o_best (o_nx none) none a.2.2 = b at e3 ⊢
      cases b with
      | none => rw [q_oc_n]; exact e3
      | some b => rw [q_oc_s]; exact e3
    rw [e4, q_b1_s]
    cases w_rank a.2.2 R (o_best (o_nx none) none a.2.2) <;> rfl
  · rw [if_neg (by rw [l12, nI_ltI (by omega) (by omega)]; exact c2), q_b1_s, q_oc_n, w_rank_no R none (by have := List.countP_le_length (p := o_nx none) (l := a.2.2); have := hos.1; omega)]
    rfl
noncomputable def t_wp (a : aSt) (c x : Int32) : Int32 := if x = 0 then (if 0 ≤ (w_plan a c).1 then (w_plan a c).1 else 0) else if x = 1 then (w_plan a c).2.1 8 - a.1 8 else if x = 2 then (w_plan a c).2.1 11 - a.1 11 else (w_plan a c).2.1 9 - a.1 9
theorem k_wouldPlan (h : JJ a hs μ) {c x : Int32} (c1 : 0 ≤ c ∧ c ≤ 2) (c2 : 0 ≤ x ∧ x ≤ 3) : ∃ μ2, f9_wouldPlan μ c x = some (t_wp a c x, μ2) ∧ JJ a hs μ2 := by
  obtain ⟨ha, h1⟩ := h
  unfold f9_wouldPlan
  rw [f9_choice_e, q_b1_s, if_pos c1, if_neg (show ¬ (1 : Int32) = 0 by decide), if_neg (fun q => (i_nlt x 0).mp q c2.1), if_pos c2.2]
  obtain ⟨z1, y1, x1⟩ := r_copy h1.1 (μ.1 1)
  obtain ⟨z2, y2, x2, -⟩ := r_plan ha x1 c
  rw [y1, q_b1_s, q_let, show (g_setS μ 1 z1).1 1 = z1 from rfl, y2, q_bd_s, q_let]
  have j1 := (h1.set1 z1).set1 z2
  have ev : ∀ (k : Nat), k < 13 → ((g_setS (g_setS μ 1 z1) 1 z2).1 1).1 k = (w_plan a c).2.1 k := fun k hk => x2.1 k hk
  have e0 : ∀ (k : Nat), k < 13 → ((g_setS (g_setS μ 1 z1) 1 z2).1 0).1 k = a.1 k := fun k hk => h1.1.1 k hk
  rw [ev 8 (by omega), ev 11 (by omega), ev 9 (by omega), e0 8 (by omega), e0 11 (by omega), e0 9 (by omega)]
  refine ⟨_, ?_, ha, j1⟩
  unfold t_wp
  repeat' split
  all_goals rfl
end WOULD
section ACTS
variable {a : aSt} {hs : List aSt} {μ : gMu}
theorem k_buy (h : JJ a hs μ) (p1 p2 p3 p4 : Int32) : ∃ μ2, f9_buy μ p1 p2 p3 p4 = some ((w_buy a p1 p2 p3 p4).1, μ2) ∧ JJ (w_buy a p1 p2 p3 p4).2 (j_hs hs a (w_buy a p1 p2 p3 p4).1) μ2 := by
  obtain ⟨μ1, e1, c1, k1⟩ := c_act h.2 (fun z => f8_buySheet z p1 p2 p3 p4) (w_buy a p1 p2 p3 p4) (fun z hz => r_buy h.1 hz p1 p2 p3 p4)
  exact ⟨μ1, e1, w_buy_ok h.1 p1 p2 p3 p4, c1⟩
theorem k_order (h : JJ a hs μ) (p1 p2 p3 p4 : Int32) : ∃ μ2, f9_order μ p1 p2 p3 p4 = some ((w_order a p1 p2 p3 p4).1, μ2) ∧ JJ (w_order a p1 p2 p3 p4).2 (j_hs hs a (w_order a p1 p2 p3 p4).1) μ2 := by
  obtain ⟨μ1, e1, c1, k1⟩ := c_act h.2 (fun z => f8_takeOrder z p1 p2 p3 p4) (w_order a p1 p2 p3 p4) (fun z hz => r_order hz p1 p2 p3 p4)
  exact ⟨μ1, e1, w_order_ok h.1 p1 p2 p3 p4, c1⟩
theorem k_pass (h : JJ a hs μ) (p1 : Int32) : ∃ μ2, f9_pass μ p1 = some ((w_pass a p1).1, μ2) ∧ JJ (w_pass a p1).2 (j_hs hs a (w_pass a p1).1) μ2 := by
  obtain ⟨μ1, e1, c1, k1⟩ := c_act h.2 (fun z => f8_passDays z p1) (w_pass a p1) (fun z hz => r_pass hz p1)
  exact ⟨μ1, e1, w_pass_ok h.1 p1, c1⟩
theorem k_set (h : JJ a hs μ) (p1 p2 : Int32) : ∃ μ2, f9_set μ p1 p2 = some ((w_set a p1 p2).1, μ2) ∧ JJ (w_set a p1 p2).2 (j_hs hs a (w_set a p1 p2).1) μ2 := by
  obtain ⟨μ1, e1, c1, k1⟩ := c_act h.2 (fun z => f6_change z p1 p2) (w_set a p1 p2) (fun z hz => r_set hz p1 p2)
  exact ⟨μ1, e1, w_set_ok h.1 p1 p2, c1⟩
theorem k_cancel (h : JJ a hs μ) {k : Nat} {o : gOd} (hk : a.2.2[k]? = some o) : ∃ μ2, f9_cancel μ (nI k) = some ((w_cancel a k o).1, μ2) ∧ JJ (w_cancel a k o).2 (j_hs hs a (w_cancel a k o).1) μ2 := by
  obtain ⟨μ1, e1, c1, k1⟩ := c_act h.2 (fun z => f8_cancelOrder z (nI k)) (w_cancel a k o) (fun z hz => r_cancel h.1 hz hk)
  exact ⟨μ1, e1, w_cancel_ok h.1 hk, c1⟩
theorem k_cut (h : JJ a hs μ) {r p k : Nat} {s : gSh} {o : gOd} (hr : r < 4) (hsx : (a.2.1 r)[p]? = some s) (hk : a.2.2[k]? = some o) : ∃ μ2, f9_cut μ (nI k) s.1 = some ((w_cut a r p k s o).1, μ2) ∧ JJ (w_cut a r p k s o).2 (j_hs hs a (w_cut a r p k s o).1) μ2 := by
  obtain ⟨μ1, e1, c1, k1⟩ := c_act h.2 (fun z => f8_cutOrder z (nI k) s.1) (w_cut a r p k s o) (fun z hz => r_cutOrder h.1 hz hr hsx hk)
  exact ⟨μ1, e1, w_cut_ok h.1 hr hsx hk, c1⟩
theorem k_cut_n (h : JJ a hs μ) {x : Int32} (hx : ∀ (r p : Nat) (v : gSh), r < 4 → (a.2.1 r)[p]? = some v → v.1 ≠ x) {k : Nat} (hk : k < 2 ^ 31) : ∃ μ2, f9_cut μ (nI k) x = some (-1, μ2) ∧ JJ a hs μ2 := by
  obtain ⟨μ1, e1, c1, k1⟩ := c_act h.2 (fun z => f8_cutOrder z (nI k) x) (-1, a) (fun z hz => ⟨z, r_cutOrder_n h.1 hz hx k hk, hz⟩)
  rw [j_hs_n hs a i_m1] at c1
  exact ⟨μ1, e1, h.1, c1⟩
theorem k_plan (h : JJ a hs μ) (p1 : Int32) : ∃ μ2, f9_plan μ p1 = some ((w_plan a p1).1, μ2) ∧ JJ (w_plan a p1).2 (j_hs hs a (w_plan a p1).1) μ2 := by
  obtain ⟨μ1, e1, c1, k1⟩ := c_act h.2 (fun z => f8_planDay z p1) (w_plan a p1) (fun z hz => by
    obtain ⟨z2, q1, q2, -⟩ := r_plan h.1 hz p1
    exact ⟨z2, q1, q2⟩)
  obtain ⟨z2, q1, q2, q3⟩ := r_plan h.1 h.2.1 p1
  exact ⟨μ1, e1, q3, c1⟩
theorem k_move (h : JJ a hs μ) {r p : Nat} {s : gSh} (hr : r < 4) (hsx : (a.2.1 r)[p]? = some s) (x : Int32) : ∃ μ2, f9_move μ s.1 x = some ((w_move a r p s x).1, μ2) ∧ JJ (w_move a r p s x).2 (j_hs hs a (w_move a r p s x).1) μ2 := by
  obtain ⟨μ1, e1, c1, k1⟩ := c_act h.2 (fun z => f8_moveSheet z s.1 x) (w_move a r p s x) (fun z hz => r_move h.1 hz hr hsx x)
  exact ⟨μ1, e1, w_move_ok h.1 hr hsx x, c1⟩
theorem k_move_n (h : JJ a hs μ) {x : Int32} (hx : ∀ (r p : Nat) (v : gSh), r < 4 → (a.2.1 r)[p]? = some v → v.1 ≠ x) (y : Int32) : ∃ μ2, f9_move μ x y = some (-1, μ2) ∧ JJ a hs μ2 := by
  obtain ⟨μ1, e1, c1, k1⟩ := c_act h.2 (fun z => f8_moveSheet z x y) (-1, a) (fun z hz => ⟨z, r_move_n h.1 hz hx y, hz⟩)
  rw [j_hs_n hs a i_m1] at c1
  exact ⟨μ1, e1, h.1, c1⟩
theorem k_scrap_n (h : JJ a hs μ) {x : Int32} (hx : ∀ (r p : Nat) (v : gSh), r < 4 → (a.2.1 r)[p]? = some v → v.1 ≠ x) : ∃ μ2, f9_scrap μ x = some (-1, μ2) ∧ JJ a hs μ2 := by
  obtain ⟨μ1, e1, c1, k1⟩ := c_act h.2 (fun z => f8_scrapSheet z x) (-1, a) (fun z hz => ⟨z, r_scrap_n h.1 hz hx, hz⟩)
  rw [j_hs_n hs a i_m1] at c1
  exact ⟨μ1, e1, h.1, c1⟩
theorem k_undo_n (h : JJ a [] μ) : f9_undo μ = some (-5, μ) := by
  unfold f9_undo
  rw [r_back_n h.2.2.1, q_bd_s]
theorem k_undo {b : aSt} (hb : a_ok b) (h : JJ a (hs ++ [b]) μ) : ∃ μ2, f9_undo μ = some (nI hs.length, μ2) ∧ JJ b hs μ2 := by
  obtain ⟨μ2, q1, q2, q3, q4, q5⟩ := r_back_s h.2.2.1
  unfold f9_undo
  rw [q1, q_bd_s]
  obtain ⟨h1, h2, h3, h4, h5⟩ := h.2
  refine ⟨μ2, rfl, hb, q3, q2, ?_, fun k hk => absurd hk (by omega), ?_⟩
  · rw [q5]; exact h3
  · rw [q5]; exact h5
end ACTS
