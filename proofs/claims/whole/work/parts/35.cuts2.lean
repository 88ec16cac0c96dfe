/-! THE REFERENCE: a cut -/
theorem td_keep (a : aSt) (g : Nat → Int32) (k : Nat) (s : gSh) (o : gOd) (r : Nat) (w y : Int32) : t_keep (t_done a g k s o) r w y s = ((t_keep a r w y s).1, t_done (t_keep a r w y s).2 g k s o) := by
  have n1 : (t_done a g k s o).1 1 = a.1 1 := by
    show va_up (va_up a.1 7 (a.1 7 + o.2.2.1 * o.2.2.2.1)) 10 (a.1 10 + c_lost g o s) 1 = a.1 1
    rw [va_up_ne _ _ (by omega), va_up_ne _ _ (by omega)]
  have n8 : (t_done a g k s o).1 8 = a.1 8 := by
    show va_up (va_up a.1 7 (a.1 7 + o.2.2.1 * o.2.2.2.1)) 10 (a.1 10 + c_lost g o s) 8 = a.1 8
    rw [va_up_ne _ _ (by omega), va_up_ne _ _ (by omega)]
  have n12 : (t_done a g k s o).1 12 = a.1 12 := by
    show va_up (va_up a.1 7 (a.1 7 + o.2.2.1 * o.2.2.2.1)) 10 (a.1 10 + c_lost g o s) 12 = a.1 12
    rw [va_up_ne _ _ (by omega), va_up_ne _ _ (by omega)]
  have eR : (t_done a g k s o).2.1 = a.2.1 := rfl
  unfold t_keep
  rw [n1, n8, n12, eR]
  by_cases c1 : w ≤ 0 ∨ ¬ 0 < y
  · rw [if_pos c1, if_pos c1]
  · rw [if_neg c1, if_neg c1]
    have key : ∀ (c : Nat) (v : Int32) (L : Nat → List gSh), c ≠ 7 → c ≠ 10 → c ≠ 5 → (va_up (t_done a g k s o).1 c v, L, (t_done a g k s o).2.2) = t_done (va_up a.1 c v, L, a.2.2) g k s o := by
      intro c v L h7 h10 h5
      unfold t_done
      have e7 : va_up a.1 c v 7 = a.1 7 := va_up_ne _ _ (fun q => h7 q.symm)
      have e10 : va_up a.1 c v 10 = a.1 10 := va_up_ne _ _ (fun q => h10 q.symm)
      have e5 : va_up a.1 c v 5 = a.1 5 := va_up_ne _ _ (fun q => h5 q.symm)
      simp only [e7, e10, e5]
      rw [va_up_cm _ _ _ (fun q => h10 q.symm), va_up_cm _ _ _ (fun q => h7 q.symm)]
    by_cases c2 : a.1 1 ≤ w ∧ a.1 1 ≤ y ∧ ¬ (200 : Int32) ≤ a.1 12 ∧ (a.2.1 r).length < 8
    · rw [if_pos c2, if_pos c2]
      exact congrArg (Prod.mk (1 : Int32)) (key 12 _ _ (by omega) (by omega) (by omega))
    · rw [if_neg c2, if_neg c2]
      exact congrArg (Prod.mk (0 : Int32)) (key 8 _ _ (by omega) (by omega) (by omega))
theorem t_cut_e (a : aSt) (r p k : Nat) (s : gSh) (o : gOd) : t_cut a r p k s o = if (t_out a r p s).1 = 0 then (10, (t_out a r p s).2)
  else ((t_keep (t_out a r p s).2 r (c_bw a.1 o s) (c_bh a.1 o s) s).1 + (t_keep (t_keep (t_out a r p s).2 r (c_bw a.1 o s) (c_bh a.1 o s) s).2 r (c_aw a.1 o s) (c_ah a.1 o s) s).1,
    t_done (t_keep (t_keep (t_out a r p s).2 r (c_bw a.1 o s) (c_bh a.1 o s) s).2 r (c_aw a.1 o s) (c_ah a.1 o s) s).2 a.1 k s o) := by
  unfold t_cut
  rw [td_keep, td_keep]
theorem c_ar_n {w y : Int32} (h : w ≤ 0 ∨ ¬ 0 < y) : c_ar w y = 0 := by
  unfold c_ar
  rw [if_neg]
  rintro ⟨h1, h2⟩
  rcases h with h | h
  · exact (i_nlt _ _).mp h1 h
  · exact h h2
theorem c_ar_y {w y : Int32} (h : ¬ (w ≤ 0 ∨ ¬ 0 < y)) : c_ar w y = w * y := by
  unfold c_ar
  rw [if_pos ⟨(i_nlt _ _).mpr (fun q => h (Or.inl q)), Classical.byContradiction (fun q => h (Or.inr q))⟩]
/-- the reference's treating of one piece -/
theorem m_cut_s {a : aSt} (ha : a_ok a) {M : gMo} (hm : r_m a (M.1 0)) {r : Nat} (hr : r < 4) {X S W w y : Int32} (s : gSh) (hS : s.1 = S) (hW : ¬ (2 : Int32) ≤ W) (hpa : f10_pieceArea M X S W = some (c_ar w y)) (hk : f10_keeps M X S W = some (if a.1 1 ≤ w ∧ a.1 1 ≤ y then 1 else 0)) (h0 : f10_its M S 0 = some s.2.1) (hp0 : f10_piece M X S W 0 = some w) (hp1 : f10_piece M X S W 1 = some y) {m : Nat} (hm2 : a.1 12 = nI m) (hm200 : m ≤ 200) (n : Nat) (pc pane left : Int32) :
    ∃ M2, f10_cuts_49 (n + 1) M X S (nI r) pc pane left W = f10_cuts_49 n M2 X S (nI r) (pc + (t_keep a r w y s).1) pane (left - c_ar w y) (W + 1) ∧ (m_eq M M2 ∧ m_fx m (M.1 0) (M2.1 0)) ∧ r_m (t_keep a r w y s).2 (M2.1 0) := by
  obtain ⟨hn, ⟨m', hm', hk4⟩, hos⟩ := ha
  have em : m = m' := by
    rw [hm'] at hm2
    have := hk4.1
    exact ((nI_eq (by omega) (by omega)).mp hm2).symm
  have hle := hk4.1
  have hlen := hk4.2.1 r hr
  obtain ⟨l, l1', l2', el⟩ := hn.2.1
  have hl1 : (1 : Int32) ≤ a.1 1 := by
    rw [el]
    exact (nI_leI (a := 1) (by omega) (by omega)).mpr l1'
  have v3 : M.1 0 3 = a.1 8 := hm.1.at.2.2.2.2.1
  have v8 : M.1 0 8 = a.1 12 := hm.1.at.2.2.2.1
  have hmany := (m_rk_iff.mp hm.2.1 r hr).1
  have e200 : (200 : Int32) ≤ a.1 12 ↔ 200 ≤ m' := by
    rw [hm', l200, nI_leI (by omega) (by omega)]
  have e8 : (8 : Int32) ≤ nI (a.2.1 r).length ↔ 8 ≤ (a.2.1 r).length := by
    rw [l8, nI_leI (by omega) (by omega)]
  rw [f10_cuts_49, if_neg hW, hpa, q_b1_s, hk]
  simp only [q_let, q_b1_s, n3, n8, v3, v8]
  have scr : ∀ (u : Int32 × aSt), u = (0, va_up a.1 8 (a.1 8 + c_ar w y), a.2) → ∃ M2, f10_cuts_49 n (g_ma M 0 3 (a.1 8 + c_ar w y)) X S (nI r) pc pane (left - c_ar w y) (W + 1) = f10_cuts_49 n M2 X S (nI r) (pc + u.1) pane (left - c_ar w y) (W + 1) ∧ (m_eq M M2 ∧ m_fx m (M.1 0) (M2.1 0)) ∧ r_m u.2 (M2.1 0) := by
    intro u hu
    subst hu
    refine ⟨g_ma M 0 3 (a.1 8 + c_ar w y), by rw [Int32.add_zero], ⟨m_eq.rf.ma _ _, m_fx.rf.up _ (fun j w _ _ _ => by omega)⟩, ?_⟩
    rw [g_ma_z]
    exact hm.nu hk4.2.1 hos.1 ⟨m', hm', hk4.1⟩ (k := 8) (by omega) _
  by_cases c1 : w ≤ 0 ∨ ¬ 0 < y
  · have hk0 : ¬ (a.1 1 ≤ w ∧ a.1 1 ≤ y) := by
      rintro ⟨q1, q2⟩
      have g0 : (0 : Int32) < 1 := by decide
      have z1 := Int32.lt_of_lt_of_le g0 (Int32.le_trans hl1 q1)
      have z2 := Int32.lt_of_lt_of_le g0 (Int32.le_trans hl1 q2)
      rcases c1 with c1 | c1
      · exact (i_nlt _ _).mp z1 c1
      · exact c1 z2
    simp only [if_neg hk0, if_true]
    have et : t_keep a r w y s = (0, a) := by unfold t_keep; rw [if_pos c1]
    refine scr _ ?_
    rw [et, c_ar_n c1, Int32.add_zero]
    congr 1
    refine Prod.ext (funext fun i => ?_) rfl
    by_cases c : i = 8
    · subst c; exact (va_up_at a.1 8 (a.1 8)).symm
    · exact (va_up_ne a.1 (a.1 8) c).symm
  · by_cases hk0 : a.1 1 ≤ w ∧ a.1 1 ≤ y
    · simp only [if_pos hk0, show ¬ (1 : Int32) = 0 by decide, if_false]
      rw [f10_many_e M hr, q_b1_s, hmany]
      by_cases c2 : (8 : Int32) ≤ nI (a.2.1 r).length
      · rw [if_pos c2]
        refine scr _ ?_
        unfold t_keep
        rw [if_neg c1, if_neg (fun q => by have := e8.mp c2; have := q.2.2.2; omega), c_ar_y c1]
      · rw [if_neg c2]
        by_cases c3 : (200 : Int32) ≤ a.1 12
        · rw [if_pos c3]
          refine scr _ ?_
          unfold t_keep
          rw [if_neg c1, if_neg (fun q => q.2.2.1 c3), c_ar_y c1]
        · rw [if_neg c3, h0, q_b1_s, hp0, q_b1_s, hp1, q_b1_s]
          have hlt : (a.2.1 r).length < 8 := Nat.lt_of_not_le (fun q => c2 (e8.mpr q))
          have hmlt : m' < 200 := Nat.lt_of_not_le (fun q => c3 (e200.mpr q))
          obtain ⟨M2, y1, y2, y3⟩ := m_makes hr hm' hmlt hk4 hos.1 hm hlt s.2.1 w y S
          rw [y1, q_bd_s]
          have et : t_keep a r w y s = (1, va_up a.1 12 (nI (m' + 1)), va_up a.2.1 r (a.2.1 r ++ [(nI m', s.2.1, w, y, S)]), a.2.2) := by
            unfold t_keep
            rw [if_neg c1, if_pos ⟨hk0.1, hk0.2, c3, hlt⟩, hm', hS, show nI m' + (1 : Int32) = nI (m' + 1) from nI_add m' 1]
          rw [et]
          subst em
          exact ⟨M2, rfl, y2, y3⟩
    · simp only [if_neg hk0, if_true]
      refine scr _ ?_
      unfold t_keep
      rw [if_neg c1, if_neg (fun q => hk0 ⟨q.1, q.2.1⟩), c_ar_y c1]
theorem m_rd.cg {M M2 : gMo} {k : Nat} {S : Int32} {g : Nat → Int32} {o : gOd} {s : gSh} {a2 : aSt} (hk12 : k < 12) (hos : r_os a2.2.2) (hm : r_m a2 (M2.1 0)) (hko : ∃ o2, a2.2.2[k]? = some o2 ∧ o2.2.1 = o.2.1 ∧ o2.2.2.1 = o.2.2.1 ∧ o2.2.2.2.1 = o.2.2.2.1) (hg : ∀ i, i < 5 → a2.1 i = g i) {j : Nat} (hj : j < 200) (eS : S = nI j) (d0 : M2.1 0 (50 + 5 * j) = s.2.1) (d1 : M2.1 0 (50 + 5 * j + 1) = s.2.2.1) (d2 : M2.1 0 (50 + 5 * j + 2) = s.2.2.2.1) : m_rd M2 (nI k) S g o s := by
  obtain ⟨o2, h1, h2, h3, h4⟩ := hko
  obtain ⟨b0, b1, b2, -⟩ := m_of hos hm.2.2.2.2 h1
  rw [h2] at b0
  rw [h3] at b1
  rw [h4] at b2
  refine ⟨b0, b1, b2, ?_, ?_, ?_, ?_, ?_, ?_, ?_⟩
  · rw [eS, ← nI_0, f10_its_e M2 (by omega)]; exact congrArg some d0
  · rw [eS, l1, f10_its_e M2 (by omega)]; exact congrArg some d1
  · rw [eS, l2, f10_its_e M2 (by omega)]; exact congrArg some d2
  · rw [← hg 0 (by omega)]; exact m_set (k := 0) hm.1 (by omega)
  · rw [← hg 1 (by omega)]; exact m_set (k := 1) hm.1 (by omega)
  · rw [← hg 2 (by omega)]; exact m_set (k := 2) hm.1 (by omega)
  · rw [← hg 4 (by omega)]; exact m_set (k := 4) hm.1 (by omega)
theorem t_keep_nu (a : aSt) (r : Nat) (w y : Int32) (s : gSh) {k : Nat} (h8 : k ≠ 8) (h12 : k ≠ 12) : (t_keep a r w y s).2.1 k = a.1 k := by
  unfold t_keep
  split
  · rfl
  · split
    · exact va_up_ne _ _ h12
    · exact va_up_ne _ _ h8
theorem t_keep_od (a : aSt) (r : Nat) (w y : Int32) (s : gSh) : (t_keep a r w y s).2.2.2 = a.2.2 := by
  unfold t_keep
  split
  · rfl
  · split <;> rfl
theorem t_keep_m2 {a : aSt} {m : Nat} (hm : a.1 12 = nI m) (r : Nat) (w y : Int32) (s : gSh) : ∃ m2, m ≤ m2 ∧ (t_keep a r w y s).2.1 12 = nI m2 := by
  unfold t_keep
  split
  · exact ⟨m, Nat.le_refl _, hm⟩
  · split
    · refine ⟨m + 1, Nat.le_succ _, ?_⟩
      show va_up a.1 12 (a.1 12 + 1) 12 = _
      rw [va_up_at, hm]
      exact nI_add m 1
    · exact ⟨m, Nat.le_refl _, (va_up_ne (k := 8) (j := 12) a.1 (a.1 8 + w * y) (by omega)).trans hm⟩
