/-! BOTH SYSTEMS: acts on orders and sheets -/
theorem o_find (os : List gOd) (x : Int32) : (∃ (k : Nat) (o : gOd), os[k]? = some o ∧ x = nI k) ∨ ∀ k, k < os.length → x ≠ nI k := by
  rcases Classical.em (∃ k, k < os.length ∧ x = nI k) with ⟨k, hk, e⟩ | h
  · exact Or.inl ⟨k, os[k], List.getElem?_eq_getElem hk, e⟩
  · exact Or.inr (fun k hk e => h ⟨k, hk, e⟩)
theorem r_numb_n {os : List gOd} {z : gSt} (h : r_ol os z.2.2) {x : Int32} (hx : ∀ k, k < os.length → x ≠ nI k) : f4_numbered z x = some none := by
  by_cases c : x < 0
  · unfold f4_numbered
    rw [if_pos c]
  · obtain ⟨j, hj, rfl⟩ := nI_of c
    rw [r_numb h hj, List.getElem?_eq_none (by
      by_cases c2 : j < os.length
      · exact absurd rfl (hx j c2)
      · omega)]
theorem r_slot_any {a : aSt} (ha : a_ok a) {z : gSt} (h : r_c a z) (x : Int32) : ∃ v w, f5_slotOf z x = some v ∧ f5_inSlot z v = some w := by
  obtain ⟨hn, ⟨m, hm, hk4⟩, hos⟩ := ha
  rcases k_find a.2.1 x with ⟨r, p, s, hr, hs, rfl⟩ | hx
  · exact ⟨_, _, r_slot h.2.2.1 hk4.2.2.1 hr (hk4.2.1 r hr) hs, r_slot_in h.2.2.1 hr (hk4.2.1 r hr) hs⟩
  · exact ⟨_, _, r_slot_none h.2.2.1 hk4.2.1 hx, r_inslot_m z⟩
section JACT2
variable {a : aSt} {hs : List aSt} {sn : Option aSt} {t : Nat → Int32} {l : Nat} {M : gMo}
theorem m_cancel_e (ha : a_ok a) {M : gMo} (hm : r_m a (M.1 0)) {k : Nat} {o : gOd} (hk : a.2.2[k]? = some o) : r_m (a.1, a.2.1, a.2.2.set k (o_off o)) ((g_ma M 0 (1050 + 7 * k + 4) 2).1 0) := by
  have hkl : k < 12 := by have := (List.getElem?_eq_some_iff.mp hk).1; have := ha.2.2.1; omega
  refine hm.ods ha.2.1 (fun c c1 c2 => ?_) (hm.2.2.2.2.set (o2 := o_off o) ha.2.2.1 hk (fun c c1 c2 c3 c4 => ?_) rfl rfl rfl rfl ?_ (fun z => ?_))
  · rw [g_ma_z, va_up_ne _ _ (by omega)]
  · rw [g_ma_z, va_up_ne _ _ c2]
  · rw [g_ma_z]; exact va_up_at _ _ _
  · exact absurd z (by show ¬ (2 : Int32) = 1; decide)
theorem j_cancel {μ : gMu} (h : j_inv μ) (p1 : Int32) : ∃ r μ1 M1, f9_cancel μ p1 = some (r, μ1) ∧ f10_cancel μ1.2.2.2.2 p1 = some (r, M1) ∧ j_inv (g_setM μ1 M1) := by
  obtain ⟨a, hs, sn, t, l, ho, h1, h2⟩ := h
  have ha := ho.1
  rcases o_find a.2.2 p1 with ⟨k, o, hk, rfl⟩ | hx
  · obtain ⟨μ1, e1, c1, k1⟩ := c_act h1 (fun z => f8_cancelOrder z (nI k)) (w_cancel a k o) (fun z hz => r_cancel ha hz hk)
    have hok := w_cancel_ok ha hk
    have hkl := (List.getElem?_eq_some_iff.mp hk).1
    have hle := ha.2.2.1
    have main : ∃ M1, f10_cancel μ.2.2.2.2 (nI k) = some ((w_cancel a k o).1, M1) ∧ jm (w_cancel a k o).2 (j_hs hs a (w_cancel a k o).1) sn t l M1 := by
      unfold f10_cancel w_cancel
      rw [m_isOrder_y ha.2.2 h2.1.2.2.2.2 hkl, q_b1_s, if_pos (by decide), m_isOpen ha.2.2 h2.1.2.2.2.2 hk, q_b1_s]
      by_cases c : o_op o = true
      · obtain ⟨M2, e2, g2⟩ := h2.rec0 ha
        simp only [if_pos c]
        rw [if_pos (by decide), e2, q_b1_s]
        have hr := m_cancel_e ha g2.1 hk
        have ho2 : r_os (a.2.2.set k (o_off o)) := ha.2.2.set hk (o_off_ok (ha.2.2.2 k o hk).1) rfl
        simp (disch := omega) only [l1050, l7, l4, pk_mul, nI_add, q_in, nI_clamp, q_let]
        rw [if_pos (by omega), m_open ho2 hr.2.2.2.2, q_b1_s]
        refine ⟨_, rfl, ?_⟩
        rw [j_hs_p hs a (nI_pos (by have := ho2.1; have := List.countP_le_length (p := o_op) (l := a.2.2.set k (o_off o)); omega))]
        exact g2.eq (m_eq.rf.ma _ _) hr
      · simp only [if_neg c]
        rw [if_neg (not_not_intro trivial), j_hs_n hs a i_m4]
        exact ⟨_, rfl, h2⟩
    obtain ⟨M1, e2, c2⟩ := main
    exact ⟨_, μ1, M1, e1, by rw [k1]; exact e2, j_done ho hok c1 c2⟩
  · obtain ⟨μ1, e1, c1, k1⟩ := c_act h1 (fun z => f8_cancelOrder z p1) (-1, a) (fun z hz => ⟨z, by
      unfold f8_cancelOrder
      rw [r_numb_n hz.2.2.2 hx, q_b1_s, q_oc_n], hz⟩)
    refine ⟨_, μ1, _, e1, ?_, j_done ho ha c1 (by rw [j_hs_n hs a i_m1]; exact h2)⟩
    rw [k1]
    unfold f10_cancel
    rw [m_isOrder_n ha.2.2 h2.1.2.2.2.2 hx, q_b1_s, if_neg (not_not_intro rfl)]
theorem t_cut_nn (a : aSt) (r p k : Nat) (s : gSh) (o : gOd) : ¬ (t_cut a r p k s o).1 < 0 := by
  have k01 : ∀ (b : aSt) (w y : Int32), (t_keep b r w y s).1 = 0 ∨ (t_keep b r w y s).1 = 1 := by
    intro b w y
    unfold t_keep
    split
    · exact Or.inl rfl
    · split
      · exact Or.inr rfl
      · exact Or.inl rfl
  unfold t_cut
  split
  · show ¬ (10 : Int32) < 0
    decide
  · show ¬ (t_keep _ r _ _ s).1 + (t_keep _ r _ _ s).1 < 0
    rcases k01 (t_done (t_out a r p s).2 a.1 k s o) (c_bw a.1 o s) (c_bh a.1 o s) with q | q <;> rcases k01 (t_keep (t_done (t_out a r p s).2 a.1 k s o) r (c_bw a.1 o s) (c_bh a.1 o s) s).2 (c_aw a.1 o s) (c_ah a.1 o s) with q2 | q2 <;> rw [q, q2] <;> decide
theorem c_lie_ge (g : Nat → Int32) (o : gOd) (s : gSh) : 0 ≤ c_lie g o s ↔ ¬ c_lie g o s = -1 := by
  rw [← c_lie_c, Int32.not_lt]
theorem j_cut {μ : gMu} (h : j_inv μ) (p1 p2 : Int32) : ∃ r μ1 M1, f9_cut μ p1 p2 = some (r, μ1) ∧ f10_cut μ1.2.2.2.2 p1 p2 = some (r, M1) ∧ j_inv (g_setM μ1 M1) := by
  obtain ⟨a, hs, sn, t, l, ho, h1, h2⟩ := h
  have ha := ho.1
  have bad : (∀ z, r_c a z → ∃ z2, f8_cutOrder z p1 p2 = some (-1, z2) ∧ r_c a z2) → f10_cut μ.2.2.2.2 p1 p2 = some (-1, μ.2.2.2.2) → ∃ r μ1 M1, f9_cut μ p1 p2 = some (r, μ1) ∧ f10_cut μ1.2.2.2.2 p1 p2 = some (r, M1) ∧ j_inv (g_setM μ1 M1) := by
    intro hc hm
    obtain ⟨μ1, e1, c1, k1⟩ := c_act h1 (fun z => f8_cutOrder z p1 p2) (-1, a) hc
    exact ⟨_, μ1, _, e1, by rw [k1]; exact hm, j_done ho ha c1 (by rw [j_hs_n hs a i_m1]; exact h2)⟩
  rcases o_find a.2.2 p1 with ⟨k, o, hk, rfl⟩ | hx
  · have hkl := (List.getElem?_eq_some_iff.mp hk).1
    have hle := ha.2.2.1
    rcases k_find a.2.1 p2 with ⟨r, p, s, hr, hsx, rfl⟩ | hy
    · obtain ⟨μ1, e1, c1, k1⟩ := c_act h1 (fun z => f8_cutOrder z (nI k) s.1) (w_cut a r p k s o) (fun z hz => r_cutOrder ha hz hr hsx hk)
      have hok := w_cut_ok ha hr hsx hk
      have main : ∃ M1, f10_cut μ.2.2.2.2 (nI k) s.1 = some ((w_cut a r p k s o).1, M1) ∧ jm (w_cut a r p k s o).2 (j_hs hs a (w_cut a r p k s o).1) sn t l M1 := by
        unfold f10_cut w_cut
        rw [m_isOrder_y ha.2.2 h2.1.2.2.2.2 hkl, q_b1_s, if_neg (by decide), m_isSheet_y ha h2.1 hr hsx, q_b1_s, if_pos (by decide), m_isOpen ha.2.2 h2.1.2.2.2.2 hk, q_b1_s]
        by_cases c : o_op o = true
        · simp only [if_pos c]
          rw [if_neg (by decide), m_lies (m_rd_of ha h2.1 hr hsx hk), q_b1_s]
          by_cases c3 : c_lie a.1 o s = -1
          · rw [if_neg (fun q => (c_lie_ge _ _ _).mp q c3), if_pos c3, j_hs_n hs a i_m4]
            exact ⟨_, rfl, h2⟩
          · rw [if_pos ((c_lie_ge _ _ _).mpr c3), if_neg c3]
            obtain ⟨M2, e2, g2⟩ := h2.rec0 ha
            rw [e2, q_b1_s]
            obtain ⟨M3, e3, k3, r3⟩ := m_cuts ha g2.1 hr hsx hk
            rw [e3, q_bd_s, j_hs_p hs a (t_cut_nn a r p k s o)]
            exact ⟨M3, rfl, g2.eq k3 r3⟩
        · simp only [if_neg c]
          rw [if_pos trivial, j_hs_n hs a i_m4]
          exact ⟨_, rfl, h2⟩
      obtain ⟨M1, e2, c2⟩ := main
      exact ⟨_, μ1, M1, e1, by rw [k1]; exact e2, j_done ho hok c1 c2⟩
    · refine bad (fun z hz => ⟨z, r_cutOrder_n ha hz hy k (by omega), hz⟩) ?_
      unfold f10_cut
      rw [m_isOrder_y ha.2.2 h2.1.2.2.2.2 hkl, q_b1_s, if_neg (by decide), m_isSheet_n ha h2.1 hy, q_b1_s, if_neg (not_not_intro rfl)]
  · refine bad (fun z hz => ⟨z, ?_, hz⟩) ?_
    · obtain ⟨v, w, s1, s2⟩ := r_slot_any ha hz p2
      unfold f8_cutOrder
      rw [r_numb_n hz.2.2.2 hx, q_b1_s, q_oc_n, s1, q_b1_s, s2, q_b1_s]
      cases w <;> rfl
    · unfold f10_cut
      rw [m_isOrder_n ha.2.2 h2.1.2.2.2.2 hx, q_b1_s, if_pos rfl]
theorem w_steps_nn (c : Int32) : ∀ (f : Nat) (a : aSt) (v : Option gOd) (x : Nat), ∃ y, y ≤ x + f ∧ (w_steps c f a v (nI x)).1 = nI y := by
  intro f
  induction f with
  | zero => intro a v x; exact ⟨x, Nat.le_refl _, rfl⟩
  | succ f ih =>
    intro a v x
    cases v with
    | none => exact ⟨x, by omega, rfl⟩
    | some o =>
      rw [w_steps]
      cases ch_at a o c with
      | none =>
        obtain ⟨y, h1, h2⟩ := ih a (o_best (o_nx (some o)) none a.2.2) x
        exact ⟨y, by omega, h2⟩
      | some q =>
        show ∃ y, y ≤ x + (f + 1) ∧ (w_steps c f _ _ (if (t_cut a q.1 q.2.1 o.1.toNatClampNeg q.2.2 o).1 = 10 then nI x else nI x + 1)).1 = nI y
        split
        · obtain ⟨y, h1, h2⟩ := ih (t_cut a q.1 q.2.1 o.1.toNatClampNeg q.2.2 o).2 (o_best (o_nx (some o)) none (t_cut a q.1 q.2.1 o.1.toNatClampNeg q.2.2 o).2.2.2) x
          exact ⟨y, by omega, h2⟩
        · obtain ⟨y, h1, h2⟩ := ih (t_cut a q.1 q.2.1 o.1.toNatClampNeg q.2.2 o).2 (o_best (o_nx (some o)) none (t_cut a q.1 q.2.1 o.1.toNatClampNeg q.2.2 o).2.2.2) (x + 1)
          rw [show nI x + 1 = nI (x + 1) from nI_add x 1]
          exact ⟨y, by omega, h2⟩
theorem w_does_nn (a : aSt) (c : Int32) : ¬ (w_does a c).1 < 0 := by
  obtain ⟨y, h1, h2⟩ := w_steps_nn c 12 a (o_best (o_nx none) none a.2.2) 0
  unfold w_does
  rw [← nI_0, h2]
  exact nI_pos (by omega)
theorem o_none {os : List gOd} : o_best (o_nx none) none os = none ↔ os.countP o_op = 0 := by
  constructor
  · intro h
    obtain ⟨-, h2⟩ := o_best_no _ _ _ h
    rw [List.countP_eq_zero]
    intro o ho q
    exact h2 o ho (by unfold o_nx; simp [q])
  · intro h
    cases hb : o_best (o_nx none) none os with
    | none => rfl
    | some o =>
      obtain ⟨h3, -, -⟩ := o_best_le _ _ _ _ hb
      rcases h3 with q | ⟨q1, q2⟩
      · cases q
      · unfold o_nx at q2
        simp only [Bool.and_true] at q2
        rw [List.countP_eq_zero] at h
        exact absurd q2 (h o q1)
theorem w_does_ok {a : aSt} (ha : a_ok a) {z : gSt} (hz : r_c a z) {c : Int32} (hc : 0 ≤ c ∧ c ≤ 2) : a_ok (w_does a c).2 := by
  cases h : o_best (o_nx none) none a.2.2 with
  | none => rw [w_does_n c h]; exact ha
  | some o =>
    obtain ⟨-, -, -, h3⟩ := r_plan ha hz c
    rw [w_plan_e, if_pos hc, if_neg (by rw [h]; exact fun q => by cases q)] at h3
    exact h3
theorem j_plan {μ : gMu} (h : j_inv μ) (p1 : Int32) : ∃ r μ1 M1, f9_plan μ p1 = some (r, μ1) ∧ f10_plan μ1.2.2.2.2 p1 = some (r, M1) ∧ j_inv (g_setM μ1 M1) := by
  obtain ⟨a, hs, sn, t, l, ho, h1, h2⟩ := h
  have ha := ho.1
  obtain ⟨μ1, e1, c1, k1⟩ := c_act h1 (fun z => f8_planDay z p1) (w_plan a p1) (fun z hz => by
    obtain ⟨z2, q1, q2, -⟩ := r_plan ha hz p1
    exact ⟨z2, q1, q2⟩)
  obtain ⟨-, -, -, hok⟩ := r_plan ha h1.1 p1
  have main : ∃ M1, f10_plan μ.2.2.2.2 p1 = some ((w_plan a p1).1, M1) ∧ jm (w_plan a p1).2 (j_hs hs a (w_plan a p1).1) sn t l M1 := by
    unfold f10_plan
    rw [w_plan_e, f10_in_e, q_b1_s]
    simp only [q_b0, ite_not]
    by_cases d1 : 0 ≤ p1 ∧ p1 ≤ 2
    · have hle := List.countP_le_length (p := o_op) (l := a.2.2)
      have hl12 := ha.2.2.1
      rw [if_pos d1, if_pos d1, m_open ha.2.2 h2.1.2.2.2.2, q_b1_s]
      by_cases d2 : o_best (o_nx none) none a.2.2 = none
      · rw [if_pos (by rw [o_none.mp d2]; exact nI_0), if_pos d2, j_hs_n hs a i_m5]
        exact ⟨_, rfl, h2⟩
      · rw [if_neg (fun q => d2 (o_none.mpr (by rw [← nI_0] at q; exact (nI_eq (by omega) (by omega)).mp q))), if_neg d2]
        obtain ⟨M2, e2, g2⟩ := h2.rec0 ha
        rw [e2, q_b1_s]
        obtain ⟨M3, e3, k3, r3⟩ := m_plans ha g2.1 p1
        rw [e3, q_bd_s, j_hs_p hs a (w_does_nn a p1)]
        exact ⟨M3, rfl, g2.eq k3 r3⟩
    · rw [if_neg d1, if_neg d1, j_hs_n hs a i_m2]
      exact ⟨_, rfl, h2⟩
  obtain ⟨M1, e2, c2⟩ := main
  exact ⟨_, μ1, M1, e1, by rw [k1]; exact e2, j_done ho hok c1 c2⟩
theorem m_set40 (h : jm a hs sn t l M) (ha : a_ok a) {j : Nat} (hj : j < 5) (v lo hi : Int32) (hal : s_al (nI j) v ↔ lo ≤ v ∧ v ≤ hi) : ∃ M1, f10_set_40 M (nI j) v lo hi = some ((w_set a (nI j) v).1, M1) ∧ jm (w_set a (nI j) v).2 (j_hs hs a (w_set a (nI j) v).1) sn t l M1 := by
  have h5 : ¬ a.1 j < 0 := by
    obtain ⟨⟨c, hc, e0⟩, ⟨l', -, hl, e1⟩, e2, ⟨f, hf, e3⟩, e4, -⟩ := ha.1
    have : j = 0 ∨ j = 1 ∨ j = 2 ∨ j = 3 ∨ j = 4 := by omega
    rcases this with rfl | rfl | rfl | rfl | rfl
    · rw [e0]; exact nI_pos (by omega)
    · rw [e1]; exact nI_pos (by omega)
    · rcases e2 with e | e <;> rw [e] <;> decide
    · rw [e3]; exact nI_pos (by omega)
    · rcases e4 with e | e <;> rw [e] <;> decide
  obtain ⟨m, hm2, hk4⟩ := ha.2.1
  unfold f10_set_40 w_set
  rw [f10_in_e, q_b1_s, if_pos (show (0 : Int32) ≤ nI j ∧ nI j ≤ 4 from ⟨nI_pos' (by omega), (nI_leI (b := 4) (by omega) (by omega)).mpr (by omega)⟩), if_neg (by decide), f10_in_e, q_b1_s]
  by_cases c : lo ≤ v ∧ v ≤ hi
  · rw [if_pos c, if_pos (by decide), if_pos (hal.mpr c), m_set h.1.1 hj, q_b1_s, nI_clamp (by omega)]
    by_cases c2 : a.1 j = v
    · rw [if_neg (not_not_intro c2), if_pos c2, j_hs_n hs a i_m5]
      exact ⟨_, rfl, h⟩
    · rw [if_pos c2, if_neg c2]
      obtain ⟨M2, e2, g2⟩ := h.rec0 ha
      rw [e2, q_b1_s, show (9 : Int32) + nI j = nI (9 + j) from nI_add 9 j, if_pos (by rw [q_in (by omega)]; omega), nI_clamp (by omega), q_let, j_hs_p hs a h5]
      refine ⟨_, rfl, g2.eq (m_eq.rf.ma _ _) ?_⟩
      have := g2.1.nu hk4.2.1 ha.2.2.1 ⟨m, hm2, hk4.1⟩ (k := j) (by omega) v
      have en : nc j = 9 + j := by unfold nc; rw [if_pos hj]
      rw [en] at this
      exact this
  · rw [if_neg c, if_neg (not_not_intro rfl), if_neg (fun q => c (hal.mp q)), j_hs_n hs a i_m2]
    exact ⟨_, rfl, h⟩
theorem j_set {μ : gMu} (h : j_inv μ) (p1 p2 : Int32) : ∃ r μ1 M1, f9_set μ p1 p2 = some (r, μ1) ∧ f10_set μ1.2.2.2.2 p1 p2 = some (r, M1) ∧ j_inv (g_setM μ1 M1) := by
  obtain ⟨a, hs, sn, t, l, ho, h1, h2⟩ := h
  have ha := ho.1
  obtain ⟨μ1, e1, c1, k1⟩ := c_act h1 (fun z => f6_change z p1 p2) (w_set a p1 p2) (fun z hz => r_set hz p1 p2)
  have hok := w_set_ok ha p1 p2
  have main : ∃ M1, f10_set μ.2.2.2.2 p1 p2 = some ((w_set a p1 p2).1, M1) ∧ jm (w_set a p1 p2).2 (j_hs hs a (w_set a p1 p2).1) sn t l M1 := by
    unfold f10_set f10_set_10
    have n01 : ¬ (0 : Int32) = 1 := by decide
    have n10 : ¬ (1 : Int32) = 0 := by decide
    by_cases x0 : p1 = 0
    · subst x0
      rw [if_pos (by decide), if_neg (by decide)]
      exact m_set40 (j := 0) h2 ha (by omega) p2 0 5 (by unfold s_al; simp [show nI 0 = 0 from nI_0])
    · by_cases x1 : p1 = 1
      · subst x1
        rw [if_neg (by decide), if_pos (by decide), if_neg (by decide)]
        exact m_set40 (j := 1) h2 ha (by omega) p2 1 99 (by unfold s_al; rw [← l1]; simp)
      · rw [if_pos x1, if_pos x0, if_pos x1]
        have b01 : (0 ≤ p2 ∧ p2 ≤ 1) ↔ (p2 = 0 ∨ p2 = 1) := by
          constructor
          · intro q
            obtain ⟨j, hj, rfl⟩ := i_nat (n := 1) (by omega) q.1 q.2
            have : j = 0 ∨ j = 1 := by omega
            rcases this with rfl | rfl
            · exact Or.inl rfl
            · exact Or.inr rfl
          · rintro (rfl | rfl) <;> decide
        by_cases x3 : p1 = 3
        · subst x3
          rw [if_neg (by decide)]
          exact m_set40 (j := 3) h2 ha (by omega) p2 0 50 (by unfold s_al; rw [← l3]; simp)
        · rw [if_pos x3]
          by_cases x2 : p1 = 2
          · subst x2
            exact m_set40 (j := 2) h2 ha (by omega) p2 0 1 (by unfold s_al; rw [← l2, b01]; simp)
          · by_cases x4 : p1 = 4
            · subst x4
              exact m_set40 (j := 4) h2 ha (by omega) p2 0 1 (by unfold s_al; rw [← l4, b01]; simp)
            · have nal : ¬ s_al p1 p2 := by
                unfold s_al
                rintro (q | q | q | q | q)
                · exact x0 q.1
                · exact x1 q.1
                · exact x2 q.1
                · exact x3 q.1
                · exact x4 q.1
              have nin : ¬ (0 ≤ p1 ∧ p1 ≤ 4) := fun q => by
                obtain ⟨j, hj, rfl⟩ := i_nat (n := 4) (by omega) q.1 q.2
                have : j = 0 ∨ j = 1 ∨ j = 2 ∨ j = 3 ∨ j = 4 := by omega
                rcases this with rfl | rfl | rfl | rfl | rfl
                · exact x0 rfl
                · exact x1 rfl
                · exact x2 rfl
                · exact x3 rfl
                · exact x4 rfl
              have ew : w_set a p1 p2 = (-2, a) := by unfold w_set; rw [if_neg nal]
              unfold f10_set_40
              rw [f10_in_e, q_b1_s, if_neg nin, if_pos rfl, ew, j_hs_n hs a i_m2]
              exact ⟨_, rfl, h2⟩
  obtain ⟨M1, e2, c2⟩ := main
  exact ⟨_, μ1, M1, e1, by rw [k1]; exact e2, j_done ho hok c1 c2⟩
end JACT2
