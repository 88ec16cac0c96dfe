/-! BOTH SYSTEMS: sheets moved and scrapped, texts, history, snapshot -/
theorem t_lift_n (fr : Int32) : ∀ (Fs : List gSh) (l b : Int32) (K : List gSh), (t_lift fr Fs l b K).1 = l + nI Fs.length := by
  intro Fs
  induction Fs with
  | nil => intro l b K; show l = l + nI 0; rw [nI_0, Int32.add_zero]
  | cons y ys ih =>
    intro l b K
    have e : l + 1 + nI ys.length = l + nI (ys.length + 1) := by
      rw [Int32.add_assoc, l1, nI_add, Nat.add_comm]
    rw [t_lift, List.length_cons]
    split
    · rw [ih, e]
    · rw [ih, e]
theorem t_out_n (a : aSt) {r p : Nat} (x : gSh) : (t_out a r p x).2.1 11 - a.1 11 = nI ((a.2.1 r).length - (p + 1)) + 1 := by
  have e : (t_out a r p x).2.1 11 = a.1 11 + nI ((a.2.1 r).length - (p + 1)) + 1 := by
    unfold t_out t_end
    dsimp only
    rw [va_up_ne _ _ (by omega), va_up_at, t_lift_n, List.length_reverse, List.length_drop]
  rw [e, Int32.add_assoc, Int32.add_comm, Int32.add_sub_cancel]
theorem m_leans2 {b : aSt} (hb : a_ok b) {M : gMo} (hm : r_m b (M.1 0)) {j x : Nat} {s : gSh} (hx : x < 4) (es : s.1 = nI j) {m : Nat} (hm2 : b.1 12 = nI m) (hjm : j < m) (hm200 : m ≤ 200) (d : M.1 0 (50 + 5 * j) = s.2.1 ∧ M.1 0 (50 + 5 * j + 1) = s.2.2.1 ∧ M.1 0 (50 + 5 * j + 2) = s.2.2.2.1 ∧ M.1 0 (50 + 5 * j + 4) = s.2.2.2.2) (hl : (b.2.1 x).length < 8) (hno : ∀ r2, r2 < 4 → ∀ u ∈ b.2.1 r2, u.1 ≠ s.1) : ∃ M2, f10_leans M (nI x) (nI j) = some M2 ∧ m_eq M M2 ∧ r_m (b.1, va_up b.2.1 x (b.2.1 x ++ [s]), b.2.2) (M2.1 0) := by
  obtain ⟨hn, ⟨m', hm', hk4⟩, hos⟩ := hb
  have em : m' = m := by
    have := hk4.1
    rw [hm'] at hm2
    exact (nI_eq (by omega) (by omega)).mp hm2
  subst em
  obtain ⟨h1, h2, h3, ⟨m3, e3, h4⟩, h5⟩ := hm
  have em3 : m' ≤ m3 := by
    rw [hm2] at e3
    by_cases hb : m3 < 2 ^ 31
    · have := (nI_eq (by omega) hb).mp e3
      omega
    · omega
  obtain ⟨M2, y1, ⟨y2, -⟩, y3⟩ := m_leans (x := s) hx hjm hm200 es h1 (fun r2 hr2 => m_rk_iff.mp h2 r2 hr2) hm2 h3 (fun k hk hkj hnk => h4 k (by omega) hnk) h5 hos.1 d.1 d.2.1 d.2.2.1 d.2.2.2 hk4.2.1 hl (fun r2 p u hr2 hu => by rw [← es]; exact hno r2 hr2 u (List.mem_of_getElem? hu))
  exact ⟨M2, y1, y2, y3⟩
theorem m_data4 {a : aSt} {f f2 : Nat → Int32} (h : r_m a f) (hf : m_fx 200 f f2) {r p : Nat} {s : gSh} (hr : r < 4) (hs : (a.2.1 r)[p]? = some s) {j : Nat} (hj : j < 200) (ej : s.1 = nI j) : f2 (50 + 5 * j) = s.2.1 ∧ f2 (50 + 5 * j + 1) = s.2.2.1 ∧ f2 (50 + 5 * j + 2) = s.2.2.2.1 ∧ f2 (50 + 5 * j + 4) = s.2.2.2.2 := by
  obtain ⟨d0, d1, d2, d3, d4⟩ := h.2.2.1 r p s hr hs j ej hj
  have h0 := hf j 0 hj (by omega) (by omega)
  rw [Nat.add_zero] at h0
  rw [h0, hf j 1 hj (by omega) (by omega), hf j 2 hj (by omega) (by omega), hf j 4 hj (by omega) (by omega)]
  exact ⟨d0, d1, d2, d4⟩
theorem j_scrap {μ : gMu} (h : j_inv μ) (p1 : Int32) : ∃ r μ1 M1, f9_scrap μ p1 = some (r, μ1) ∧ f10_scrap μ1.2.2.2.2 p1 = some (r, M1) ∧ j_inv (g_setM μ1 M1) := by
  obtain ⟨a, hs, sn, t, l, ho, h1, h2⟩ := h
  have ha := ho.1
  rcases k_find a.2.1 p1 with ⟨r, p, s, hr, hsx, rfl⟩ | hy
  · obtain ⟨μ1, e1, c1, k1⟩ := c_act h1 (fun z => f8_scrapSheet z s.1) (s.2.2.1 * s.2.2.2.1, w_scrap a r p s) (fun z hz => r_scrap ha hz hr hsx)
    have hok := w_scrap_ok ha hr hsx
    obtain ⟨m, hm2, hk4⟩ := ha.2.1
    obtain ⟨⟨-, ⟨w, w1, w2, ew⟩, ⟨y, y1, y2, ey⟩⟩, j, hj, ej⟩ := hk4.2.2.2 r p s hr hsx
    have hj2 : j < 200 := by have := hk4.1; omega
    have hpos : ¬ s.2.2.1 * s.2.2.2.1 < 0 := by
      rw [ew, ey, pk_mul]
      exact nI_pos (by have : w * y ≤ 99 * 99 := Nat.mul_le_mul w2 y2; omega)
    have main : ∃ M1, f10_scrap μ.2.2.2.2 s.1 = some (s.2.2.1 * s.2.2.2.1, M1) ∧ jm (w_scrap a r p s) (h_push hs a) sn t l M1 := by
      unfold f10_scrap f10_scrap_40 w_scrap
      rw [m_isSheet_y ha h2.1 hr hsx, q_b1_s, if_pos (by decide)]
      obtain ⟨M2, e2, g2⟩ := h2.rec0 ha
      rw [e2, q_b1_s]
      obtain ⟨M3, e3, ⟨k3, x3⟩, r3⟩ := m_takes ha g2.1 hr hsx
      have d := m_data4 g2.1 x3 hr hsx hj2 ej
      have g3 := g2.eq k3 r3
      have ear : ∀ v : Int32, f10_area (g_ma M3 0 3 v) s.1 = some (s.2.2.1 * s.2.2.2.1) := fun v => by
        rw [ej, f10_area_e _ hj2, g_ma_z, va_up_ne _ _ (by omega), va_up_ne _ _ (by omega), d.2.1, d.2.2.1]
      have ear0 : f10_area M3 s.1 = some (s.2.2.1 * s.2.2.2.1) := by
        rw [ej, f10_area_e _ hj2, d.2.1, d.2.2.1]
      rw [e3, q_bd_s]
      by_cases c : (t_out a r p s).1 = 0
      · rw [if_pos c, if_pos c, ear0, q_b1_s]
        exact ⟨M3, rfl, g3⟩
      · rw [if_neg c, if_neg c, ear0, q_b1_s, q_let, n3]
        rw [ear, q_b1_s]
        refine ⟨_, rfl, g3.eq (m_eq.rf.ma _ _) ?_⟩
        obtain ⟨gn, ⟨m3, gm, gk⟩, gos⟩ := t_out_ok ha hr hsx
        have := r3.nu gk.2.1 gos.1 ⟨m3, gm, gk.1⟩ (k := 8) (by omega) ((t_out a r p s).2.1 8 + s.2.2.1 * s.2.2.2.1)
        rw [r3.1.at.2.2.2.2.1]
        exact this
    obtain ⟨M1, e2, c2⟩ := main
    rw [j_hs_p hs a hpos] at c1
    exact ⟨_, μ1, M1, e1, by rw [k1]; exact e2, j_done ho hok c1 c2⟩
  · obtain ⟨μ1, e1, c1, k1⟩ := c_act h1 (fun z => f8_scrapSheet z p1) (-1, a) (fun z hz => ⟨z, r_scrap_n ha hz hy, hz⟩)
    refine ⟨_, μ1, _, e1, ?_, j_done ho ha c1 (by rw [j_hs_n hs a i_m1]; exact h2)⟩
    rw [k1]
    unfold f10_scrap
    rw [m_isSheet_n ha h2.1 hy, q_b1_s, if_neg (not_not_intro rfl)]
theorem j_move {μ : gMu} (h : j_inv μ) (p1 p2 : Int32) : ∃ r μ1 M1, f9_move μ p1 p2 = some (r, μ1) ∧ f10_move μ1.2.2.2.2 p1 p2 = some (r, M1) ∧ j_inv (g_setM μ1 M1) := by
  obtain ⟨a, hs, sn, t, l, ho, h1, h2⟩ := h
  have ha := ho.1
  rcases k_find a.2.1 p1 with ⟨r, p, s, hr, hsx, rfl⟩ | hy
  · obtain ⟨μ1, e1, c1, k1⟩ := c_act h1 (fun z => f8_moveSheet z s.1 p2) (w_move a r p s p2) (fun z hz => r_move ha hz hr hsx p2)
    have hok := w_move_ok ha hr hsx p2
    have hp : p < (a.2.1 r).length := (List.getElem?_eq_some_iff.mp hsx).1
    have main : ∃ M1, f10_move μ.2.2.2.2 s.1 p2 = some ((w_move a r p s p2).1, M1) ∧ jm (w_move a r p s p2).2 (j_hs hs a (w_move a r p s p2).1) sn t l M1 := by
      unfold f10_move w_move
      rw [m_isSheet_y ha h2.1 hr hsx, q_b1_s, if_neg (by decide), f10_in_e, q_b1_s]
      by_cases c1 : 0 ≤ p2 ∧ p2 ≤ 3
      · simp only [if_pos c1]
        obtain ⟨x, hx, rfl⟩ := i_nat (n := 3) (by omega) c1.1 c1.2
        rw [if_pos (by decide), (m_its ha h2.1 hr hsx).2.2.2.1, q_b1_s, nI_clamp (by omega)]
        obtain ⟨m, hm2, hk4⟩ := ha.2.1
        have hlx := hk4.2.1 x (by omega)
        have hlr := hk4.2.1 r hr
        obtain ⟨hsk, j, hj, ej⟩ := hk4.2.2.2 r p s hr hsx
        have hj2 : j < 200 := by have := hk4.1; omega
        have go : (r = x ∨ (a.2.1 x).length < 8) → ∃ M1, f10_move_42 μ.2.2.2.2 s.1 (nI x) = some (nI ((a.2.1 r).length - 1 - p) + 1, M1) ∧ jm (if (t_out a r p s).1 = 0 then (t_out a r p s).2 else ((t_out a r p s).2.1, va_up (t_out a r p s).2.2.1 x ((t_out a r p s).2.2.1 x ++ [s]), (t_out a r p s).2.2.2)) (h_push hs a) sn t l M1 := by
          intro hc
          unfold f10_move_42
          obtain ⟨M2, e2, g2⟩ := h2.rec0 ha
          rw [e2, q_b1_s, q_let, n6, g2.1.1.at.2.1]
          obtain ⟨M3, e3, ⟨k3, x3⟩, r3⟩ := m_takes ha g2.1 hr hsx
          have d := m_data4 g2.1 x3 hr hsx hj2 ej
          have g3 := g2.eq k3 r3
          have hto := t_out_ok ha hr hsx
          have en := t_out_n a (r := r) (p := p) s
          rw [show (a.2.1 r).length - (p + 1) = (a.2.1 r).length - 1 - p by omega] at en
          rw [e3, q_bd_s]
          by_cases c : (t_out a r p s).1 = 0
          · rw [if_pos c, if_pos c, r3.1.at.2.1, en]
            exact ⟨M3, rfl, g3⟩
          · rw [if_neg c, if_neg c]
            have hlen : ((t_out a r p s).2.2.1 x).length < 8 := by
              by_cases cj : x = r
              · subst cj
                have hsub := (t_out_sub a (r := x) s hp).length_le
                rw [List.length_eraseIdx, if_pos hp] at hsub
                omega
              · rw [t_out_ne a p s cj]
                exact hc.resolve_left (fun q => cj q.symm)
            obtain ⟨M4, e4, k4, r4⟩ := m_leans2 hto r3 (show x < 4 by omega) ej (m := m) ((t_out_nu a r p s (by omega) (by omega)).trans hm2) hj hk4.1 d hlen (t_out_gone ha hr hsx)
            rw [ej, e4, q_b1_s, r4.1.at.2.1, en]
            exact ⟨M4, rfl, g3.eq k4 r4⟩
        have hn : ¬ nI ((a.2.1 r).length - 1 - p) + 1 < 0 := by
          rw [l1, nI_add]
          exact nI_pos (by omega)
        by_cases c2 : nI r = nI x
        · have c3 : r = x := (nI_eq (by omega) (by omega)).mp c2
          have c4 : nI r = nI x ∨ (a.2.1 x).length < 8 := Or.inl c2
          simp only [if_pos c4]
          rw [if_pos c2, j_hs_p hs a hn]
          exact go (Or.inl c3)
        · rw [if_neg c2, f10_many_e _ (show x < 4 by omega), q_b1_s, (m_rk_iff.mp h2.1.2.1 x (by omega)).1]
          by_cases c5 : (a.2.1 x).length < 8
          · have c4 : nI r = nI x ∨ (a.2.1 x).length < 8 := Or.inr c5
            simp only [if_pos c4]
            rw [if_pos (show ¬ nI (a.2.1 x).length = (8 : Int32) from fun q => by rw [l8, nI_eq (by omega) (by omega)] at q; omega), j_hs_p hs a hn]
            exact go (Or.inr c5)
          · have c4 : ¬ (nI r = nI x ∨ (a.2.1 x).length < 8) := fun q => q.elim c2 c5
            simp only [if_neg c4]
            rw [if_neg (show ¬ ¬ nI (a.2.1 x).length = (8 : Int32) from fun q => q (by rw [l8, nI_eq (by omega) (by omega)]; omega)), j_hs_n hs a i_m3]
            exact ⟨_, rfl, h2⟩
      · simp only [if_neg c1]
        rw [if_neg (not_not_intro trivial), j_hs_n hs a i_m1]
        exact ⟨_, rfl, h2⟩
    obtain ⟨M1, e2, c2⟩ := main
    exact ⟨_, μ1, M1, e1, by rw [k1]; exact e2, j_done ho hok c1 c2⟩
  · obtain ⟨μ1, e1, c1, k1⟩ := c_act h1 (fun z => f8_moveSheet z p1 p2) (-1, a) (fun z hz => ⟨z, r_move_n ha hz hy p2, hz⟩)
    refine ⟨_, μ1, _, e1, ?_, j_done ho ha c1 (by rw [j_hs_n hs a i_m1]; exact h2)⟩
    rw [k1]
    unfold f10_move
    rw [m_isSheet_n ha h2.1 hy, q_b1_s, if_pos rfl]
/-! texts -/
theorem j_type {μ : gMu} (h : j_inv μ) (x : Int32) : ∃ r μ1 M1, f9_type μ (x.toUInt32 % 65536).toInt32 = some (r, μ1) ∧ f10_type μ1.2.2.2.2 (x.toUInt32 % 65536).toInt32 = some (r, M1) ∧ j_inv (g_setM μ1 M1) := by
  obtain ⟨a, hs, sn, t, l, ⟨ha, hsn, hl⟩, ⟨h1, h2, h3, h4, h5⟩, ⟨g1, g2, g3, g4, g5⟩⟩ := h
  unfold f9_type f0_append f10_type
  rw [h5, pk_vc]
  by_cases c : l < 60
  · rw [if_neg (nI_pos (by omega)), if_pos (by rw [l60, nI_ltI (by omega) (by omega)]; exact c), if_pos (by rw [q_in (by omega)]; exact c), nI_clamp (by omega), q_let, q_let]
    have e1 : (g_tc μ.2.2.1 l (x.toUInt32 % 65536).toInt32).2 1 = nI l := h5
    rw [e1, q_bd_s, q_let, show nI l + (1 : Int32) = nI (l + 1) from nI_add l 1]
    refine ⟨_, _, g_mi (g_ma μ.2.2.2.2 4 l (x.toUInt32 % 65536).toInt32) 6 (nI (l + 1)), rfl, ?_, ?_⟩
    · show (if ¬ μ.2.2.2.2.2 6 = (60 : Int32) then _ else _) = _
      rw [g5, if_pos (by rw [l60, nI_eq (by omega) (by omega)]; omega)]
      show (if g_in (μ.2.2.2.2.2 6) 60 then _ else _) = _
      rw [g5, if_pos (by rw [q_in (by omega)]; exact c), q_let, q_let]
      show some (va_up μ.2.2.2.2.2 6 (μ.2.2.2.2.2 6 + 1) 6, g_mi (g_ma μ.2.2.2.2 4 (μ.2.2.2.2.2 6).toNatClampNeg _) 6 (μ.2.2.2.2.2 6 + 1)) = some (va_up μ.2.2.1.2 1 (nI (l + 1)) 1, _)
      rw [g5, va_up_at, va_up_at, nI_clamp (by omega), show nI l + (1 : Int32) = nI (l + 1) from nI_add l 1]
    · refine ⟨a, hs, sn, va_up t l (x.toUInt32 % 65536).toInt32, l + 1, ⟨ha, hsn, c⟩, ⟨h1, h2, h3, fun k hk => ?_, va_up_at μ.2.2.1.2 1 (nI (l + 1))⟩, ⟨g1, g2, ?_, fun k hk => ?_, va_up_at μ.2.2.2.2.2 6 (nI (l + 1))⟩⟩
      · show va_up μ.2.2.1.1 l _ k = va_up t l _ k
        by_cases e : k = l
        · rw [e, va_up_at, va_up_at]
        · rw [va_up_ne _ _ e, va_up_ne _ _ e]; exact h4 k (by omega)
      · exact g3
      · show va_up (μ.2.2.2.2.1 4) l _ k = va_up t l _ k
        by_cases e : k = l
        · rw [e, va_up_at, va_up_at]
        · rw [va_up_ne _ _ e, va_up_ne _ _ e]; exact g4 k (by omega)
  · have e60 : l = 60 := by omega
    subst e60
    rw [if_neg (nI_pos (by omega)), if_neg (by decide), q_bd_s, q_let]
    refine ⟨_, _, μ.2.2.2.2, rfl, ?_, ⟨a, hs, sn, t, 60, ⟨ha, hsn, hl⟩, ⟨h1, h2, h3, h4, h5⟩, ⟨g1, g2, g3, g4, g5⟩⟩⟩
    show (if ¬ μ.2.2.2.2.2 6 = (60 : Int32) then _ else _) = _
    rw [g5, if_neg (not_not_intro (show nI 60 = (60 : Int32) from rfl))]
    rfl
theorem j_clear {μ : gMu} (h : j_inv μ) : ∃ r μ1 M1, f9_clearText μ = some (r, μ1) ∧ f10_clearText μ1.2.2.2.2 = some (r, M1) ∧ j_inv (g_setM μ1 M1) := by
  obtain ⟨a, hs, sn, t, l, ⟨ha, hsn, hl⟩, ⟨h1, h2, h3, h4, h5⟩, ⟨g1, g2, g3, g4, g5⟩⟩ := h
  unfold f9_clearText f0_empty f10_clearText
  rw [q_let, q_let, q_bd_s, q_let]
  refine ⟨_, _, g_mi μ.2.2.2.2 6 0, rfl, ?_, ⟨a, hs, sn, t, 0, ⟨ha, hsn, Nat.zero_le _⟩, ⟨h1, h2, h3, fun k hk => absurd hk (by omega), va_up_at μ.2.2.1.2 1 0⟩, ⟨g1, g2, g3, fun k hk => absurd hk (by omega), va_up_at μ.2.2.2.2.2 6 0⟩⟩⟩
  rw [q_let, q_let, h5]
  show some (μ.2.2.2.2.2 6, _) = _
  rw [g5]
  rfl
/-! history and snapshot -/
theorem j_undo {μ : gMu} (h : j_inv μ) : ∃ r μ1 M1, f9_undo μ = some (r, μ1) ∧ f10_undo μ1.2.2.2.2 = some (r, M1) ∧ j_inv (g_setM μ1 M1) := by
  obtain ⟨a, hs, sn, t, l, ho, h1, h2⟩ := h
  have hs2 : hs = [] ∨ ∃ hs' b, hs = hs' ++ [b] := by
    rcases List.eq_nil_or_concat hs with q | ⟨q1, q2, q3⟩
    · exact Or.inl q
    · exact Or.inr ⟨q1, q2, by rw [q3]; exact List.concat_eq_append⟩
  unfold f9_undo
  rcases hs2 with rfl | ⟨hs', b, rfl⟩
  · rw [r_back_n h1.2.1, q_bd_s]
    exact ⟨_, _, _, rfl, m_undo_n h2.2.1, ⟨a, [], sn, t, l, ho, h1, h2⟩⟩
  · obtain ⟨μ2, e1, c1, c2, c3, c4⟩ := r_back_s h1.2.1
    obtain ⟨M2, e2, d1, d2, d3, d4⟩ := m_undo_s h2.2.1
    rw [e1, q_bd_s]
    refine ⟨_, μ2, M2, rfl, by rw [c4]; exact e2, ⟨b, hs', sn, t, l, ⟨?_, ho.2.1, ho.2.2⟩, ⟨c2, c1, ?_, ?_, ?_⟩, ⟨d2, d1, ?_, ?_, ?_⟩⟩⟩
    · exact (h2.2.1.2.2 hs'.length b (by simp)).1
    · show j_s sn μ2.2.2.2.1 (fun s => r_c s (μ2.1 2))
      rw [c4, c3 2 (by omega)]; exact h1.2.2.1
    · show ∀ k, k < l → μ2.2.2.1.1 k = t k
      rw [c4]; exact h1.2.2.2.1
    · show μ2.2.2.1.2 1 = nI l
      rw [c4]; exact h1.2.2.2.2
    · show j_s sn (M2.2 7) (fun s => r_m s (M2.1 2))
      rw [d3 7 (by omega), d4 2 (by omega)]; exact h2.2.2.1
    · show ∀ k, k < l → M2.1 4 k = t k
      rw [d4 4 (by omega)]; exact h2.2.2.2.1
    · show M2.2 6 = nI l
      rw [d3 6 (by omega)]; exact h2.2.2.2.2
theorem j_keep {μ : gMu} (h : j_inv μ) : ∃ r μ1 M1, f9_keep μ = some (r, μ1) ∧ f10_keep μ1.2.2.2.2 = some (r, M1) ∧ j_inv (g_setM μ1 M1) := by
  obtain ⟨a, hs, sn, t, l, ⟨ha, hsn, hl⟩, ⟨h1, h2, h3, h4, h5⟩, ⟨g1, g2, g3, g4, g5⟩⟩ := h
  obtain ⟨z1, e1, r1⟩ := r_copy h1 (μ.1 2)
  obtain ⟨M2, e2, k2, k3, k4⟩ := m_copy (b0 := 0) (b1 := 2) rfl rfl (by omega) μ.2.2.2.2
  unfold f9_keep f10_keep
  rw [e1, q_b1_s, q_let, q_let]
  refine ⟨_, _, g_mi M2 7 1, rfl, ?_, ⟨a, hs, some a, t, l, ⟨ha, fun s q => by cases q; exact ha, hl⟩, ⟨h1, ?_, ⟨rfl, ?_⟩, h4, h5⟩, ⟨?_, ⟨?_, g2.2.1, fun i x hx => ?_⟩, ⟨va_up_at M2.2 7 1, ?_⟩, ?_, ?_⟩⟩⟩
  · show (g_b1 (f10_copy μ.2.2.2.2 0 2) fun z1 => g_let (g_mi z1 7 1) fun z4 => some (z4.1 0 (0 : Int32).toNatClampNeg, z4)) = some ((μ.1 0).1 5, _)
    rw [e2, q_b1_s, q_let, n0, h1.1 5 (by omega)]
    show some (M2.1 0 0, _) = _
    rw [k3 0 (by omega), g1.1.at.2.2.2.2.2.2.2.1]
  · obtain ⟨q1, q2, q3, q4, q5⟩ := h2
    refine ⟨q1, q2, q3, q4, fun i x hx => ?_⟩
    have hi : i < hs.length := (List.getElem?_eq_some_iff.mp hx).1
    have := q3 i (by omega)
    show r_c x (va_up μ.1 2 z1 (μ.2.1.1 i))
    rw [va_up_ne _ _ (by omega)]
    exact q5 i x hx
  · show r_c a (va_up μ.1 2 z1 2)
    rw [va_up_at]; exact r1
  · show r_m a (M2.1 0)
    rw [k3 0 (by omega)]; exact g1
  · show va_up M2.2 7 1 5 = _
    rw [va_up_ne _ _ (by omega), k2]; exact g2.1
  · show a_ok x ∧ r_m x (fun k => M2.1 3 (1134 * i + k))
    rw [k3 3 (by omega)]; exact g2.2.2 i x hx
  · exact g1.cg ha k4
  · show ∀ k, k < l → M2.1 4 k = t k
    rw [k3 4 (by omega)]; exact g4
  · show va_up M2.2 7 1 6 = nI l
    rw [va_up_ne _ _ (by omega), k2]; exact g5
theorem j_restore {μ : gMu} (h : j_inv μ) : ∃ r μ1 M1, f9_restore μ = some (r, μ1) ∧ f10_restore μ1.2.2.2.2 = some (r, M1) ∧ j_inv (g_setM μ1 M1) := by
  obtain ⟨a, hs, sn, t, l, ho, h1, h2⟩ := h
  have ha := ho.1
  unfold f9_restore f10_restore
  cases sn with
  | none =>
    have e1 : μ.2.2.2.1 = 0 := h1.2.2.1
    have e2 : μ.2.2.2.2.2 7 = 0 := h2.2.2.1
    rw [if_neg (not_not_intro e1)]
    refine ⟨_, _, μ.2.2.2.2, rfl, ?_, ⟨a, hs, none, t, l, ho, h1, h2⟩⟩
    rw [if_neg (not_not_intro e2)]
  | some b =>
    obtain ⟨e1, r1⟩ : μ.2.2.2.1 = 1 ∧ r_c b (μ.1 2) := h1.2.2.1
    obtain ⟨e2, r2⟩ : μ.2.2.2.2.2 7 = 1 ∧ r_m b (μ.2.2.2.2.1 2) := h2.2.2.1
    have hb := ho.2.1 b rfl
    rw [if_pos (by rw [e1]; decide)]
    obtain ⟨z1, y1, x1⟩ := r_copy h1.1 (μ.1 1)
    obtain ⟨z2, y2, x2⟩ := r_copy r1 (μ.1 0)
    rw [y1, q_b1_s, q_let, show (g_setS μ 1 z1).1 0 = μ.1 0 from rfl, show (g_setS μ 1 z1).1 2 = μ.1 2 from rfl, y2, q_b1_s, q_let]
    have hc : c_hi hs (g_setS (g_setS μ 1 z1) 0 z2) := by
      obtain ⟨g1, g2, g3, g4, g5⟩ := h1.2.1
      refine ⟨g1, g2, g3, g4, fun i x hx => ?_⟩
      have hi : i < hs.length := (List.getElem?_eq_some_iff.mp hx).1
      have := g3 i (by omega)
      show r_c x (va_up (va_up μ.1 1 z1) 0 z2 (μ.2.1.1 i))
      rw [va_up_ne _ _ (by omega), va_up_ne _ _ (by omega)]
      exact g5 i x hx
    have ed : ((g_setS (g_setS μ 1 z1) 0 z2).1 0).1 5 = b.1 5 := x2.1 5 (by omega)
    obtain ⟨-, -, -, -, -, d, hd, ed2⟩ := hb.1
    have hpos : ¬ b.1 5 < 0 := by rw [ed2]; exact nI_pos (by omega)
    unfold f9_recorded
    rw [ed, if_neg hpos]
    obtain ⟨μ2, u1, u2, u3, u4⟩ := r_record hc (a := a) x1
    rw [u1, q_b1_s, q_bd_s]
    obtain ⟨M2, v1, v2⟩ := h2.rec0 ha
    obtain ⟨M3, w1, w2, w3, w4⟩ := m_copy (b0 := 2) (b1 := 0) rfl rfl (by omega) M2
    have rb : r_m b (M2.1 2) := v2.2.2.1.2
    have rb3 : r_m b (M3.1 0) := rb.cg hb w4
    refine ⟨_, μ2, M3, rfl, ?_, ⟨b, h_push hs a, some b, t, l, ⟨hb, ho.2.1, ho.2.2⟩, ⟨?_, u2, ?_, ?_, ?_⟩, v2.eq ⟨w2, fun c hc => w3 c hc⟩ rb3⟩⟩
    · rw [u4]
      show (if ¬ μ.2.2.2.2.2 7 = 0 then g_b1 (f10_record μ.2.2.2.2 0) fun z2 => g_b1 (f10_copy z2 2 0) fun z5 => some (z5.1 0 (0 : Int32).toNatClampNeg, z5) else _) = _
      rw [if_pos (by rw [e2]; decide), v1, q_b1_s, w1, q_b1_s, n0, rb3.1.at.2.2.2.2.2.2.2.1]
    · show r_c b (μ2.1 0)
      rw [u3 0 (by omega)]; exact x2
    · show j_s (some b) μ2.2.2.2.1 (fun s => r_c s (μ2.1 2))
      rw [u4, u3 2 (by omega)]; exact ⟨e1, r1⟩
    · show ∀ k, k < l → μ2.2.2.1.1 k = t k
      rw [u4]; exact h1.2.2.2.1
    · show μ2.2.2.1.2 1 = nI l
      rw [u4]; exact h1.2.2.2.2
