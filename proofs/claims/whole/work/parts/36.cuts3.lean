/-! THE REFERENCE: a cut, whole -/
theorem r_m.ods {a : aSt} {f f2 : Nat → Int32} {os2 : List gOd} (h : r_m a f) (hk4 : ∃ m, a.1 12 = nI m ∧ k_ok m a.2.1) (e : ∀ c, c < 1050 → c ≠ 7 → f2 c = f c) (ho : m_od os2 f2) : r_m (a.1, a.2.1, os2) f2 := by
  obtain ⟨m, em, hk⟩ := hk4
  have hle := hk.1
  obtain ⟨ht, h1⟩ := (m_t_iff (r := 0) (by omega) ⟨m, em, hle⟩).mp h
  obtain ⟨g1, g2, ⟨m2, e1, e2, g3⟩, g4⟩ := ht
  refine (m_t_iff (a := (a.1, a.2.1, os2)) (r := 0) (by omega) ⟨m, em, hle⟩).mpr ⟨⟨g1.cg (fun k k1 k2 => e k (by omega) k2), fun r2 hr2 hne => (g2 r2 hr2 hne).cg hr2 (hk.2.1 r2 hr2) (fun k k1 k2 => e k (by omega) (by omega)), ⟨m2, e1, e2, g3.cg e2 (fun k k1 k2 => e k (by omega) (by omega))⟩, ho⟩, h1.cg (by omega) (hk.2.1 0 (by omega)) (fun c c1 c2 => e c (by omega) (by omega))⟩
theorem m_data {a : aSt} {f : Nat → Int32} (h : r_m a f) {r p : Nat} {s : gSh} (hr : r < 4) (hs : (a.2.1 r)[p]? = some s) {j : Nat} (hj : j < 200) (ej : s.1 = nI j) : f (50 + 5 * j) = s.2.1 ∧ f (50 + 5 * j + 1) = s.2.2.1 ∧ f (50 + 5 * j + 2) = s.2.2.2.1 := by
  obtain ⟨d0, d1, d2, -⟩ := h.2.2.1 r p s hr hs j ej hj
  exact ⟨d0, d1, d2⟩
theorem m_fx.data {m : Nat} {f f2 : Nat → Int32} (h : m_fx m f f2) {j : Nat} (hj : j < m) {u v w : Int32} (e : f (50 + 5 * j) = u ∧ f (50 + 5 * j + 1) = v ∧ f (50 + 5 * j + 2) = w) : f2 (50 + 5 * j) = u ∧ f2 (50 + 5 * j + 1) = v ∧ f2 (50 + 5 * j + 2) = w := by
  have h0 := h j 0 hj (by omega) (by omega)
  rw [Nat.add_zero] at h0
  rw [h0, h j 1 hj (by omega) (by omega), h j 2 hj (by omega) (by omega)]
  exact e
theorem m_cut_end {a : aSt} (ha : a_ok a) {M : gMo} (hm : r_m a (M.1 0)) {k : Nat} {o : gOd} {s : gSh} (hk : a.2.2[k]? = some o) (g : Nat → Int32) (R pc left : Int32) (hleft : left = c_lost g o s) (n : Nat) : ∃ M2, f10_cuts_49 (n + 1) M (nI k) s.1 R pc (o.2.2.1 * o.2.2.2.1) left 2 = some (pc, M2) ∧ m_eq M M2 ∧ r_m (t_done a g k s o) (M2.1 0) := by
  have hk12 : k < 12 := by have := (List.getElem?_eq_some_iff.mp hk).1; have := ha.2.2.1; omega
  have ha2 := ha
  obtain ⟨hn, ⟨m, hm2, hk4⟩, hos⟩ := ha
  obtain ⟨-, -, -, -, -, v2, v5, v0, -⟩ := hm.1.at
  have hle := hk4.1
  rw [f10_cuts_49, if_pos (Int32.le_refl 2)]
  simp (disch := omega) only [n2, n5, n0, q_let, l1050, l7, l4, l5, l6, pk_mul, nI_add, q_in, nI_clamp]
  rw [if_pos (by omega), if_pos (by omega), if_pos (by omega)]
  refine ⟨_, rfl, (((((m_eq.rf.ma _ _).ma _ _).ma _ _).ma _ _).ma _ _), ?_⟩
  have e1 : (g_ma M 0 2 (M.1 0 2 + o.2.2.1 * o.2.2.2.1)).1 0 5 = M.1 0 5 := rfl
  rw [e1, v2, v5]
  have h7 := hm.nu hk4.2.1 hos.1 ⟨m, hm2, hk4.1⟩ (k := 7) (by omega) (a.1 7 + o.2.2.1 * o.2.2.2.1)
  have h10 := h7.nu (by exact hk4.2.1) (by exact hos.1) ⟨m, (va_up_ne (k := 7) (j := 12) a.1 (a.1 7 + o.2.2.1 * o.2.2.2.1) (by omega)).trans hm2, hk4.1⟩ (k := 10) (by omega) (a.1 10 + c_lost g o s)
  have ed : ∀ u v w x : Int32, (g_ma (g_ma (g_ma (g_ma M 0 2 u) 0 5 v) 0 (1050 + 7 * k + 4) w) 0 (1050 + 7 * k + 5) x).1 0 0 = a.1 5 := fun u v w x => by
    rw [g_ma_z, g_ma_z, g_ma_z, g_ma_z, va_up_ne _ _ (by omega), va_up_ne _ _ (by omega), va_up_ne _ _ (by omega), va_up_ne _ _ (by omega)]
    exact v0
  rw [ed, hleft]
  refine r_m.ods (a := (va_up (va_up a.1 7 (a.1 7 + o.2.2.1 * o.2.2.2.1)) 10 (a.1 10 + c_lost g o s), a.2)) (f := va_up (va_up (M.1 0) 2 (a.1 7 + o.2.2.1 * o.2.2.2.1)) 5 (a.1 10 + c_lost g o s)) h10 ⟨m, ?_, hk4⟩ (fun c c1 c2 => ?_) ?_
  · show va_up (va_up a.1 7 (a.1 7 + o.2.2.1 * o.2.2.2.1)) 10 (a.1 10 + c_lost g o s) 12 = nI m
    rw [va_up_ne _ _ (by omega), va_up_ne _ _ (by omega)]
    exact hm2
  · rw [g_ma_z, g_ma_z, g_ma_z, g_ma_z, g_ma_z, va_up_ne _ _ (by omega), va_up_ne _ _ (by omega), va_up_ne _ _ (by omega)]
  · refine h10.2.2.2.2.set (o2 := o_cut o s (a.1 5)) hos.1 hk (fun c c1 c2 c3 c4 => ?_) rfl rfl rfl rfl ?_ (fun _ => ⟨?_, ?_⟩)
    · rw [g_ma_z, g_ma_z, g_ma_z, g_ma_z, g_ma_z, va_up_ne _ _ c4, va_up_ne _ _ c3, va_up_ne _ _ c2]
      rfl
    · rw [g_ma_z, g_ma_z, g_ma_z, va_up_ne _ _ (by omega), va_up_ne _ _ (by omega)]
      exact va_up_at _ _ _
    · rw [g_ma_z, g_ma_z, va_up_ne _ _ (by omega)]
      exact va_up_at _ _ _
    · rw [g_ma_z]
      exact va_up_at _ _ _
theorem m_cuts {a : aSt} (ha : a_ok a) {M : gMo} (hm : r_m a (M.1 0)) {r p k : Nat} {s : gSh} {o : gOd} (hr : r < 4) (hs : (a.2.1 r)[p]? = some s) (hk : a.2.2[k]? = some o) : ∃ M2, f10_cuts M (nI k) s.1 = some ((t_cut a r p k s o).1, M2) ∧ m_eq M M2 ∧ r_m (t_cut a r p k s o).2 (M2.1 0) := by
  have hk12 : k < 12 := by have := (List.getElem?_eq_some_iff.mp hk).1; have := ha.2.2.1; omega
  have ho := (ha.2.2.2 k o hk).1
  have ha1 := t_out_ok ha hr hs
  obtain ⟨M1, y1, ⟨y2, y3⟩, y4⟩ := m_takes ha hm hr hs
  have hi := (m_its ha hm hr hs).2.2.2.1
  obtain ⟨hn, ⟨m, hm2, hk4⟩, hos⟩ := ha
  have hle := hk4.1
  obtain ⟨hsk, j, hj, ej⟩ := hk4.2.2.2 r p s hr hs
  obtain ⟨b1, b2, b3, b4⟩ := c_in hn ho hsk
  have dat1 := y3.data (show j < 200 by omega) (m_data hm hr hs (show j < 200 by omega) ej)
  rw [t_cut_e]
  unfold f10_cuts
  rw [hi, q_b1_s, y1, q_bd_s]
  by_cases c : (t_out a r p s).1 = 0
  · rw [if_neg (fun q => q c), if_pos c]
    exact ⟨M1, rfl, y2, y4⟩
  · rw [if_pos c, if_neg c]
    have g1 : ∀ i, i < 5 → (t_out a r p s).2.1 i = a.1 i := fun i hi => t_out_nu a r p s (by omega) (by omega)
    have hm12 : (t_out a r p s).2.1 12 = nI m := (t_out_nu a r p s (by omega) (by omega)).trans hm2
    have rd1 : m_rd M1 (nI k) s.1 a.1 o s := m_rd.cg (M := M1) hk12 ha1.2.2 y4 ⟨o, hk, rfl, rfl, rfl⟩ g1 (show j < 200 by omega) ej dat1.1 dat1.2.1 dat1.2.2
    rw [rd1.2.1, q_b1_s, rd1.2.2.1, q_b1_s, q_let]
    have har : f10_area M1 s.1 = some (s.2.2.1 * s.2.2.2.1) := by
      rw [ej, f10_area_e M1 (by omega), dat1.2.1, dat1.2.2]
    rw [har, q_b1_s, q_let]
    have hW0 : ¬ (2 : Int32) ≤ 0 := by decide
    have hW1 : ¬ (2 : Int32) ≤ 1 := by decide
    have kp1 := m_keeps rd1
    rw [← g1 1 (by omega)] at kp1
    obtain ⟨M2, z1, ⟨z2, z3⟩, z4⟩ := m_cut_s ha1 y4 hr s rfl hW0 (m_area rd1).1 kp1.1 rd1.2.2.2.1 (m_piece rd1).1 (m_piece rd1).2.1 hm12 hle 69 0 (o.2.2.1 * o.2.2.2.1) (s.2.2.1 * s.2.2.2.1 - o.2.2.1 * o.2.2.2.1)
    have ha2 := t_keep_ok ha1 hr hsk b1 b2
    have dat2 := z3.data hj dat1
    have g2 : ∀ i, i < 5 → (t_keep (t_out a r p s).2 r (c_bw a.1 o s) (c_bh a.1 o s) s).2.1 i = a.1 i := fun i hi => (t_keep_nu _ _ _ _ _ (by omega) (by omega)).trans (g1 i hi)
    obtain ⟨m2, hm2a, hm2b⟩ := t_keep_m2 hm12 r (c_bw a.1 o s) (c_bh a.1 o s) s
    obtain ⟨m3, hm3a, hm3b⟩ := t_keep_m hm12 hle r (c_bw a.1 o s) (c_bh a.1 o s) s
    have e32 : m2 = m3 ∨ 2 ^ 31 ≤ m2 := by
      by_cases hb : m2 < 2 ^ 31
      · rw [hm2b] at hm3a
        exact Or.inl ((nI_eq hb (by omega)).mp hm3a)
      · exact Or.inr (by omega)
    have od2 : (t_keep (t_out a r p s).2 r (c_bw a.1 o s) (c_bh a.1 o s) s).2.2.2 = a.2.2 := t_keep_od _ _ _ _ _
    have rd2 : m_rd M2 (nI k) s.1 a.1 o s := m_rd.cg (M := M2) hk12 ha2.2.2 z4 ⟨o, by rw [od2]; exact hk, rfl, rfl, rfl⟩ g2 (show j < 200 by omega) ej dat2.1 dat2.2.1 dat2.2.2
    have kp2 := m_keeps rd2
    rw [← g2 1 (by omega)] at kp2
    obtain ⟨M3, x1, ⟨x2, x3⟩, x4⟩ := m_cut_s ha2 z4 hr s rfl hW1 (m_area rd2).2 kp2.2 rd2.2.2.2.1 (m_piece rd2).2.2.1 (m_piece rd2).2.2.2 hm3a hm3b 68 (0 + (t_keep (t_out a r p s).2 r (c_bw a.1 o s) (c_bh a.1 o s) s).1) (o.2.2.1 * o.2.2.2.1) (s.2.2.1 * s.2.2.2.1 - o.2.2.1 * o.2.2.2.1 - c_ar (c_bw a.1 o s) (c_bh a.1 o s))
    have ha3 := t_keep_ok ha2 hr hsk b3 b4
    have od3 : (t_keep (t_keep (t_out a r p s).2 r (c_bw a.1 o s) (c_bh a.1 o s) s).2 r (c_aw a.1 o s) (c_ah a.1 o s) s).2.2.2 = a.2.2 := (t_keep_od _ _ _ _ _).trans od2
    obtain ⟨M4, w1, w2, w3⟩ := m_cut_end (s := s) ha3 x4 (by rw [od3]; exact hk) a.1 (nI r) (0 + (t_keep (t_out a r p s).2 r (c_bw a.1 o s) (c_bh a.1 o s) s).1 + (t_keep (t_keep (t_out a r p s).2 r (c_bw a.1 o s) (c_bh a.1 o s) s).2 r (c_aw a.1 o s) (c_ah a.1 o s) s).1) (s.2.2.1 * s.2.2.2.1 - o.2.2.1 * o.2.2.2.1 - c_ar (c_bw a.1 o s) (c_bh a.1 o s) - c_ar (c_aw a.1 o s) (c_ah a.1 o s)) rfl 67
    refine ⟨M4, ?_, ((y2.tr z2).tr x2).tr w2, w3⟩
    rw [z1, show (0 : Int32) + 1 = 1 by decide, x1, show (1 : Int32) + 1 = 2 by decide, w1, Int32.zero_add]
