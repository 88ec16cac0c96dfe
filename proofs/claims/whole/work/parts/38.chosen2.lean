/-! THE REFERENCE: the choice of a sheet -/
theorem c_lie_c (g : Nat → Int32) (o : gOd) (s : gSh) : c_lie g o s < 0 ↔ c_lie g o s = -1 := by
  unfold c_lie
  split
  · decide
  · split
    · decide
    · split <;> decide
theorem ch_ms_p (a : aSt) (o : gOd) (c : Int32) {r p : Nat} (hp : p < 8) (s : gSh) : ch_ms a o c (8 * r + p) s = if c = 0 then s.2.2.1 * s.2.2.2.1 else if c = 1 then nI ((a.2.1 r).length - 1 - p) else c_scr a.1 o s := by
  unfold ch_ms
  rw [show (8 * r + p) / 8 = r by omega, show (8 * r + p) % 8 = p by omega]
theorem m_goes {a : aSt} (ha : a_ok a) {M : gMo} (hm : r_m a (M.1 0)) {r p k : Nat} {s : gSh} {o : gOd} (hr : r < 4) (hs : (a.2.1 r)[p]? = some s) (hk : a.2.2[k]? = some o) (c : Int32) : f10_goes M (nI k) s.1 c = some (ch_ms a o c (8 * r + p) s) := by
  have hp : p < 8 := by
    have := (List.getElem?_eq_some_iff.mp hs).1
    obtain ⟨hn, ⟨m, hm2, hk4⟩, hos⟩ := ha
    have := hk4.2.1 r hr
    omega
  rw [ch_ms_p a o c hp]
  unfold f10_goes
  by_cases c0 : c = 0
  · rw [if_neg (not_not_intro c0), if_pos c0, (m_its ha hm hr hs).2.2.2.2.2, q_b1_s]
  · rw [if_pos c0, if_neg c0]
    by_cases c1 : c = 1
    · rw [if_neg (not_not_intro c1), if_pos c1, m_before ha hm hr hs, q_b1_s]
    · rw [if_pos c1, if_neg c1, m_scr (m_rd_of ha hm hr hs hk), q_b1_s]
def ch_n (a : aSt) (o : gOd) (c : Int32) (K : Nat) (v : Option (Nat × gSh)) : Prop := match v with
  | none => ∀ k x, k < 32 → ch_f a o k x → ∀ j, x.1 = nI j → K ≤ j
  | some w => w.1 < 32 ∧ ch_f a o w.1 w.2 ∧ (∃ j, j < K ∧ w.2.1 = nI j) ∧ ∀ k x, k < 32 → ch_f a o k x → ∀ j, x.1 = nI j → K ≤ j ∨ ch_ms a o c w.1 w.2 < ch_ms a o c k x ∨ (ch_ms a o c w.1 w.2 = ch_ms a o c k x ∧ w.2.1 ≤ x.1)
def ch_nm (v : Option (Nat × gSh)) : Int32 := match v with
  | none => -5
  | some w => w.2.1
theorem ch_n.skip {a : aSt} {o : gOd} {c : Int32} {K : Nat} {v : Option (Nat × gSh)} (h : ch_n a o c K v) (hn : ∀ k x, k < 32 → ch_f a o k x → x.1 ≠ nI K) : ch_n a o c (K + 1) v := by
  cases v with
  | none =>
    intro k x hk hf j hj
    have := h k x hk hf j hj
    have : j ≠ K := fun q => hn k x hk hf (by rw [hj, q])
    omega
  | some w =>
    obtain ⟨h1, h2, ⟨j, h3, h4⟩, h5⟩ := h
    refine ⟨h1, h2, ⟨j, by omega, h4⟩, fun k x hk hf j hj => ?_⟩
    rcases h5 k x hk hf j hj with q | q
    · have : j ≠ K := fun q => hn k x hk hf (by rw [hj, q])
      exact Or.inl (by omega)
    · exact Or.inr q
theorem ch_f.at {a : aSt} {o : gOd} {k : Nat} {x : gSh} (h : ch_f a o k x) (hk : k < 32) (hu : r_un a.2.1) {r p : Nat} {s : gSh} (hr : r < 4) (hp8 : p < 8) (hs : (a.2.1 r)[p]? = some s) (e : x.1 = s.1) : k = 8 * r + p ∧ x = s := by
  obtain ⟨e1, e2⟩ := hu _ _ _ _ _ _ (by omega) hr h.1 hs e
  have h1 := h.1
  rw [e1, e2, hs] at h1
  cases h1
  exact ⟨by omega, rfl⟩
theorem m_chosen_l {a : aSt} (ha : a_ok a) {M : gMo} (hm : r_m a (M.1 0)) {m : Nat} (hm2 : a.1 12 = nI m) (hk4 : k_ok m a.2.1) {ko : Nat} {o : gOd} (hk : a.2.2[ko]? = some o) (c : Int32) : ∀ (d n K : Nat) (v : Option (Nat × gSh)), K + d = m → d < n → ch_n a o c K v → ∃ w, f10_chosen_6 n M (nI ko) c (ch_nm v) (nI K) = some (ch_nm w) ∧ ch_n a o c m w := by
  have hle := hk4.1
  have v8 : M.1 0 8 = nI m := hm.1.at.2.2.2.1.trans hm2
  intro d
  induction d with
  | zero =>
    intro n K v hK hn hv
    obtain ⟨n, rfl⟩ : ∃ k, n = k + 1 := ⟨n - 1, by omega⟩
    obtain rfl : K = m := by omega
    rw [f10_chosen_6, n8, v8, if_pos (Int32.le_refl _)]
    exact ⟨v, rfl, hv⟩
  | succ d ih =>
    intro n K v hK hn hv
    obtain ⟨n, rfl⟩ : ∃ k, n = k + 1 := ⟨n - 1, by omega⟩
    rw [f10_chosen_6, n8, v8, if_neg (fun q => by have := (nI_leI (by omega) (by omega)).mp q; omega)]
    rw [show nI K + 1 = nI (K + 1) from nI_add K 1]
    rcases k_find a.2.1 (nI K) with ⟨r, p, s, hr, hs, es⟩ | hno
    · have hp8 : p < 8 := by
        have := (List.getElem?_eq_some_iff.mp hs).1
        have := hk4.2.1 r hr
        omega
      rw [← es, (m_its ha hm hr hs).2.2.2.1, q_b1_s, if_neg (nI_pos (by omega)), m_lies (m_rd_of ha hm hr hs hk), q_b1_s]
      by_cases c1 : c_lie a.1 o s < 0
      · rw [if_pos c1]
        refine ih n (K + 1) v (by omega) (by omega) (hv.skip (fun k x hk2 hf q => ?_))
        obtain ⟨-, e2⟩ := hf.at hk2 hk4.2.2.1 hr hp8 hs (q.trans es.symm)
        rw [e2] at hf
        exact hf.2 ((c_lie_c _ _ _).mp c1)
      · rw [if_neg c1]
        have hf : ch_f a o (8 * r + p) s := ⟨by rw [show (8 * r + p) / 8 = r by omega, show (8 * r + p) % 8 = p by omega]; exact hs, fun q => c1 ((c_lie_c _ _ _).mpr q)⟩
        have take : (∀ k x, k < 32 → ch_f a o k x → ∀ j, x.1 = nI j → K ≤ j ∨ ch_ms a o c (8 * r + p) s < ch_ms a o c k x ∨ (ch_ms a o c (8 * r + p) s = ch_ms a o c k x ∧ s.1 ≤ x.1)) → ch_n a o c (K + 1) (some (8 * r + p, s)) := by
          intro h
          refine ⟨by show 8 * r + p < 32; omega, hf, ⟨K, by omega, es⟩, fun k x hk2 hx j hj => ?_⟩
          rcases h k x hk2 hx j hj with q | q
          · by_cases c2 : j = K
            · subst c2
              obtain ⟨e1, e2⟩ := hx.at hk2 hk4.2.2.1 hr hp8 hs (hj.trans es.symm)
              rw [e1, e2]
              exact Or.inr (Or.inr ⟨rfl, Int32.le_refl _⟩)
            · exact Or.inl (by omega)
          · exact Or.inr q
        cases v with
        | none =>
          rw [if_pos (show ch_nm none = -5 from rfl)]
          exact ih n (K + 1) (some (8 * r + p, s)) (by omega) (by omega) (take (fun k x hk2 hx j hj => Or.inl (hv k x hk2 hx j hj)))
        | some w =>
          obtain ⟨h1, h2, ⟨j, h3, h4⟩, h5⟩ := hv
          have enw : ch_nm (some w) = w.2.1 := rfl
          rw [enw, if_neg (by rw [h4]; exact nI_m5 (by omega)), m_goes ha hm hr hs hk c, q_b1_s]
          have gw := m_goes ha hm (r := w.1 / 8) (p := w.1 % 8) (by omega) h2.1 hk c
          rw [show 8 * (w.1 / 8) + w.1 % 8 = w.1 by omega] at gw
          rw [gw, q_b1_s]
          by_cases c2 : ch_ms a o c w.1 w.2 ≤ ch_ms a o c (8 * r + p) s
          · rw [if_pos c2]
            refine ih n (K + 1) (some w) (by omega) (by omega) ⟨h1, h2, ⟨j, by omega, h4⟩, fun k x hk2 hx i hi => ?_⟩
            rcases h5 k x hk2 hx i hi with q | q
            · by_cases c3 : i = K
              · subst c3
                obtain ⟨e1, e2⟩ := hx.at hk2 hk4.2.2.1 hr hp8 hs (hi.trans es.symm)
                rw [e1, e2]
                by_cases c4 : ch_ms a o c w.1 w.2 = ch_ms a o c (8 * r + p) s
                · refine Or.inr (Or.inr ⟨c4, ?_⟩)
                  rw [h4, es, nI_leI (by omega) (by omega)]
                  omega
                · exact Or.inr (Or.inl (Int32.lt_iff_le_and_ne.mpr ⟨c2, c4⟩))
              · exact Or.inl (by omega)
            · exact Or.inr q
          · rw [if_neg c2]
            refine ih n (K + 1) (some (8 * r + p, s)) (by omega) (by omega) (take (fun k x hk2 hx i hi => ?_))
            have c3 := Int32.not_le.mp c2
            rcases h5 k x hk2 hx i hi with q | q | q
            · exact Or.inl q
            · exact Or.inr (Or.inl (Int32.lt_trans c3 q))
            · exact Or.inr (Or.inl (by rw [← q.1]; exact c3))
    · obtain ⟨m3, hm3, hmno⟩ := hm.2.2.2.1
      have e3 : f10_its M (nI K) 3 = some (-1) := by
        rw [l3, f10_its_e M (by omega), hmno K (by
          rw [hm2] at hm3
          by_cases hb : m3 < 2 ^ 31
          · have := (nI_eq (by omega) hb).mp hm3
            omega
          · omega) hno]
      rw [e3, q_b1_s, if_pos (by decide)]
      exact ih n (K + 1) v (by omega) (by omega) (hv.skip (fun k x hk2 hf => hno _ _ _ (by omega) hf.1))
theorem ch_n.b {a : aSt} {o : gOd} {c : Int32} {m : Nat} (hk4 : k_ok m a.2.1) {v : Option (Nat × gSh)} (h : ch_n a o c m v) : ∃ e, ch_b a o c 32 (v.map Prod.snd) e := by
  have num : ∀ k x, k < 32 → ch_f a o k x → ∃ j, j < m ∧ x.1 = nI j := fun k x hk hf => (hk4.2.2.2 _ _ _ (by omega) hf.1).2
  cases v with
  | none =>
    refine ⟨0, fun k x hk hf => ?_⟩
    obtain ⟨j, h1, h2⟩ := num k x hk hf
    have := h k x hk hf j h2
    omega
  | some w =>
    obtain ⟨h1, h2, -, h5⟩ := h
    refine ⟨ch_ms a o c w.1 w.2, ⟨w.1, h1, h2, rfl⟩, fun k x hk hf => ?_⟩
    obtain ⟨j, g1, g2⟩ := num k x hk hf
    rcases h5 k x hk hf j g2 with q | q
    · omega
    · exact q
theorem m_chosen {a : aSt} (ha : a_ok a) {M : gMo} (hm : r_m a (M.1 0)) {k : Nat} {o : gOd} (hk : a.2.2[k]? = some o) (c : Int32) : f10_chosen M (nI k) c = some (match ch_at a o c with | none => -5 | some q => q.2.2.1) := by
  obtain ⟨m, hm2, hk4⟩ := ha.2.1
  have hle := hk4.1
  obtain ⟨w, e1, e2⟩ := m_chosen_l ha hm hm2 hk4 hk c m 300 0 none (by omega) (by omega) (fun k x hk hf j hj => Nat.zero_le _)
  unfold f10_chosen
  rw [nI_0] at e1
  rw [show (-5 : Int32) = ch_nm none from rfl, e1]
  obtain ⟨e, h⟩ := e2.b hk4
  cases w with
  | none => rw [ch_at_n h]
  | some w =>
    obtain ⟨r, p, -, -, -, h4⟩ := ch_at_s hk4.2.2.1 h
    rw [h4]
    rfl
