/-! BOTH SYSTEMS: what holds between calls -/
def j_s (sn : Option aSt) (k : Int32) (P : aSt → Prop) : Prop := match sn with
  | none => k = 0
  | some s => k = 1 ∧ P s
def jc (a : aSt) (hs : List aSt) (sn : Option aSt) (t : Nat → Int32) (l : Nat) (μ : gMu) : Prop := r_c a (μ.1 0) ∧ c_hi hs μ ∧ j_s sn μ.2.2.2.1 (fun s => r_c s (μ.1 2)) ∧ (∀ k, k < l → μ.2.2.1.1 k = t k) ∧ μ.2.2.1.2 1 = nI l
def jm (a : aSt) (hs : List aSt) (sn : Option aSt) (t : Nat → Int32) (l : Nat) (M : gMo) : Prop := r_m a (M.1 0) ∧ m_hi hs M ∧ j_s sn (M.2 7) (fun s => r_m s (M.1 2)) ∧ (∀ k, k < l → M.1 4 k = t k) ∧ M.2 6 = nI l
def jo (a : aSt) (sn : Option aSt) (l : Nat) : Prop := a_ok a ∧ (∀ s, sn = some s → a_ok s) ∧ l ≤ 60
def j_inv (μ : gMu) : Prop := ∃ a hs sn t l, jo a sn l ∧ jc a hs sn t l μ ∧ jm a hs sn t l μ.2.2.2.2
def j_hs (hs : List aSt) (a : aSt) (x : Int32) : List aSt := if x < 0 then hs else h_push hs a
theorem i_m1 : (-1 : Int32) < 0 := by decide
theorem i_m2 : (-2 : Int32) < 0 := by decide
theorem i_m3 : (-3 : Int32) < 0 := by decide
theorem i_m4 : (-4 : Int32) < 0 := by decide
theorem i_m5 : (-5 : Int32) < 0 := by decide
section JACT
variable {a : aSt} {hs : List aSt} {sn : Option aSt} {t : Nat → Int32} {l : Nat} {μ : gMu} {M : gMo}
/-- an act of the class: on a state, then recorded -/
theorem c_act (h : jc a hs sn t l μ) (f : gSt → Option (Int32 × gSt)) (w : Int32 × aSt) (hf : ∀ z, r_c a z → ∃ z2, f z = some (w.1, z2) ∧ r_c w.2 z2) :
    ∃ μ1, (g_b1 (f8_copyFrom (μ.1 1) (μ.1 0)) fun z1 => g_let (g_setS μ 1 z1) fun z4 => g_bd (f (z4.1 0)) fun r5 z6 => g_let (g_setS z4 0 z6) fun z11 => g_bd (f9_recorded z11 r5) fun r12 z13 => some (r12, z13)) = some (w.1, μ1) ∧ jc w.2 (j_hs hs a w.1) sn t l μ1 ∧ μ1.2.2.2.2 = μ.2.2.2.2 := by
  obtain ⟨h1, h2, h3, h4, h5⟩ := h
  obtain ⟨z1, e1, r1⟩ := r_copy h1 (μ.1 1)
  rw [e1, q_b1_s, q_let, show (g_setS μ 1 z1).1 0 = μ.1 0 from rfl]
  obtain ⟨z6, e6, r6⟩ := hf (μ.1 0) h1
  rw [e6, q_bd_s, q_let]
  have hc : c_hi hs (g_setS (g_setS μ 1 z1) 0 z6) := by
    obtain ⟨g1, g2, g3, g4, g5⟩ := h2
    refine ⟨g1, g2, g3, g4, fun i x hx => ?_⟩
    have hi : i < hs.length := (List.getElem?_eq_some_iff.mp hx).1
    have := g3 i (by omega)
    show r_c x (va_up (va_up μ.1 1 z1) 0 z6 (μ.2.1.1 i))
    rw [va_up_ne _ _ (by omega), va_up_ne _ _ (by omega)]
    exact g5 i x hx
  unfold f9_recorded j_hs
  by_cases c : w.1 < 0
  · rw [if_pos c, q_bd_s, if_pos c]
    exact ⟨_, rfl, ⟨r6, hc, h3, h4, h5⟩, rfl⟩
  · rw [if_neg c, if_neg c]
    obtain ⟨μ2, e2, c2, k2, m2⟩ := r_record hc (a := a) r1
    rw [e2, q_b1_s, q_bd_s]
    refine ⟨μ2, rfl, ⟨?_, c2, ?_, ?_, ?_⟩, ?_⟩
    · rw [k2 0 (by omega)]; exact r6
    · rw [m2, k2 2 (by omega)]; exact h3
    · rw [m2]; exact h4
    · rw [m2]; exact h5
    · rw [m2]; rfl
theorem jm.eq (h : jm a hs sn t l M) {M2 : gMo} (e : m_eq M M2) {a2 : aSt} (hm : r_m a2 (M2.1 0)) : jm a2 hs sn t l M2 := by
  obtain ⟨h1, h2, h3, h4, h5⟩ := h
  obtain ⟨e1, e2⟩ := e
  refine ⟨hm, ⟨by rw [e1]; exact h2.1, h2.2.1, fun i x hx => ?_⟩, ?_, ?_, by rw [e1]; exact h5⟩
  · rw [e2 3 (by omega)]; exact h2.2.2 i x hx
  · rw [e1, e2 2 (by omega)]; exact h3
  · rw [e2 4 (by omega)]; exact h4
theorem jm.rec0 (h : jm a hs sn t l M) (ha : a_ok a) : ∃ M2, f10_record M 0 = some M2 ∧ jm a (h_push hs a) sn t l M2 := by
  obtain ⟨h1, h2, h3, h4, h5⟩ := h
  obtain ⟨M2, e1, e2, e3, e4⟩ := m_record h2 (b1 := 0) rfl (by omega) ha h1
  refine ⟨M2, e1, ?_, e2, ?_, ?_, ?_⟩
  · rw [e4 0 (by omega)]; exact h1
  · rw [e3 7 (by omega), e4 2 (by omega)]; exact h3
  · rw [e4 4 (by omega)]; exact h4
  · rw [e3 6 (by omega)]; exact h5
theorem jm.rec1 (h : jm a hs sn t l M) {b : aSt} (hb : a_ok b) (hm : r_m b (M.1 1)) : ∃ M2, f10_record M 1 = some M2 ∧ jm a (h_push hs b) sn t l M2 := by
  obtain ⟨h1, h2, h3, h4, h5⟩ := h
  obtain ⟨M2, e1, e2, e3, e4⟩ := m_record h2 (b1 := 1) rfl (by omega) hb hm
  refine ⟨M2, e1, ?_, e2, ?_, ?_, ?_⟩
  · rw [e4 0 (by omega)]; exact h1
  · rw [e3 7 (by omega), e4 2 (by omega)]; exact h3
  · rw [e4 4 (by omega)]; exact h4
  · rw [e3 6 (by omega)]; exact h5
theorem jm.copy1 (h : jm a hs sn t l M) (ha : a_ok a) : ∃ M2, f10_copy M 0 1 = some M2 ∧ jm a hs sn t l M2 ∧ r_m a (M2.1 1) ∧ M2.2 = M.2 := by
  obtain ⟨h1, h2, h3, h4, h5⟩ := h
  obtain ⟨M2, e1, e2, e3, e4⟩ := m_copy (b0 := 0) (b1 := 1) rfl rfl (by omega) M
  refine ⟨M2, e1, ⟨?_, ⟨by rw [e2]; exact h2.1, h2.2.1, fun i x hx => ?_⟩, ?_, ?_, by rw [e2]; exact h5⟩, h1.cg ha e4, e2⟩
  · rw [e3 0 (by omega)]; exact h1
  · rw [e3 3 (by omega)]; exact h2.2.2 i x hx
  · rw [e2, e3 2 (by omega)]; exact h3
  · rw [e3 4 (by omega)]; exact h4
/-- the reference's shape: copied, done, recorded -/
theorem m_act (h : jm a hs sn t l M) (ha : a_ok a) (f : gMo → Option (Int32 × gMo)) (w : Int32 × aSt) (hf : ∀ M, r_m a (M.1 0) → ∃ M2, f M = some (w.1, M2) ∧ m_eq M M2 ∧ r_m w.2 (M2.1 0)) :
    ∃ M1, (g_b1 (f10_copy M 0 1) fun z17 => g_bd (f z17) fun r20 z21 => if r20 < 0 then some (r20, z21) else g_b1 (f10_record z21 1) fun z25 => some (r20, z25)) = some (w.1, M1) ∧ jm w.2 (j_hs hs a w.1) sn t l M1 := by
  obtain ⟨M2, e2, h2, k2, -⟩ := h.copy1 ha
  rw [e2, q_b1_s]
  obtain ⟨M3, e3, k3, r3⟩ := hf M2 h2.1
  rw [e3, q_bd_s]
  have h3 := h2.eq k3 r3
  unfold j_hs
  by_cases c : w.1 < 0
  · rw [if_pos c, if_pos c]
    exact ⟨M3, rfl, h3⟩
  · rw [if_neg c, if_neg c]
    obtain ⟨M4, e4, h4⟩ := h3.rec1 ha (by rw [k3.2 1 (by omega)]; exact k2)
    rw [e4, q_b1_s]
    exact ⟨M4, rfl, h4⟩
theorem j_done {a2 : aSt} {hs2 : List aSt} (ho : jo a sn l) (ha : a_ok a2) {M1 : gMo} (h1 : jc a2 hs2 sn t l μ) (h2 : jm a2 hs2 sn t l M1) : j_inv (g_setM μ M1) := ⟨a2, hs2, sn, t, l, ⟨ha, ho.2.1, ho.2.2⟩, h1, h2⟩
end JACT
theorem f10_buy_e (M : gMo) (p1 p2 p3 p4 : Int32) : f10_buy M p1 p2 p3 p4 = if 0 ≤ p1 ∧ p1 ≤ 3 then if 0 ≤ p2 ∧ p2 ≤ 2 then if 1 ≤ p3 ∧ p3 ≤ 99 then if 1 ≤ p4 ∧ p4 ≤ 99 then
    (g_b1 (f10_copy M 0 1) fun z17 => g_bd (f10_buys z17 p1 p2 p3 p4) fun r20 z21 => if r20 < 0 then some (r20, z21) else g_b1 (f10_record z21 1) fun z25 => some (r20, z25))
    else some (-2, M) else some (-2, M) else some (-1, M) else some (-1, M) := by
  unfold f10_buy
  simp only [f10_in_e, q_b1_s, q_b0, ite_not]
theorem w_buy_bad {a : aSt} {p1 p2 p3 p4 : Int32} (h : ¬ (0 ≤ p1 ∧ p1 ≤ 3) ∨ ¬ (0 ≤ p2 ∧ p2 ≤ 2)) : w_buy a p1 p2 p3 p4 = (-1, a) := by
  unfold w_buy
  by_cases c1 : 0 ≤ p1 ∧ p1 ≤ 3
  · rw [if_pos c1, if_neg (h.resolve_left (not_not_intro c1))]
  · rw [if_neg c1]
theorem w_buy_bad2 {a : aSt} {p1 p2 p3 p4 : Int32} (h1 : 0 ≤ p1 ∧ p1 ≤ 3) (h2 : 0 ≤ p2 ∧ p2 ≤ 2) (h : ¬ (1 ≤ p3 ∧ p3 ≤ 99) ∨ ¬ (1 ≤ p4 ∧ p4 ≤ 99)) : w_buy a p1 p2 p3 p4 = (-2, a) := by
  unfold w_buy
  rw [if_pos h1, if_pos h2]
  by_cases c1 : 1 ≤ p3 ∧ p3 ≤ 99
  · rw [if_pos c1, if_neg (h.resolve_left (not_not_intro c1))]
  · rw [if_neg c1]
theorem j_hs_n (hs : List aSt) (a : aSt) {x : Int32} (h : x < 0) : j_hs hs a x = hs := if_pos h
theorem j_hs_p (hs : List aSt) (a : aSt) {x : Int32} (h : ¬ x < 0) : j_hs hs a x = h_push hs a := if_neg h
theorem j_buy {μ : gMu} (h : j_inv μ) (p1 p2 p3 p4 : Int32) : ∃ r μ1 M1, f9_buy μ p1 p2 p3 p4 = some (r, μ1) ∧ f10_buy μ1.2.2.2.2 p1 p2 p3 p4 = some (r, M1) ∧ j_inv (g_setM μ1 M1) := by
  obtain ⟨a, hs, sn, t, l, ho, h1, h2⟩ := h
  have ha := ho.1
  obtain ⟨μ1, e1, c1, k1⟩ := c_act h1 (fun z => f8_buySheet z p1 p2 p3 p4) (w_buy a p1 p2 p3 p4) (fun z hz => r_buy ha hz p1 p2 p3 p4)
  have hok := w_buy_ok ha p1 p2 p3 p4
  have main : ∃ M1, f10_buy μ.2.2.2.2 p1 p2 p3 p4 = some ((w_buy a p1 p2 p3 p4).1, M1) ∧ jm (w_buy a p1 p2 p3 p4).2 (j_hs hs a (w_buy a p1 p2 p3 p4).1) sn t l M1 := by
    rw [f10_buy_e]
    by_cases d1 : 0 ≤ p1 ∧ p1 ≤ 3
    · by_cases d2 : 0 ≤ p2 ∧ p2 ≤ 2
      · by_cases d3 : 1 ≤ p3 ∧ p3 ≤ 99
        · by_cases d4 : 1 ≤ p4 ∧ p4 ≤ 99
          · rw [if_pos d1, if_pos d2, if_pos d3, if_pos d4]
            exact m_act h2 ha (fun M => f10_buys M p1 p2 p3 p4) _ (fun M hM => m_buys ha hM d1 d2 d3 d4)
          · rw [if_pos d1, if_pos d2, if_pos d3, if_neg d4, w_buy_bad2 d1 d2 (Or.inr d4), j_hs_n hs a i_m2]
            exact ⟨_, rfl, h2⟩
        · rw [if_pos d1, if_pos d2, if_neg d3, w_buy_bad2 d1 d2 (Or.inl d3), j_hs_n hs a i_m2]
          exact ⟨_, rfl, h2⟩
      · rw [if_pos d1, if_neg d2, w_buy_bad (Or.inr d2), j_hs_n hs a i_m1]
        exact ⟨_, rfl, h2⟩
    · rw [if_neg d1, w_buy_bad (Or.inl d1), j_hs_n hs a i_m1]
      exact ⟨_, rfl, h2⟩
  obtain ⟨M1, e2, c2⟩ := main
  exact ⟨_, μ1, M1, e1, by rw [k1]; exact e2, j_done ho hok c1 c2⟩
theorem j_order {μ : gMu} (h : j_inv μ) (p1 p2 p3 p4 : Int32) : ∃ r μ1 M1, f9_order μ p1 p2 p3 p4 = some (r, μ1) ∧ f10_order μ1.2.2.2.2 p1 p2 p3 p4 = some (r, M1) ∧ j_inv (g_setM μ1 M1) := by
  obtain ⟨a, hs, sn, t, l, ho, h1, h2⟩ := h
  have ha := ho.1
  obtain ⟨μ1, e1, c1, k1⟩ := c_act h1 (fun z => f8_takeOrder z p1 p2 p3 p4) (w_order a p1 p2 p3 p4) (fun z hz => r_order hz p1 p2 p3 p4)
  have hok := w_order_ok ha p1 p2 p3 p4
  have main : ∃ M1, f10_order μ.2.2.2.2 p1 p2 p3 p4 = some ((w_order a p1 p2 p3 p4).1, M1) ∧ jm (w_order a p1 p2 p3 p4).2 (j_hs hs a (w_order a p1 p2 p3 p4).1) sn t l M1 := by
    unfold f10_order
    simp only [f10_in_e, q_b1_s, q_b0, ite_not]
    by_cases d1 : 0 ≤ p1 ∧ p1 ≤ 2
    · by_cases d2 : 1 ≤ p2 ∧ p2 ≤ 99
      · by_cases d3 : 1 ≤ p3 ∧ p3 ≤ 99
        · by_cases d4 : 0 ≤ p4 ∧ p4 ≤ 999
          · rw [if_pos d1, if_pos d2, if_pos d3, if_pos d4]
            exact m_act h2 ha (fun M => f10_orders M p1 p2 p3 p4) _ (fun M hM => m_orders ha hM d1 d2 d3 d4)
          · have e : w_order a p1 p2 p3 p4 = (-2, a) := by unfold w_order; rw [if_pos d1, if_pos d2, if_pos d3, if_neg d4]
            rw [if_pos d1, if_pos d2, if_pos d3, if_neg d4, e, j_hs_n hs a i_m2]
            exact ⟨_, rfl, h2⟩
        · have e : w_order a p1 p2 p3 p4 = (-2, a) := by unfold w_order; rw [if_pos d1, if_pos d2, if_neg d3]
          rw [if_pos d1, if_pos d2, if_neg d3, e, j_hs_n hs a i_m2]
          exact ⟨_, rfl, h2⟩
      · have e : w_order a p1 p2 p3 p4 = (-2, a) := by unfold w_order; rw [if_pos d1, if_neg d2]
        rw [if_pos d1, if_neg d2, e, j_hs_n hs a i_m2]
        exact ⟨_, rfl, h2⟩
    · have e : w_order a p1 p2 p3 p4 = (-1, a) := by unfold w_order; rw [if_neg d1]
      rw [if_neg d1, e, j_hs_n hs a i_m1]
      exact ⟨_, rfl, h2⟩
  obtain ⟨M1, e2, c2⟩ := main
  exact ⟨_, μ1, M1, e1, by rw [k1]; exact e2, j_done ho hok c1 c2⟩
theorem j_pass {μ : gMu} (h : j_inv μ) (p1 : Int32) : ∃ r μ1 M1, f9_pass μ p1 = some (r, μ1) ∧ f10_pass μ1.2.2.2.2 p1 = some (r, M1) ∧ j_inv (g_setM μ1 M1) := by
  obtain ⟨a, hs, sn, t, l, ho, h1, h2⟩ := h
  have ha := ho.1
  obtain ⟨μ1, e1, c1, k1⟩ := c_act h1 (fun z => f8_passDays z p1) (w_pass a p1) (fun z hz => r_pass hz p1)
  have hok := w_pass_ok ha p1
  have main : ∃ M1, f10_pass μ.2.2.2.2 p1 = some ((w_pass a p1).1, M1) ∧ jm (w_pass a p1).2 (j_hs hs a (w_pass a p1).1) sn t l M1 := by
    unfold f10_pass
    simp only [f10_in_e, q_b1_s, q_b0, ite_not]
    by_cases d1 : 1 ≤ p1 ∧ p1 ≤ 99
    · rw [if_pos d1]
      exact m_act h2 ha (fun M => f10_passes M p1) _ (fun M hM => m_passes ha hM d1)
    · have e : w_pass a p1 = (-2, a) := by unfold w_pass; rw [if_neg d1]
      rw [if_neg d1, e, j_hs_n hs a i_m2]
      exact ⟨_, rfl, h2⟩
  obtain ⟨M1, e2, c2⟩ := main
  exact ⟨_, μ1, M1, e1, by rw [k1]; exact e2, j_done ho hok c1 c2⟩
