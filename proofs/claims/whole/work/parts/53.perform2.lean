/-! BOTH SYSTEMS: perform; the start -/
theorem r_c_ex {b : aSt} (hb : a_ok b) : ∃ z, r_c b z := by
  refine ⟨(fun k => if k = 13 then nI b.2.2.length else b.1 k, fun k => (b.2.1 (k / 8))[k % 8]?, fun k => b.2.2[k]?), fun k hk => ?_, ?_, fun r p hr hp => ?_, hb.2.2.1, fun k _ => rfl⟩
  · show (if k = 13 then _ else b.1 k) = b.1 k
    rw [if_neg (by omega)]
  · show (if 13 = 13 then nI b.2.2.length else b.1 13) = _
    rw [if_pos rfl]
  · show (b.2.1 ((8 * r + p) / 8))[(8 * r + p) % 8]? = _
    rw [show (8 * r + p) / 8 = r by omega, show (8 * r + p) % 8 = p by omega]
theorem w_cm_ok {b : aSt} (hb : a_ok b) (c : gCm) : a_ok (w_cm b c).2 := by
  unfold w_cm
  split
  · obtain ⟨z, hz⟩ := r_c_ex hb
    obtain ⟨-, -, -, h⟩ := r_plan hb hz (nI c.2.1)
    exact h
  · split
    · exact w_pass_ok hb _
    · split
      · exact w_buy_ok hb _ _ _ _
      · exact w_order_ok hb _ _ _ _
theorem i_fault {q : Nat} (hq : q ≤ 60) : ¬ (0 : Int32) ≤ -100 - nI q := by
  rw [Int32.le_iff_toInt_le, Int32.toInt_sub, nI_toInt (by omega)]
  have h1 : (0 : Int32).toInt = 0 := by decide
  have h2 : (-100 : Int32).toInt = -100 := by decide
  rw [h1, h2, Int.bmod_eq_of_le (by omega) (by omega)]
  omega
theorem j_perform {μ : gMu} (h : j_inv μ) : ∃ r μ1 M1, f9_perform μ = some (r, μ1) ∧ f10_perform μ1.2.2.2.2 = some (r, M1) ∧ j_inv (g_setM μ1 M1) := by
  obtain ⟨a, hs, sn, t, l, ho, h1, h2⟩ := h
  have ha := ho.1
  have hl := ho.2.2
  obtain ⟨τ2, e1, k1, k2⟩ := r_all (t := t) hl h1.2.2.2.1 h1.2.2.2.2
  have hj2 : jc a hs sn t l (g_setT μ τ2) := ⟨h1.1, h1.2.1, h1.2.2.1, fun k hk => by show τ2.1 k = _; rw [k1]; exact h1.2.2.2.1 k hk, k2⟩
  obtain ⟨f1, f2⟩ := p_run_f t l 21 0 (Nat.zero_le _)
  have y0 : y_at t l 0 (g_mi μ.2.2.2.2 8 0) := ⟨h2.2.2.2.1, (va_up_ne (k := 8) (j := 6) μ.2.2.2.2.2 0 (by omega)).trans h2.2.2.2.2, va_up_at μ.2.2.2.2.2 8 0⟩
  obtain ⟨M2, e2, y2, q2⟩ := m_run hl 21 70 0 0 (g_mi μ.2.2.2.2 8 0) y0 (Nat.zero_le _) (by omega) (by omega)
  have q2' := (y_k.up μ.2.2.2.2 0).tr q2
  have hm2 : jm a hs sn t l M2 := by
    obtain ⟨g1, g2, g3, g4, g5⟩ := h2
    exact ⟨by rw [q2'.1]; exact g1, ⟨by rw [q2'.2 5 (by omega)]; exact g2.1, g2.2.1, fun i x hx => by rw [q2'.1]; exact g2.2.2 i x hx⟩, by rw [q2'.1, q2'.2 7 (by omega)]; exact g3, by rw [q2'.1]; exact g4, by rw [q2'.2 6 (by omega)]; exact g5⟩
  unfold f9_perform
  rw [e1, q_bd_s, q_let]
  cases hr : p_run t l 21 0 with
  | mk y q =>
  rw [hr] at f1 f2 e2 y2
  cases y with
  | none =>
    have hq : q ≤ l := f1
    rw [show p_an 0 ((none : Option (List gCm)), q) = -100 - nI q from rfl, if_neg (i_fault (by omega))]
    refine ⟨_, g_setT μ τ2, M2, rfl, ?_, ⟨a, hs, sn, t, l, ho, hj2, hm2⟩⟩
    show f10_perform μ.2.2.2.2 = _
    unfold f10_perform f10_commands
    rw [q_let, ← nI_0]
    have e2' : f10_commands_7 70 (g_mi μ.2.2.2.2 8 (nI 0)) (nI 0) = some (0, M2) := e2
    rw [e2', q_bd_s, if_neg (show ¬ ¬ (0 : Int32) = nI 0 by rw [nI_0]; decide), y2.2.2]
  | some cs =>
    have hlen := f2 cs rfl
    have hlen1 := (p_run_len t l 21 0 cs (by rw [hr])).1
    have hN : cs.length ≤ 20 := by omega
    rw [show p_an 0 (some cs, q) = nI cs.length from congrArg nI (Nat.zero_add _), if_pos (nI_pos' (by omega))]
    obtain ⟨z1, y1, x1⟩ := r_copy h1.1 (μ.1 1)
    rw [show (g_setT μ τ2).1 1 = μ.1 1 from rfl, show (g_setT μ τ2).1 0 = μ.1 0 from rfl, y1, q_b1_s, q_let]
    have er : f0_rewind (g_setS (g_setT μ τ2) 1 z1).2.2.1 = some (g_ti (g_ti τ2 2 0) 3 0) := rfl
    rw [er, q_b1_s, q_let]
    have hj3 : jc a hs sn t l (g_setT (g_setS (g_setT μ τ2) 1 z1) (g_ti (g_ti τ2 2 0) 3 0)) := by
      obtain ⟨g1, g2, g3, g4, g5⟩ := hj2.set1 z1
      exact ⟨g1, g2, g3, g4, g5⟩
    have hx : x_at t l 0 0 (g_ti (g_ti τ2 2 0) 3 0) := ⟨hj2.2.2.2.1, hj2.2.2.2.2, rfl, rfl⟩
    have hrd : f0_readCommand (g_ti (g_ti τ2 2 0) 3 0) = f0_readCommand_13 (g_ti (g_ti τ2 2 0) 3 0) := by
      unfold f0_readCommand
      rw [hx.2.2.1, if_pos (by rw [nI_0]; exact Int32.le_refl 0)]
    obtain ⟨μ4, e4, c4, m4, ok4⟩ := r_go (a0 := a) (N := cs.length) hl hN ha cs 21 21 0 0 a (g_setT (g_setS (g_setT μ τ2) 1 z1) (g_ti (g_ti τ2 2 0) 3 0)) (by omega) (by omega) ha hj3 x1 (fun _ => ⟨_, hrd, hx, Nat.zero_le _, by rw [hr]⟩)
    rw [nI_0] at e4
    rw [e4]
    obtain ⟨M3, e5, c5, r5, k5⟩ := hm2.copy1 ha
    have hm6 : jm a hs sn t l (g_mi M3 8 0) := by
      obtain ⟨g1, g2, g3, g4, g5⟩ := c5
      exact ⟨g1, ⟨(va_up_ne (k := 8) (j := 5) M3.2 0 (by omega)).trans g2.1, g2.2.1, g2.2.2⟩, by
        show j_s sn (va_up M3.2 8 0 7) _
        rw [va_up_ne _ _ (by omega)]; exact g3, g4, (va_up_ne (k := 8) (j := 6) M3.2 0 (by omega)).trans g5⟩
    have y6 : y_at t l 0 (g_mi M3 8 0) := ⟨hm6.2.2.2.1, hm6.2.2.2.2, va_up_at M3.2 8 0⟩
    obtain ⟨M7, e7, c7⟩ := m_go (a0 := a) (N := cs.length) hl hN ha cs 70 21 0 0 a (g_mi M3 8 0) (by omega) (by omega) ha hm6 r5 (fun _ => ⟨y6, Nat.zero_le _, by rw [hr]⟩) (fun c _ _ b hb => w_cm_ok hb c)
    refine ⟨_, μ4, M7, rfl, ?_, ⟨_, _, sn, t, l, ⟨ok4, ho.2.1, ho.2.2⟩, c4, c7⟩⟩
    rw [m4]
    show f10_perform μ.2.2.2.2 = _
    unfold f10_perform f10_commands
    rw [q_let, ← nI_0]
    have e2' : f10_commands_7 70 (g_mi μ.2.2.2.2 8 (nI 0)) (nI 0) = some (nI (0 + cs.length), M2) := e2
    rw [e2', q_bd_s, Nat.zero_add, if_pos (show ¬ nI cs.length = nI 0 from fun z => by rw [nI_eq (by omega) (by omega)] at z; omega), e5, q_b1_s, q_let, nI_0]
    rw [nI_0] at e7
    exact e7
/-! the start -/
def a_0 : aSt := (fun k => if k = 0 then 1 else if k = 1 then 10 else if k = 4 then 1 else 0, fun _ => [], [])
theorem a_0_ok : a_ok a_0 := by
  refine ⟨⟨⟨1, by omega, rfl⟩, ⟨10, by omega, by omega, rfl⟩, Or.inl rfl, ⟨0, by omega, rfl⟩, Or.inr rfl, ⟨0, by omega, rfl⟩⟩, ⟨0, rfl, by omega, fun r _ => Nat.zero_le _, fun r r' p p' x x' _ _ h _ _ => ?_, fun r p s _ h => ?_⟩, by show 0 ≤ 12; omega, fun k o h => ?_⟩
  · cases h
  · cases h
  · cases h
