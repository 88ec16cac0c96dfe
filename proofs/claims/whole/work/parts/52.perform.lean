/-! BOTH SYSTEMS: the commands of the text -/
noncomputable def w_cm (a : aSt) (c : gCm) : Int32 × aSt :=
  if c.1 = 0 then w_plan a (nI c.2.1) else if c.1 = 1 then w_pass a (nI c.2.1) else if c.1 = 2 then w_buy a (nI c.2.1) (nI c.2.2.1) (nI c.2.2.2.1) (nI c.2.2.2.2) else w_order a (nI c.2.1) (nI c.2.2.1) (nI c.2.2.2.1) (nI c.2.2.2.2)
noncomputable def w_go : List gCm → aSt → Int32 × aSt
  | [], a => (0, a)
  | c :: cs, a => if (w_cm a c).1 = -3 then (-3, a) else w_go cs (w_cm a c).2
theorem late_le (os : List gOd) {d d2 : Int32} (h : d ≤ d2) : os.countP (o_lt d) ≤ os.countP (o_lt d2) := by
  refine List.countP_mono_left (fun o _ q => ?_)
  unfold o_lt at q ⊢
  simp only [decide_eq_true_eq] at q ⊢
  rcases q with q | q
  · exact Or.inl q
  · exact Or.inr ⟨q.1, fun z => q.2 (Int32.le_trans h z)⟩
theorem nI_rng {k lo hi : Nat} (h1 : lo ≤ k) (h2 : k ≤ hi) (hhi : hi < 2 ^ 31) : nI lo ≤ nI k ∧ nI k ≤ nI hi := ⟨(nI_leI (by omega) (by omega)).mpr h1, (nI_leI (by omega) (by omega)).mpr h2⟩
theorem w_pass_an {a : aSt} (ha : a_ok a) (n : Nat) (h1 : 1 ≤ n) (h2 : n ≤ 99) : (w_pass a (nI n)).1 = -3 ∨ ∃ k, k < 2 ^ 31 ∧ (w_pass a (nI n)).1 = nI k := by
  unfold w_pass
  rw [if_pos (show (1 : Int32) ≤ nI n ∧ nI n ≤ 99 from nI_rng (lo := 1) (hi := 99) h1 h2 (by omega))]
  by_cases c : a.1 5 + nI n ≤ 999
  · rw [if_pos c]
    right
    obtain ⟨-, -, -, -, -, d, hd, ed⟩ := ha.1
    have hle : a.1 5 ≤ a.1 5 + nI n := by
      rw [ed, nI_add]
      exact (nI_leI (by omega) (by omega)).mpr (by omega)
    have hc := late_le a.2.2 hle
    have := List.countP_le_length (p := o_lt (a.1 5 + nI n)) (l := a.2.2)
    have := ha.2.2.1
    exact ⟨_, by omega, pk_sub hc⟩
  · rw [if_neg c]
    exact Or.inl rfl
theorem w_buy_an {a : aSt} (ha : a_ok a) {r q w y : Int32} (h1 : 0 ≤ r ∧ r ≤ 3) (h2 : 0 ≤ q ∧ q ≤ 2) (h3 : 1 ≤ w ∧ w ≤ 99) (h4 : 1 ≤ y ∧ y ≤ 99) : (w_buy a r q w y).1 = -3 ∨ ∃ k, k < 2 ^ 31 ∧ (w_buy a r q w y).1 = nI k := by
  obtain ⟨m, hm2, hk4⟩ := ha.2.1
  have := hk4.1
  unfold w_buy
  rw [if_pos h1, if_pos h2, if_pos h3, if_pos h4]
  split
  · exact Or.inr ⟨m, by omega, hm2⟩
  · exact Or.inl rfl
theorem w_order_an {a : aSt} (ha : a_ok a) {q w y d : Int32} (h1 : 0 ≤ q ∧ q ≤ 2) (h2 : 1 ≤ w ∧ w ≤ 99) (h3 : 1 ≤ y ∧ y ≤ 99) (h4 : 0 ≤ d ∧ d ≤ 999) : (w_order a q w y d).1 = -3 ∨ ∃ k, k < 2 ^ 31 ∧ (w_order a q w y d).1 = nI k := by
  have := ha.2.2.1
  unfold w_order
  rw [if_pos h1, if_pos h2, if_pos h3, if_pos h4]
  split
  · exact Or.inr ⟨a.2.2.length, by omega, rfl⟩
  · exact Or.inl rfl
theorem w_plan_an {a : aSt} {c : Int32} (hc : 0 ≤ c ∧ c ≤ 2) : (w_plan a c).1 = -5 ∨ ¬ (w_plan a c).1 < 0 := by
  rw [w_plan_e, if_pos hc]
  split
  · exact Or.inl rfl
  · exact Or.inr (w_does_nn a c)
/-- the class does a command that has been read -/
theorem r_cm {a : aSt} (ha : a_ok a) {μ : gMu} (hz : r_c a (μ.1 0)) {c : gCm} (hr : c_rng c) (hc : c_rd c μ.2.2.1) : ∃ z2, f9_runCommand μ = some ((w_cm a c).1, g_setS μ 0 z2) ∧ r_c (w_cm a c).2 z2 ∧ a_ok (w_cm a c).2 := by
  unfold f9_runCommand w_cm
  rw [q_let]
  rcases hc with ⟨k, e4, e5⟩ | ⟨k, e4, e5⟩ | ⟨k, e4, e5, e6, e7, e8⟩ | ⟨k, e4, e5, e6, e7, e8⟩
  · rw [e4, if_neg (by decide), if_pos rfl, e5, k, if_pos rfl]
    obtain ⟨z2, q1, q2, q3⟩ := r_plan ha hz (nI c.2.1)
    rw [q1, q_bd_s, q_let]
    exact ⟨z2, rfl, q2, q3⟩
  · rw [e4, if_neg (by decide), if_neg (by decide), if_neg (by decide), e5, k, if_neg (by decide), if_pos rfl]
    obtain ⟨z2, q1, q2⟩ := r_pass hz (nI c.2.1)
    rw [q1, q_bd_s, q_let]
    exact ⟨z2, rfl, q2, w_pass_ok ha _⟩
  · rw [e4, if_neg (by decide), if_neg (by decide), if_pos rfl, e5, e6, e7, e8, k, if_neg (by decide), if_neg (by decide), if_pos rfl]
    obtain ⟨z2, q1, q2⟩ := r_buy ha hz (nI c.2.1) (nI c.2.2.1) (nI c.2.2.2.1) (nI c.2.2.2.2)
    rw [q1, q_bd_s, q_let]
    exact ⟨z2, rfl, q2, w_buy_ok ha _ _ _ _⟩
  · rw [e4, if_pos rfl, e5, e6, e7, e8, k, if_neg (by decide), if_neg (by decide), if_neg (by decide)]
    obtain ⟨z2, q1, q2⟩ := r_order hz (nI c.2.1) (nI c.2.2.1) (nI c.2.2.2.1) (nI c.2.2.2.2)
    rw [q1, q_bd_s, q_let]
    exact ⟨z2, rfl, q2, w_order_ok ha _ _ _ _⟩
/-- whether a command fails, and what the reference answers -/
theorem m_cm {a : aSt} (ha : a_ok a) {M : gMo} (hm : r_m a (M.1 0)) {c : gCm} (hr : c_rng c) : ∃ M2 v, m_do M c = some (v, M2) ∧ m_eq M M2 ∧ r_m (w_cm a c).2 (M2.1 0) ∧ (((w_cm a c).1 = -3 ∧ v = -3) ∨ (¬ (w_cm a c).1 = -3 ∧ 0 ≤ v ∧ (0 ≤ (w_cm a c).1 ∨ (w_cm a c).1 = -5))) := by
  have key : ∀ (x : Int32), (x = -3 ∨ ∃ k, k < 2 ^ 31 ∧ x = nI k) → ((x = -3 ∧ x = -3) ∨ (¬ x = -3 ∧ 0 ≤ x ∧ (0 ≤ x ∨ x = -5))) := by
    intro x h
    rcases h with h | ⟨k, hk, h⟩
    · exact Or.inl ⟨h, h⟩
    · refine Or.inr ⟨fun q => ?_, ?_, Or.inl ?_⟩
      · rw [h] at q
        exact nI_pos hk (by rw [q]; decide)
      · rw [h]; exact nI_pos' hk
      · rw [h]; exact nI_pos' hk
  unfold m_do w_cm
  rcases hr with ⟨k, h1⟩ | ⟨k, h1, h2⟩ | ⟨k, h1, h2, h3, h4, h5⟩ | ⟨k, h1, h2, h3, h4⟩
  · rw [k, if_pos rfl, if_pos rfl]
    obtain ⟨M2, e1, e2, e3⟩ := m_plans ha hm (nI c.2.1)
    have hc : 0 ≤ nI c.2.1 ∧ nI c.2.1 ≤ 2 := nI_rng (lo := 0) (hi := 2) (Nat.zero_le _) h1 (by omega)
    refine ⟨M2, _, e1, e2, by rw [(w_plan_does (a := a) hc).1]; exact e3, Or.inr ⟨fun q => ?_, Int32.not_lt.mp (w_does_nn a _), ?_⟩⟩
    · rcases w_plan_an (a := a) hc with z | z
      · rw [z] at q; exact absurd q (by decide)
      · rw [q] at z; exact z (by decide)
    · rcases w_plan_an (a := a) hc with z | z
      · exact Or.inr z
      · exact Or.inl (Int32.not_lt.mp z)
  · rw [k, if_neg (by decide), if_pos rfl, if_neg (by decide), if_pos rfl]
    obtain ⟨M2, e1, e2, e3⟩ := m_passes ha hm (n := nI c.2.1) (nI_rng (lo := 1) (hi := 99) h1 h2 (by omega))
    exact ⟨M2, _, e1, e2, e3, key _ (w_pass_an ha _ h1 h2)⟩
  · rw [k, if_neg (by decide), if_neg (by decide), if_pos rfl, if_neg (by decide), if_neg (by decide), if_pos rfl]
    have b1 : 0 ≤ nI c.2.1 ∧ nI c.2.1 ≤ 3 := nI_rng (lo := 0) (hi := 3) (Nat.zero_le _) h1 (by omega)
    have b2 : 0 ≤ nI c.2.2.1 ∧ nI c.2.2.1 ≤ 2 := nI_rng (lo := 0) (hi := 2) (Nat.zero_le _) h2 (by omega)
    have b3 : 1 ≤ nI c.2.2.2.1 ∧ nI c.2.2.2.1 ≤ 99 := nI_rng (lo := 1) (hi := 99) h3.1 h3.2 (by omega)
    have b4 : 1 ≤ nI c.2.2.2.2 ∧ nI c.2.2.2.2 ≤ 99 := nI_rng (lo := 1) (hi := 99) h4 h5 (by omega)
    obtain ⟨M2, e1, e2, e3⟩ := m_buys ha hm b1 b2 b3 b4
    exact ⟨M2, _, e1, e2, e3, key _ (w_buy_an ha b1 b2 b3 b4)⟩
  · rw [k, if_neg (by decide), if_neg (by decide), if_neg (by decide), if_neg (by decide), if_neg (by decide), if_neg (by decide)]
    have b1 : 0 ≤ nI c.2.1 ∧ nI c.2.1 ≤ 2 := nI_rng (lo := 0) (hi := 2) (Nat.zero_le _) h1 (by omega)
    have b2 : 1 ≤ nI c.2.2.1 ∧ nI c.2.2.1 ≤ 99 := nI_rng (lo := 1) (hi := 99) h2.1 h2.2 (by omega)
    have b3 : 1 ≤ nI c.2.2.2.1 ∧ nI c.2.2.2.1 ≤ 99 := nI_rng (lo := 1) (hi := 99) h3.1 h3.2 (by omega)
    have b4 : 0 ≤ nI c.2.2.2.2 ∧ nI c.2.2.2.2 ≤ 999 := nI_rng (lo := 0) (hi := 999) (Nat.zero_le _) h4 (by omega)
    obtain ⟨M2, e1, e2, e3⟩ := m_orders ha hm b1 b2 b3 b4
    exact ⟨M2, _, e1, e2, e3, key _ (w_order_an ha b1 b2 b3 b4)⟩
theorem p_run_c {t : Nat → Int32} {l e p : Nat} {c : gCm} {cs : List gCm} (h : (p_run t l e p).1 = some (c :: cs)) : ∃ e2 q, p_cmd t l p = (some c, q) ∧ ((l ≤ q ∧ cs = []) ∨ (¬ l ≤ q ∧ t q = 59 ∧ (p_run t l e2 (q + 1)).1 = some cs)) := by
  cases e with
  | zero => cases h
  | succ e =>
    cases hc : p_cmd t l p with
    | mk y q =>
    cases y with
    | none => rw [p_run_n hc] at h; cases h
    | some c2 =>
      rw [p_run_s hc] at h
      split at h
      · next c1 => cases h; exact ⟨e, q, rfl, Or.inl ⟨c1, rfl⟩⟩
      · next c1 =>
        split at h
        · next c3 =>
          cases hr : (p_run t l e (q + 1)).1 with
          | none => rw [hr] at h; cases h
          | some ds =>
            rw [hr] at h
            cases h
            exact ⟨e, q, rfl, Or.inr ⟨c1, c3, hr⟩⟩
        · cases h
theorem p_run_f (t : Nat → Int32) (l : Nat) : ∀ (e p : Nat), p ≤ l → (p_run t l e p).2 ≤ l ∧ ∀ cs, (p_run t l e p).1 = some cs → p + 3 * cs.length ≤ l + 1 := by
  intro e
  induction e with
  | zero => intro p hp; exact ⟨hp, fun cs q => by cases q⟩
  | succ e ih =>
    intro p hp
    obtain ⟨f1, f2, f3⟩ := p_cmd_f t hp
    cases hc : p_cmd t l p with
    | mk y q =>
    rw [hc] at f1 f2 f3
    cases y with
    | none => rw [p_run_n hc]; exact ⟨f2, fun cs q => by cases q⟩
    | some c =>
      have fq : p + 2 ≤ q := (f3 c rfl).2
      have ql : q ≤ l := f2
      rw [p_run_s hc]
      split
      · refine ⟨ql, fun cs z => ?_⟩
        cases z
        show p + 3 * 1 ≤ l + 1
        omega
      · split
        · obtain ⟨i1, i2⟩ := ih (q + 1) (by omega)
          refine ⟨i1, fun cs z => ?_⟩
          cases hr : (p_run t l e (q + 1)).1 with
          | none => rw [hr] at z; cases z
          | some ds =>
            rw [hr] at z
            cases z
            have := i2 ds hr
            rw [List.length_cons]
            omega
        · exact ⟨ql, fun cs q => by cases q⟩
theorem jc.set0' {a a2 : aSt} {hs : List aSt} {sn : Option aSt} {t : Nat → Int32} {l : Nat} {μ : gMu} (h : jc a hs sn t l μ) {z : gSt} (hz : r_c a2 z) : jc a2 hs sn t l (g_setS μ 0 z) := by
  obtain ⟨h1, ⟨g1, g2, g3, g4, g5⟩, h3, h4, h5⟩ := h
  refine ⟨hz, ⟨g1, g2, g3, g4, fun i x hx => ?_⟩, h3, h4, h5⟩
  have hi : i < hs.length := (List.getElem?_eq_some_iff.mp hx).1
  have := g3 i (by omega)
  show r_c x (va_up μ.1 0 z (μ.2.1.1 i))
  rw [va_up_ne _ _ (by omega)]
  exact g5 i x hx
section JGO
variable {a0 : aSt} {hs : List aSt} {sn : Option aSt} {t : Nat → Int32} {l N : Nat}
/-- what all the commands make, or the state before them -/
noncomputable def w_ed (a0 : aSt) (hs : List aSt) (x : Int32 × aSt) : aSt × List aSt := if x.1 = -3 then (a0, hs) else (x.2, h_push hs a0)
theorem w_go_s {c : gCm} {cs : List gCm} {a : aSt} (h : ¬ (w_cm a c).1 = -3) : w_go (c :: cs) a = w_go cs (w_cm a c).2 := by
  rw [w_go, if_neg h]
theorem w_go_n {c : gCm} {cs : List gCm} {a : aSt} (h : (w_cm a c).1 = -3) : w_go (c :: cs) a = (-3, a) := by
  rw [w_go, if_pos h]
theorem r_go (hl : l ≤ 60) (hN : N ≤ 20) (ha0 : a_ok a0) : ∀ (cs : List gCm) (n e p i : Nat) (a : aSt) (μ : gMu), i + cs.length = N → cs.length < n → a_ok a → jc a hs sn t l μ → r_c a0 (μ.1 1) → (cs ≠ [] → ∃ τ1, f0_readCommand μ.2.2.1 = f0_readCommand_13 τ1 ∧ x_at t l p 0 τ1 ∧ p ≤ l ∧ (p_run t l e p).1 = some cs) →
    ∃ μ2, f9_perform_34 n μ (nI N) (nI i) = some (if (w_go cs a).1 = -3 then -3 else nI N, μ2) ∧ jc (w_ed a0 hs (w_go cs a)).1 (w_ed a0 hs (w_go cs a)).2 sn t l μ2 ∧ μ2.2.2.2.2 = μ.2.2.2.2 ∧ a_ok (w_ed a0 hs (w_go cs a)).1 := by
  intro cs
  induction cs with
  | nil =>
    intro n e p i a μ hi hn ha hj h0 _
    obtain ⟨n, rfl⟩ : ∃ k, n = k + 1 := ⟨n - 1, by simp at hn; omega⟩
    simp only [List.length_nil, Nat.add_zero] at hi
    rw [f9_perform_34, if_pos ((nI_leI (by omega) (by omega)).mpr (by omega))]
    unfold f9_recorded w_ed
    rw [if_neg (nI_pos (by omega)), show w_go [] a = (0, a) from rfl, if_neg (show ¬ (0 : Int32) = -3 by decide), if_neg (show ¬ (0 : Int32) = -3 by decide)]
    obtain ⟨h1, h2, h3, h4, h5⟩ := hj
    obtain ⟨μ2, e2, c2, k2, m2⟩ := r_record h2 h0
    rw [e2, q_b1_s, q_bd_s]
    refine ⟨μ2, rfl, ⟨?_, c2, ?_, ?_, ?_⟩, ?_, ha⟩
    · rw [k2 0 (by omega)]; exact h1
    · rw [m2, k2 2 (by omega)]; exact h3
    · rw [m2]; exact h4
    · rw [m2]; exact h5
    · rw [m2]
  | cons c cs ih =>
    intro n e p i a μ hi hn ha hj h0 hp
    obtain ⟨n, rfl⟩ : ∃ k, n = k + 1 := ⟨n - 1, by omega⟩
    rw [List.length_cons] at hi hn
    obtain ⟨τ1, e1, x1, pl, pr⟩ := hp (fun q => by cases q)
    obtain ⟨e', q, hcm, hrest⟩ := p_run_c pr
    obtain ⟨f1, f2, f3⟩ := p_cmd_f t pl
    obtain ⟨τ2, e2, x2, k2, r2⟩ := r_cmd x1 hl pl
    rw [hcm] at f1 f2 f3 x2 r2
    have hrd := r2 c rfl
    obtain ⟨hrng, fq⟩ := f3 c rfl
    change x_at t l q 0 τ2 at x2
    have ql : q ≤ l := f2
    have fq2 : p + 2 ≤ q := fq
    rw [f9_perform_34, if_neg (by rw [nI_leI (by omega) (by omega)]; omega), e1, e2, q_b1_s, q_let, show nI i + 1 = nI (i + 1) from nI_add i 1]
    have hjT : jc a hs sn t l (g_setT μ τ2) := ⟨hj.1, hj.2.1, hj.2.2.1, x2.1, x2.2.1⟩
    obtain ⟨z3, e3, c3, ok3⟩ := r_cm (μ := g_setT μ τ2) ha hj.1 hrng hrd
    rw [e3, q_bd_s]
    have hj3 : jc (w_cm a c).2 hs sn t l (g_setS (g_setT μ τ2) 0 z3) := by
      obtain ⟨h1, ⟨g1, g2, g3, g4, g5⟩, h3, h4, h5⟩ := hjT
      refine ⟨c3, ⟨g1, g2, g3, g4, fun i x hx => ?_⟩, h3, h4, h5⟩
      have hi : i < hs.length := (List.getElem?_eq_some_iff.mp hx).1
      have := g3 i (by omega)
      change 3 ≤ μ.2.1.1 i ∧ μ.2.1.1 i < 7 at this
      show r_c x (va_up μ.1 0 z3 (μ.2.1.1 i))
      rw [va_up_ne _ _ (by omega)]
      exact g5 i x hx
    have h03 : r_c a0 ((g_setS (g_setT μ τ2) 0 z3).1 1) := h0
    have next : ¬ (w_cm a c).1 = -3 → ∃ μ2, f9_perform_34 n (g_setS (g_setT μ τ2) 0 z3) (nI N) (nI (i + 1)) = some (if (w_go (c :: cs) a).1 = -3 then -3 else nI N, μ2) ∧ jc (w_ed a0 hs (w_go (c :: cs) a)).1 (w_ed a0 hs (w_go (c :: cs) a)).2 sn t l μ2 ∧ μ2.2.2.2.2 = μ.2.2.2.2 ∧ a_ok (w_ed a0 hs (w_go (c :: cs) a)).1 := by
      intro hne
      rw [w_go_s hne]
      refine ih n e' (q + 1) (i + 1) (w_cm a c).2 (g_setS (g_setT μ τ2) 0 z3) (by omega) (by omega) ok3 hj3 h03 (fun hcs => ?_)
      rcases hrest with ⟨-, z⟩ | ⟨w1, w2, w3⟩
      · exact absurd z hcs
      · obtain ⟨τ3, e4, x4, k4⟩ := r_sep x2 hl (by omega) (by omega)
        rw [if_pos w2, if_pos w2] at x4
        exact ⟨τ3, e4, x4, by omega, w3⟩
    have ans : (w_cm a c).1 = -3 ∨ (¬ (w_cm a c).1 = -3 ∧ (0 ≤ (w_cm a c).1 ∨ (w_cm a c).1 = -5)) := by
      unfold w_cm
      have key : ∀ (x : Int32), (x = -3 ∨ ∃ k, k < 2 ^ 31 ∧ x = nI k) → (x = -3 ∨ (¬ x = -3 ∧ (0 ≤ x ∨ x = -5))) := by
        intro x h
        rcases h with h | ⟨k, hk, h⟩
        · exact Or.inl h
        · refine Or.inr ⟨fun q => ?_, Or.inl ?_⟩
          · rw [h] at q
            exact nI_pos hk (by rw [q]; decide)
          · rw [h]; exact nI_pos' hk
      rcases hrng with ⟨k, h1⟩ | ⟨k, h1, h2⟩ | ⟨k, h1, h2, h3, h4, h5⟩ | ⟨k, h1, h2, h3, h4⟩
      · rw [if_pos k]
        rcases w_plan_an (a := a) (c := nI c.2.1) (nI_rng (lo := 0) (hi := 2) (Nat.zero_le _) h1 (by omega)) with z | z
        · exact Or.inr ⟨by rw [z]; decide, Or.inr z⟩
        · exact Or.inr ⟨fun q => z (by rw [q]; decide), Or.inl (Int32.not_lt.mp z)⟩
      · rw [if_neg (by omega), if_pos k]
        exact key _ (w_pass_an ha _ h1 h2)
      · rw [if_neg (by omega), if_neg (by omega), if_pos k]
        exact key _ (w_buy_an ha (nI_rng (lo := 0) (hi := 3) (Nat.zero_le _) h1 (by omega)) (nI_rng (lo := 0) (hi := 2) (Nat.zero_le _) h2 (by omega)) (nI_rng (lo := 1) (hi := 99) h3.1 h3.2 (by omega)) (nI_rng (lo := 1) (hi := 99) h4 h5 (by omega)))
      · rw [if_neg (by omega), if_neg (by omega), if_neg (by omega)]
        exact key _ (w_order_an ha (nI_rng (lo := 0) (hi := 2) (Nat.zero_le _) h1 (by omega)) (nI_rng (lo := 1) (hi := 99) h2.1 h2.2 (by omega)) (nI_rng (lo := 1) (hi := 99) h3.1 h3.2 (by omega)) (nI_rng (lo := 0) (hi := 999) (Nat.zero_le _) h4 (by omega)))
    rcases ans with b | ⟨b1, b2⟩
    · rw [w_go_n b, b, if_neg (by decide), if_neg (by decide), if_pos rfl]
      obtain ⟨z4, e4, x4⟩ := r_copy h03 ((g_setS (g_setT μ τ2) 0 z3).1 0)
      rw [e4, q_b1_s, q_let]
      refine ⟨_, rfl, ?_, rfl, ?_⟩
      · unfold w_ed
        rw [if_pos rfl]
        exact hj3.set0' x4
      · unfold w_ed
        rw [if_pos rfl]
        exact ha0
    · rcases b2 with b2 | b2
      · rw [if_pos b2]
        exact next b1
      · rw [if_neg (by rw [b2]; decide), if_pos b2]
        exact next b1
theorem m_go (hl : l ≤ 60) (hN : N ≤ 20) (ha0 : a_ok a0) : ∀ (cs : List gCm) (n e p i : Nat) (a : aSt) (M : gMo), i + cs.length = N → cs.length < n → a_ok a → jm a hs sn t l M → r_m a0 (M.1 1) → (cs ≠ [] → y_at t l p M ∧ p ≤ l ∧ (p_run t l e p).1 = some cs) → (∀ c ∈ cs, c_rng c → ∀ b, a_ok b → a_ok (w_cm b c).2) →
    ∃ M2, f10_perform_35 n M (nI N) (nI i) = some (if (w_go cs a).1 = -3 then -3 else nI N, M2) ∧ jm (w_ed a0 hs (w_go cs a)).1 (w_ed a0 hs (w_go cs a)).2 sn t l M2 := by
  intro cs
  induction cs with
  | nil =>
    intro n e p i a M hi hn ha hj h0 _ _
    obtain ⟨n, rfl⟩ : ∃ k, n = k + 1 := ⟨n - 1, by simp at hn; omega⟩
    simp only [List.length_nil, Nat.add_zero] at hi
    rw [f10_perform_35, if_pos ((nI_leI (by omega) (by omega)).mpr (by omega))]
    unfold w_ed
    rw [show w_go [] a = (0, a) from rfl, if_neg (show ¬ (0 : Int32) = -3 by decide), if_neg (show ¬ (0 : Int32) = -3 by decide)]
    obtain ⟨M2, e2, c2⟩ := hj.rec1 ha0 h0
    rw [e2, q_b1_s]
    exact ⟨M2, rfl, c2⟩
  | cons c cs ih =>
    intro n e p i a M hi hn ha hj h0 hp hok
    obtain ⟨n, rfl⟩ : ∃ k, n = k + 1 := ⟨n - 1, by omega⟩
    rw [List.length_cons] at hi hn
    obtain ⟨y1, pl, pr⟩ := hp (fun q => by cases q)
    obtain ⟨e', q, hcm, hrest⟩ := p_run_c pr
    obtain ⟨f1, f2, f3⟩ := p_cmd_f t pl
    obtain ⟨M1, y2, k2, e2⟩ := m_cmd y1 hl pl 1
    rw [hcm] at f1 f2 f3 y2 e2
    obtain ⟨hrng, fq⟩ := f3 c rfl
    have ql : q ≤ l := f2
    have fq2 : p + 2 ≤ q := fq
    have e2' : f10_command M 1 = m_do M1 c := e2.trans (show m_cr (some c, q) 1 M1 = m_do M1 c from (show (if (1 : Int32) = 0 then some (0, M1) else m_do M1 c) = m_do M1 c from if_neg (by decide)))
    have hj1 : jm a hs sn t l M1 := by
      obtain ⟨h1, h2, h3, h4, h5⟩ := hj
      refine ⟨by rw [k2.1]; exact h1, ⟨by rw [k2.2 5 (by omega)]; exact h2.1, h2.2.1, fun i x hx => by rw [k2.1]; exact h2.2.2 i x hx⟩, by rw [k2.1, k2.2 7 (by omega)]; exact h3, by rw [k2.1]; exact h4, by rw [k2.2 6 (by omega)]; exact h5⟩
    have h01 : r_m a0 (M1.1 1) := by rw [k2.1]; exact h0
    obtain ⟨M3, v, e3, k3, r3, an⟩ := m_cm ha hj1.1 hrng
    have hj3 := hj1.eq k3 r3
    have h03 : r_m a0 (M3.1 1) := by rw [k3.2 1 (by omega)]; exact h01
    rw [f10_perform_35, if_neg (by rw [nI_leI (by omega) (by omega)]; omega), e2', e3, q_bd_s, show nI i + 1 = nI (i + 1) from nI_add i 1]
    rcases an with ⟨b1, b2⟩ | ⟨b1, b2, -⟩
    · rw [w_go_n b1, b2, if_neg (by decide), if_pos rfl]
      obtain ⟨M4, e4, v2, v3, v4⟩ := m_copy (b0 := 1) (b1 := 0) rfl rfl (by omega) M3
      rw [e4, q_b1_s]
      refine ⟨M4, rfl, ?_⟩
      unfold w_ed
      rw [if_pos rfl]
      exact hj3.eq ⟨v2, v3⟩ (h03.cg ha0 v4)
    · rw [if_pos b2, q_let, w_go_s b1]
      have y3 : M3.2 8 = nI q := by rw [k3.1]; exact y2.2.2
      rw [y3, show nI q + (1 : Int32) = nI (q + 1) from nI_add q 1]
      have hj4 : jm (w_cm a c).2 hs sn t l (g_mi M3 8 (nI (q + 1))) := by
        obtain ⟨h1, h2, h3, h4, h5⟩ := hj3
        exact ⟨h1, ⟨(va_up_ne (k := 8) (j := 5) M3.2 (nI (q + 1)) (by omega)).trans h2.1, h2.2.1, h2.2.2⟩, by
          show j_s sn (va_up M3.2 8 (nI (q + 1)) 7) _
          rw [va_up_ne _ _ (by omega)]; exact h3, h4, (va_up_ne (k := 8) (j := 6) M3.2 (nI (q + 1)) (by omega)).trans h5⟩
      refine ih n e' (q + 1) (i + 1) (w_cm a c).2 (g_mi M3 8 (nI (q + 1))) (by omega) (by omega) (hok c List.mem_cons_self hrng a ha) hj4 h03 (fun hcs => ?_) (fun c2 h2 => hok c2 (List.mem_cons_of_mem _ h2))
      rcases hrest with ⟨-, z⟩ | ⟨w1, w2, w3⟩
      · exact absurd z hcs
      · exact ⟨⟨hj3.2.2.2.1, hj3.2.2.2.2, va_up_at M3.2 8 (nI (q + 1))⟩, by omega, w3⟩
end JGO
