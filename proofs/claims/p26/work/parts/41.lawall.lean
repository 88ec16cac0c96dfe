/-! THE LAW, over values: every round, then the whole -/
def a_0 : aSt := (fun k => if k = 0 then 1 else if k = 1 then 10 else if k = 4 then 1 else 0, fun _ => [], [])
theorem a_0_ok : a_ok a_0 := by
  refine ⟨⟨⟨1, by omega, rfl⟩, ⟨10, by omega, by omega, rfl⟩, Or.inl rfl, ⟨0, by omega, rfl⟩, Or.inr rfl, ⟨0, by omega, rfl⟩⟩, ⟨0, rfl, by omega, fun r _ => Nat.zero_le _, fun r r' p p' x x' _ _ h _ _ => ?_, fun r p s _ h => ?_⟩, by show 0 ≤ 12; omega, fun k o h => ?_⟩
  · cases h
  · cases h
  · cases h
theorem cell_e (xs : Nat → Int32) {L : Nat} (hL : L ≤ 260) {q : Nat} (hq : q < 2 ^ 31) : ∃ v, fL_cell xs L (nI q) = some v := by
  unfold fL_cell
  by_cases c : L ≤ q
  · exact ⟨_, if_pos ((nI_leI (a := L) (by omega) hq).mpr c)⟩
  · refine ⟨xs (nI q).toNatClampNeg, ?_⟩
    rw [if_neg (show ¬ Int32.ofNat L ≤ nI q from fun z => c ((nI_leI (a := L) (by omega) hq).mp z)), if_pos ((q_in hq).mpr (by omega))]
theorem law_mid {a : aSt} {hs : List aSt} {μ : gMu} (h : JJ a hs μ) {T : Nat} (hb : b_ok a T) (hT : T ≤ 1000000) (s g w : Int32) (X : gMu → Option Int32) (hX : ∀ (μ2 : gMu) (a2 : aSt) (hs2 : List aSt) (T2 : Nat), JJ a2 hs2 μ2 → b_ok a2 T2 → T2 ≤ T + 9801 → (hs2 = hs ∨ hs2 = h_push hs a) → X μ2 = some 1) :
    (g_bd (fL_does μ s g w) fun r17 z18 =>
      if r17 = 0 then
        some (0 : Int32)
      else
        g_b1 (fL_racks z18) fun r24 =>
        if r24 = 0 then
          some (0 : Int32)
        else
          g_b1 (fL_orders z18) fun r28 =>
          if r28 = 0 then
            some (0 : Int32)
          else
            g_b1 (f9_count z18 (9 : Int32)) fun r32 =>
            if r32 ≤ 0 then
              X z18
            else
              g_bd (fL_choices z18 (w >>> ((2 : Int32) &&& 31))) fun r37 z38 =>
              if ¬ r37 = 0 then
                X z38
              else
                some (0 : Int32)) = some 1 := by
  obtain ⟨μ2, a2, hs2, T2, e1, j2, b2, t2, s2⟩ := does_ok h hb hT s g w
  have n1 : ¬ (1 : Int32) = 0 := by decide
  have hle := j2.1.2.2.1
  rw [e1, q_bd_s, if_neg n1, racks_all j2.1 b2 j2.r, q_b1_s, if_neg n1, orders_all j2.1 b2 j2.r, q_b1_s, if_neg n1, k_c9 j2.r, q_b1_s]
  by_cases c : a2.2.2.length = 0
  · rw [if_pos (show nI a2.2.2.length ≤ 0 from by rw [c]; decide)]
    exact hX μ2 a2 hs2 T2 j2 b2 t2 s2
  · obtain ⟨μ3, e3, j3⟩ := choices_ok j2 (by omega) (w >>> ((2 : Int32) &&& 31))
    rw [if_neg (nI_nle (n := a2.2.2.length) (by omega) (by omega)), e3, q_bd_s, if_pos n1]
    exact hX μ3 a2 hs2 T2 j3 b2 t2 s2
theorem law_loop_p (xs : Nat → Int32) {L : Nat} (hL : L ≤ 260) : ∀ (d n e T : Nat) (a : aSt) (hs : List aSt) (μ : gMu), e + d = 24 → d < n → JJ a hs μ → b_ok a T → T ≤ 9801 * e → fL_lawl xs L n μ (nI e) = some 1 := by
  intro d
  induction d with
  | zero =>
    intro n e T a hs μ he hn h hb hT
    obtain ⟨n, rfl⟩ : ∃ k, n = k + 1 := ⟨n - 1, by omega⟩
    obtain rfl : e = 24 := by omega
    rw [fL_lawl, if_pos (by decide)]
  | succ d ih =>
    intro n e T a hs μ he hn h hb hT
    obtain ⟨n, rfl⟩ : ∃ k, n = k + 1 := ⟨n - 1, by omega⟩
    have hh := h.2.2.1.2.1
    have nxt : nI e + 1 = nI (e + 1) := nI_add e 1
    have e2 : (2 : Int32) * nI e = nI (2 * e) := pk_mul 2 e
    have e3 : nI (2 * e) + (1 : Int32) = nI (2 * e + 1) := nI_add (2 * e) 1
    obtain ⟨v, hv⟩ := cell_e xs hL (show 2 * e < 2 ^ 31 by omega)
    obtain ⟨w, hw⟩ := cell_e xs hL (show 2 * e + 1 < 2 ^ 31 by omega)
    obtain ⟨s, hs14, e4⟩ : ∃ j, j < 14 ∧ fL_low (v >>> ((12 : Int32) &&& 31)) (14 : Int32) = some (nI j) := low_e _ (n := 14) (by omega) (by omega)
    have go : ∀ (μ2 : gMu) (a2 : aSt) (hs2 : List aSt) (T2 : Nat), JJ a2 hs2 μ2 → b_ok a2 T2 → T2 ≤ T + 9801 → fL_lawl xs L n μ2 (nI e + 1) = some 1 := fun μ2 a2 hs2 T2 j2 b2 t2 => by
      rw [nxt]
      exact ih n (e + 1) T2 a2 hs2 μ2 (by omega) (by omega) j2 b2 (by omega)
    rw [fL_lawl, if_neg (show ¬ (24 : Int32) ≤ nI e from by rw [show (24 : Int32) = nI 24 from rfl, nI_leI (by omega) (by omega)]; omega), e2, hv, q_b1_s, e3, hw, q_b1_s, e4, q_b1_s, k_c13 h, q_b1_s]
    by_cases c1 : ¬ (w &&& (196608 : Int32)) = 0
    · rw [if_pos c1, q_let]
      exact law_mid h hb (by omega) (nI s) v w (fun z => fL_lawl xs L n z (nI e + 1)) (fun μ2 a2 hs2 T2 j2 b2 t2 _ => go μ2 a2 hs2 T2 j2 b2 t2)
    · rw [if_neg c1]
      by_cases c2 : (4 : Int32) ≤ nI hs.length
      · rw [if_pos c2, q_let]
        exact law_mid h hb (by omega) (nI s) v w (fun z => fL_lawl xs L n z (nI e + 1)) (fun μ2 a2 hs2 T2 j2 b2 t2 _ => go μ2 a2 hs2 T2 j2 b2 t2)
      · obtain ⟨dd, hd⟩ := dg_all h.1
        have hlt : hs.length < 4 := by
          rw [show (4 : Int32) = nI 4 from rfl, nI_leI (by omega) (by omega)] at c2
          omega
        rw [if_neg c2, hd μ h.r, q_b1_s]
        refine law_mid h hb (by omega) (nI s) v w (fun z => g_b1 (f9_count z (13 : Int32)) fun r96 =>
                if r96 = nI hs.length then
                  fL_lawl xs L n z (nI e + 1)
                else
                  g_bd (f9_undo z) fun r100 z101 =>
                  if ¬ r100 = nI hs.length then
                    some (0 : Int32)
                  else
                    g_b1 (fL_digest z101) fun r105 =>
                    if (lg_cmp r105 dd) = 0 then
                      fL_lawl xs L n z101 (nI e + 1)
                    else
                      some (0 : Int32)) (fun μ2 a2 hs2 T2 j2 b2 t2 s2 => ?_)
        show (g_b1 (f9_count μ2 (13 : Int32)) fun r96 => _) = some 1
        rw [k_c13 j2, q_b1_s]
        rcases s2 with s2 | s2
        · rw [s2, if_pos rfl]
          exact go μ2 a2 hs2 T2 j2 b2 t2
        · have s3 : hs2 = hs ++ [a] := by
            rw [s2]
            unfold h_push
            rw [if_neg (by omega)]
          subst s3
          obtain ⟨μ3, e5, j3⟩ := k_undo h.1 j2
          have hlen : (hs ++ [a]).length = hs.length + 1 := by simp
          have lg : lg_cmp dd dd = 0 := by
            unfold lg_cmp
            rw [if_neg (show ¬ dd > dd from Int64.lt_irrefl), if_pos rfl]
          rw [if_neg (show ¬ nI (hs ++ [a]).length = nI hs.length from fun z => by
            rw [hlen, nI_eq (by omega) (by omega)] at z
            omega), e5, q_bd_s, if_neg (not_not_intro rfl), hd μ3 j3.r, q_b1_s, if_pos lg]
          exact go μ3 a hs T j3 hb (by omega)
theorem a_0_b : b_ok a_0 0 := ⟨⟨0, 0, 0, 0, rfl, rfl, rfl, rfl, rfl, rfl, rfl⟩, fun r hr u hu => (by cases hu), fun o ho => (by cases ho)⟩
theorem a_0_j {τ : gTx} (h : τ.2 1 = 0) : JJ a_0 [] (g_setT g_mu0 τ) := by
  refine ⟨a_0_ok, ⟨fun k hk => ?_, rfl, fun r p _ _ => rfl, Nat.zero_le _, fun k _ => rfl⟩, ⟨rfl, Nat.zero_le _, fun i hi => ?_, fun i j _ _ e => ?_, fun i x hx => (by cases hx)⟩, rfl, fun k hk => absurd hk (by omega), h⟩
  · have : k = 0 ∨ k = 1 ∨ k = 2 ∨ k = 3 ∨ k = 4 ∨ k = 5 ∨ k = 6 ∨ k = 7 ∨ k = 8 ∨ k = 9 ∨ k = 10 ∨ k = 11 ∨ k = 12 := by omega
    rcases this with rfl | rfl | rfl | rfl | rfl | rfl | rfl | rfl | rfl | rfl | rfl | rfl | rfl <;> rfl
  · show 3 ≤ i + 3 ∧ i + 3 < 7
    omega
  · have e2 : i + 3 = j + 3 := e
    omega
theorem cmds_0 : ∃ τ2, f0_commandsOrFault g_t0 = some (-100, τ2) ∧ τ2.2 1 = 0 := by
  unfold f0_commandsOrFault f0_rewind
  rw [q_let, q_let, q_b1_s, f0_commandsOrFault_6, if_neg (by decide)]
  unfold f0_readCommand
  rw [if_pos (show (g_ti (g_ti g_t0 2 0) 3 0).2 2 ≤ 0 from (show (0 : Int32) ≤ 0 by decide))]
  unfold f0_readCommand_13 f0_here
  have e2 : (g_ti (g_ti g_t0 2 0) 3 0).2 2 = 0 := rfl
  have e1 : (g_ti (g_ti g_t0 2 0) 3 0).2 1 = 0 := rfl
  rw [e1, e2, if_neg (show ¬ (0 : Int32) < 0 by decide), if_pos (show (0 : Int32) ≤ 0 by decide), q_b1_s, q_let, show (g_ti (g_ti (g_ti g_t0 2 0) 3 0) 4 (-1)).2 4 = -1 from rfl, q_let, if_neg (show ¬ (-1 : Int32) = 100 by decide), if_neg (show ¬ (-1 : Int32) = 111 by decide), if_neg (show ¬ (-1 : Int32) = 112 by decide), if_neg (show ¬ (-1 : Int32) = 115 by decide), q_let, q_b1_s]
  have e3 : (g_ti (g_ti (g_ti (g_ti g_t0 2 0) 3 0) 4 (-1)) 3 1).2 3 = 1 := rfl
  rw [e3, if_neg (show ¬ (1 : Int32) = 0 by decide)]
  exact ⟨_, rfl, rfl⟩
theorem law_pure (xs : Nat → Int32) {L : Nat} (hL : L ≤ 260) : fL_law8 xs L g_mu0 = some 1 := by
  have h0 : JJ a_0 [] g_mu0 := a_0_j (τ := g_t0) rfl
  obtain ⟨τ2, p1, p2⟩ := cmds_0
  have p3 : f9_perform g_mu0 = some (-100, g_setT g_mu0 τ2) := by
    unfold f9_perform
    rw [show g_mu0.2.2.1 = g_t0 from rfl, p1, q_bd_s, q_let, if_neg (by decide)]
  have h1 : JJ a_0 [] (g_setT g_mu0 τ2) := a_0_j p2
  have rs : f9_restore g_mu0 = some (-5, g_mu0) := by
    unfold f9_restore
    rw [if_neg (not_not_intro (show g_mu0.2.2.2.1 = 0 from rfl))]
  have wp : w_plan a_0 0 = (-5, a_0) := by
    unfold w_plan
    rw [if_pos (by decide)]
    rfl
  obtain ⟨μ2, e2, j2⟩ := k_plan h1 0
  rw [wp] at e2 j2
  have j2 : JJ a_0 [] μ2 := j2
  have nx : f9_next μ2 0 = some (-5) := k_next j2.1 j2.r (R := 0) (by omega)
  have none0 : ∀ (r p : Nat) (v : gSh), r < 4 → (a_0.2.1 r)[p]? = some v → v.1 ≠ 0 := fun r p v _ hv => by cases hv
  obtain ⟨μ3, e3, j3⟩ := k_cut_n j2 none0 (k := 0) (by omega)
  have e3 : f9_cut μ2 0 0 = some (-1, μ3) := e3
  obtain ⟨μ4, e4, j4⟩ := k_scrap_n j3 none0
  have ct : f9_count μ4 15 = some (-2) := rfl
  obtain ⟨μ5, e5, j5⟩ := k_set j4 5 0
  have ws : w_set a_0 5 0 = (-2, a_0) := by
    unfold w_set
    rw [if_neg (by decide)]
  rw [ws] at e5 j5
  have j5 : JJ a_0 [] μ5 := j5
  have lp := law_loop_p xs hL 24 25 0 0 a_0 [] μ5 (by omega) (by omega) j5 a_0_b (by omega)
  rw [nI_0] at lp
  unfold fL_law8
  rw [k_undo_n h0, q_bd_s, if_neg (not_not_intro rfl), rs, q_bd_s, if_neg (not_not_intro rfl), p3, q_bd_s, if_neg (not_not_intro rfl), e2, q_bd_s, if_neg (not_not_intro rfl), nx, q_b1_s, if_neg (not_not_intro rfl), e3, q_bd_s, if_neg (not_not_intro rfl), e4, q_bd_s, if_neg (not_not_intro rfl), ct, q_b1_s, if_neg (not_not_intro rfl), e5, q_bd_s, if_pos rfl]
  exact lp
