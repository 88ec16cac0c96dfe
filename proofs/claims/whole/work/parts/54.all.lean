/-! THE LAW, over values: every answer is the same -/
theorem j_start : j_inv g_mu0 := by
  refine ⟨a_0, [], none, fun _ => 0, 0, ⟨a_0_ok, fun s q => (by cases q), Nat.zero_le _⟩, ⟨⟨fun k hk => ?_, rfl, fun r p _ _ => rfl, Nat.zero_le _, fun k _ => rfl⟩, ⟨rfl, Nat.zero_le _, fun i hi => ?_, fun i j _ _ e => ?_, fun i x hx => (by cases hx)⟩, rfl, fun k hk => absurd hk (by omega), rfl⟩, ⟨⟨?_, ?_, fun r p s _ h => (by cases h), ⟨0, rfl, fun k hk => absurd hk (by omega)⟩, ?_⟩, ⟨rfl, Nat.zero_le _, fun i x hx => (by cases hx)⟩, rfl, fun k hk => absurd hk (by omega), rfl⟩⟩
  · have : k = 0 ∨ k = 1 ∨ k = 2 ∨ k = 3 ∨ k = 4 ∨ k = 5 ∨ k = 6 ∨ k = 7 ∨ k = 8 ∨ k = 9 ∨ k = 10 ∨ k = 11 ∨ k = 12 := by omega
    rcases this with rfl | rfl | rfl | rfl | rfl | rfl | rfl | rfl | rfl | rfl | rfl | rfl | rfl <;> rfl
  · show 3 ≤ i + 3 ∧ i + 3 < 7
    omega
  · have e2 : i + 3 = j + 3 := e
    omega
  · refine ⟨rfl, rfl, rfl, rfl, rfl, rfl, rfl, rfl, fun k hk => ?_⟩
    have : k = 0 ∨ k = 1 ∨ k = 2 ∨ k = 3 ∨ k = 4 := by omega
    rcases this with rfl | rfl | rfl | rfl | rfl <;> rfl
  · refine m_rk_mk (fun r hr => ⟨?_, fun i x hx => (by cases hx)⟩)
    show va_up (va_up (va_up (fun _ => 0) 9 1) 10 10) 13 1 (14 + 9 * r) = 0
    rw [va_up_ne _ _ (by omega), va_up_ne _ _ (by omega), va_up_ne _ _ (by omega)]
  · refine ⟨rfl, fun k o h => (by cases h), fun k _ _ => ?_⟩
    show va_up (va_up (va_up (fun _ => 0) 9 1) 10 10) 13 1 (1050 + 7 * k + 4) = 0
    rw [va_up_ne _ _ (by omega), va_up_ne _ _ (by omega), va_up_ne _ _ (by omega)]
theorem law_end {L p : Nat} (hL : L ≤ 2560) (hp : p ≤ 2565) : (Int32.ofNat L) - (5 : Int32) < nI p ↔ L < p + 5 := by
  show nI L - (5 : Int32) < nI p ↔ _
  rw [Int32.lt_iff_toInt_lt, Int32.toInt_sub, nI_toInt (by omega), nI_toInt (by omega)]
  have h5 : (5 : Int32).toInt = 5 := by decide
  rw [h5, Int.bmod_eq_of_le (by omega) (by omega)]
  omega
theorem law_all (xs : Nat → Int32) {L : Nat} (hL : L ≤ 2560) : ∀ (d n p : Nat) (μ : gMu), j_inv μ → p ≤ 2560 → L < p + 5 * (d + 1) → d < n → fL_law xs L n μ (nI p) = some 1 := by
  intro d
  induction d with
  | zero =>
    intro n p μ hj hp hd hn
    obtain ⟨n, rfl⟩ : ∃ k, n = k + 1 := ⟨n - 1, by omega⟩
    rw [fL_law, if_pos ((law_end hL (by omega)).mpr (by omega))]
  | succ d ih =>
    intro n p μ hj hp hd hn
    obtain ⟨n, rfl⟩ : ∃ k, n = k + 1 := ⟨n - 1, by omega⟩
    rw [fL_law]
    by_cases hend : L < p + 5
    · rw [if_pos ((law_end hL (by omega)).mpr hend)]
    rw [if_neg (fun q => hend ((law_end hL (by omega)).mp q))]
    have g0 : g_in (nI p) L := (q_in (by omega)).mpr (by omega)
    have g1 : g_in (nI p + (1 : Int32)) L := by
      rw [show nI p + (1 : Int32) = nI (p + 1) from nI_add p 1]
      exact (q_in (by omega)).mpr (by omega)
    have g2 : g_in (nI p + (2 : Int32)) L := by
      rw [show nI p + (2 : Int32) = nI (p + 2) from nI_add p 2]
      exact (q_in (by omega)).mpr (by omega)
    have g3 : g_in (nI p + (3 : Int32)) L := by
      rw [show nI p + (3 : Int32) = nI (p + 3) from nI_add p 3]
      exact (q_in (by omega)).mpr (by omega)
    have g4 : g_in (nI p + (4 : Int32)) L := by
      rw [show nI p + (4 : Int32) = nI (p + 4) from nI_add p 4]
      exact (q_in (by omega)).mpr (by omega)
    have nx : ∀ μ2, j_inv μ2 → fL_law xs L n μ2 (nI p + 5) = some 1 := fun μ2 h2 => by
      rw [show nI p + 5 = nI (p + 5) from nI_add p 5]
      exact ih n (p + 5) μ2 h2 (by omega) (by omega) (by omega)
    rw [if_pos g0, q_let]
    generalize (xs (nI p).toNatClampNeg) &&& (31 : Int32) = tt
    by_cases c0 : tt = (0 : Int32)
    · obtain ⟨r, μ1, M1, e1, e2, h2⟩ := j_set hj (xs (nI p + (1 : Int32)).toNatClampNeg) (xs (nI p + (2 : Int32)).toNatClampNeg)
      rw [if_pos c0, if_pos g1, if_pos g2, e1, q_bd_s, if_pos g1, if_pos g2, e2, q_bd_s, q_let, if_pos rfl]
      exact nx _ h2
    rw [if_neg c0]
    by_cases c1 : tt = (1 : Int32)
    · obtain ⟨r, μ1, M1, e1, e2, h2⟩ := j_buy hj (xs (nI p + (1 : Int32)).toNatClampNeg) (xs (nI p + (2 : Int32)).toNatClampNeg) (xs (nI p + (3 : Int32)).toNatClampNeg) (xs (nI p + (4 : Int32)).toNatClampNeg)
      rw [if_pos c1, if_pos g1, if_pos g2, if_pos g3, if_pos g4, e1, q_bd_s, if_pos g1, if_pos g2, if_pos g3, if_pos g4, e2, q_bd_s, q_let, if_pos rfl]
      exact nx _ h2
    rw [if_neg c1]
    by_cases c2 : tt = (2 : Int32)
    · obtain ⟨r, μ1, M1, e1, e2, h2⟩ := j_move hj (xs (nI p + (1 : Int32)).toNatClampNeg) (xs (nI p + (2 : Int32)).toNatClampNeg)
      rw [if_pos c2, if_pos g1, if_pos g2, e1, q_bd_s, if_pos g1, if_pos g2, e2, q_bd_s, q_let, if_pos rfl]
      exact nx _ h2
    rw [if_neg c2]
    by_cases c3 : tt = (3 : Int32)
    · obtain ⟨r, μ1, M1, e1, e2, h2⟩ := j_scrap hj (xs (nI p + (1 : Int32)).toNatClampNeg)
      rw [if_pos c3, if_pos g1, e1, q_bd_s, if_pos g1, e2, q_bd_s, q_let, if_pos rfl]
      exact nx _ h2
    rw [if_neg c3]
    by_cases c4 : tt = (4 : Int32)
    · obtain ⟨r, μ1, M1, e1, e2, h2⟩ := j_order hj (xs (nI p + (1 : Int32)).toNatClampNeg) (xs (nI p + (2 : Int32)).toNatClampNeg) (xs (nI p + (3 : Int32)).toNatClampNeg) (xs (nI p + (4 : Int32)).toNatClampNeg)
      rw [if_pos c4, if_pos g1, if_pos g2, if_pos g3, if_pos g4, e1, q_bd_s, if_pos g1, if_pos g2, if_pos g3, if_pos g4, e2, q_bd_s, q_let, if_pos rfl]
      exact nx _ h2
    rw [if_neg c4]
    by_cases c5 : tt = (5 : Int32)
    · obtain ⟨r, μ1, M1, e1, e2, h2⟩ := j_cancel hj (xs (nI p + (1 : Int32)).toNatClampNeg)
      rw [if_pos c5, if_pos g1, e1, q_bd_s, if_pos g1, e2, q_bd_s, q_let, if_pos rfl]
      exact nx _ h2
    rw [if_neg c5]
    by_cases c6 : tt = (6 : Int32)
    · obtain ⟨r, μ1, M1, e1, e2, h2⟩ := j_cut hj (xs (nI p + (1 : Int32)).toNatClampNeg) (xs (nI p + (2 : Int32)).toNatClampNeg)
      rw [if_pos c6, if_pos g1, if_pos g2, e1, q_bd_s, if_pos g1, if_pos g2, e2, q_bd_s, q_let, if_pos rfl]
      exact nx _ h2
    rw [if_neg c6]
    by_cases c7 : tt = (7 : Int32)
    · obtain ⟨r, μ1, M1, e1, e2, h2⟩ := j_plan hj (xs (nI p + (1 : Int32)).toNatClampNeg)
      rw [if_pos c7, if_pos g1, e1, q_bd_s, if_pos g1, e2, q_bd_s, q_let, if_pos rfl]
      exact nx _ h2
    rw [if_neg c7]
    by_cases c8 : tt = (8 : Int32)
    · obtain ⟨r, μ1, M1, e1, e2, h2⟩ := j_pass hj (xs (nI p + (1 : Int32)).toNatClampNeg)
      rw [if_pos c8, if_pos g1, e1, q_bd_s, if_pos g1, e2, q_bd_s, q_let, if_pos rfl]
      exact nx _ h2
    rw [if_neg c8]
    by_cases c9 : tt = (9 : Int32)
    · obtain ⟨r, μ1, M1, e1, e2, h2⟩ := j_perform hj
      rw [if_pos c9, e1, q_bd_s, e2, q_bd_s, q_let, if_pos rfl]
      exact nx _ h2
    rw [if_neg c9]
    by_cases c10 : tt = (10 : Int32)
    · obtain ⟨r, μ1, M1, e1, e2, h2⟩ := j_type hj (xs (nI p + (1 : Int32)).toNatClampNeg)
      rw [if_pos c10, if_pos g1, e1, q_bd_s, if_pos g1, e2, q_bd_s, q_let, if_pos rfl]
      exact nx _ h2
    rw [if_neg c10]
    by_cases c11 : tt = (11 : Int32)
    · obtain ⟨r, μ1, M1, e1, e2, h2⟩ := j_clear hj
      rw [if_pos c11, e1, q_bd_s, e2, q_bd_s, q_let, if_pos rfl]
      exact nx _ h2
    rw [if_neg c11]
    by_cases c12 : tt = (12 : Int32)
    · obtain ⟨r, μ1, M1, e1, e2, h2⟩ := j_undo hj
      rw [if_pos c12, e1, q_bd_s, e2, q_bd_s, q_let, if_pos rfl]
      exact nx _ h2
    rw [if_neg c12]
    by_cases c13 : tt = (13 : Int32)
    · obtain ⟨r, μ1, M1, e1, e2, h2⟩ := j_keep hj
      rw [if_pos c13, e1, q_bd_s, e2, q_bd_s, q_let, if_pos rfl]
      exact nx _ h2
    rw [if_neg c13]
    by_cases c14 : tt = (14 : Int32)
    · obtain ⟨r, μ1, M1, e1, e2, h2⟩ := j_restore hj
      rw [if_pos c14, e1, q_bd_s, e2, q_bd_s, q_let, if_pos rfl]
      exact nx _ h2
    rw [if_neg c14]
    by_cases c15 : tt = (15 : Int32)
    · obtain ⟨r, e1, e2⟩ := j_sheet hj (xs (nI p + (1 : Int32)).toNatClampNeg) (xs (nI p + (2 : Int32)).toNatClampNeg)
      rw [if_pos c15, if_pos g1, if_pos g2, e1, q_b1_s, if_pos g1, if_pos g2, e2, q_b1_s, if_pos rfl]
      exact nx _ hj
    rw [if_neg c15]
    by_cases c16 : tt = (16 : Int32)
    · obtain ⟨r, e1, e2⟩ := j_at hj (xs (nI p + (1 : Int32)).toNatClampNeg) (xs (nI p + (2 : Int32)).toNatClampNeg)
      rw [if_pos c16, if_pos g1, if_pos g2, e1, q_b1_s, if_pos g1, if_pos g2, e2, q_b1_s, if_pos rfl]
      exact nx _ hj
    rw [if_neg c16]
    by_cases c17 : tt = (17 : Int32)
    · obtain ⟨r, e1, e2⟩ := j_ordered hj (xs (nI p + (1 : Int32)).toNatClampNeg) (xs (nI p + (2 : Int32)).toNatClampNeg)
      rw [if_pos c17, if_pos g1, if_pos g2, e1, q_b1_s, if_pos g1, if_pos g2, e2, q_b1_s, if_pos rfl]
      exact nx _ hj
    rw [if_neg c17]
    by_cases c18 : tt = (18 : Int32)
    · obtain ⟨r, μ1, e1, e2, h2⟩ := j_would hj (xs (nI p + (1 : Int32)).toNatClampNeg) (xs (nI p + (2 : Int32)).toNatClampNeg) (xs (nI p + (3 : Int32)).toNatClampNeg)
      rw [if_pos c18, if_pos g1, if_pos g2, if_pos g3, e1, q_bd_s, if_pos g1, if_pos g2, if_pos g3, e2, q_b1_s, if_pos rfl]
      exact nx _ h2
    rw [if_neg c18]
    by_cases c19 : tt = (19 : Int32)
    · obtain ⟨r, μ1, e1, e2, h2⟩ := j_choice hj (xs (nI p + (1 : Int32)).toNatClampNeg) (xs (nI p + (2 : Int32)).toNatClampNeg)
      rw [if_pos c19, if_pos g1, if_pos g2, e1, q_bd_s, if_pos g1, if_pos g2, e2, q_b1_s, if_pos rfl]
      exact nx _ h2
    rw [if_neg c19]
    by_cases c20 : tt = (20 : Int32)
    · obtain ⟨r, e1, e2⟩ := j_next hj (xs (nI p + (1 : Int32)).toNatClampNeg)
      rw [if_pos c20, if_pos g1, e1, q_b1_s, if_pos g1, e2, q_b1_s, if_pos rfl]
      exact nx _ hj
    rw [if_neg c20]
    by_cases c21 : tt = (21 : Int32)
    · obtain ⟨r, μ1, M1, e1, e2, h2⟩ := j_wouldPlan hj (xs (nI p + (1 : Int32)).toNatClampNeg) (xs (nI p + (2 : Int32)).toNatClampNeg)
      rw [if_pos c21, if_pos g1, if_pos g2, e1, q_bd_s, if_pos g1, if_pos g2, e2, q_bd_s, q_let, if_pos rfl]
      exact nx _ h2
    rw [if_neg c21]
    by_cases c22 : tt = (22 : Int32)
    · obtain ⟨r, e1, e2⟩ := j_count hj (xs (nI p + (1 : Int32)).toNatClampNeg)
      rw [if_pos c22, if_pos g1, e1, q_b1_s, if_pos g1, e2, q_b1_s, if_pos rfl]
      exact nx _ hj
    rw [if_neg c22]
    exact nx _ hj
theorem law_pure (xs : Nat → Int32) (L : Nat) (hL : L ≤ 2560) : fL_law xs L 513 g_mu0 0 = some 1 := by
  have e := law_all xs hL 512 513 0 g_mu0 j_start (by omega) (by omega) (by omega)
  rw [nI_0] at e
  exact e
