/-! THE LAW: digest, racks -/
def dg (a : aSt) (f : gMu → Option Int64) : Prop := ∃ d, ∀ μ : gMu, r_c a (μ.1 0) → f μ = some d
theorem k_cv {a : aSt} (ha : a_ok a) {j : Nat} (hj : j < 13) : ∃ v, ∀ μ : gMu, r_c a (μ.1 0) → f9_count μ (nI j) = some v := by
  have : j = 0 ∨ j = 1 ∨ j = 2 ∨ j = 3 ∨ j = 4 ∨ j = 5 ∨ j = 6 ∨ j = 7 ∨ j = 8 ∨ j = 9 ∨ j = 10 ∨ j = 11 ∨ j = 12 := by omega
  rcases this with rfl | rfl | rfl | rfl | rfl | rfl | rfl | rfl | rfl | rfl | rfl | rfl | rfl
  · exact ⟨_, fun μ h => k_c0 h⟩
  · exact ⟨_, fun μ h => k_c1 ha h⟩
  · exact ⟨_, fun μ h => k_c2 ha h⟩
  · exact ⟨_, fun μ h => k_c3 h⟩
  · exact ⟨_, fun μ h => k_c4 h⟩
  · exact ⟨_, fun μ h => k_c5 h⟩
  · exact ⟨_, fun μ h => k_c6 h⟩
  · exact ⟨_, fun μ h => k_c7 h⟩
  · exact ⟨_, fun μ h => k_c8 h⟩
  · exact ⟨_, fun μ h => k_c9 h⟩
  · exact ⟨_, fun μ h => k_c10 h⟩
  · exact ⟨_, fun μ h => k_c11 h⟩
  · exact ⟨_, fun μ h => k_c12 h⟩
theorem dg_177 {a : aSt} (ha : a_ok a) {K : gMu → Int64 → Int32 → Option Int64} {i : Nat} {o : gOd} (hi : a.2.2[i]? = some o) (hK : ∀ h, dg a (fun μ => K μ h (nI i))) : ∀ (m n k : Nat) (h : Int64), k + m = 8 → m < n → dg a (fun μ => fL_digest_177 K n μ h (nI i) (nI k)) := by
  intro m
  induction m with
  | zero =>
    intro n k h hk hn
    obtain ⟨n, rfl⟩ : ∃ k, n = k + 1 := ⟨n - 1, by omega⟩
    obtain rfl : k = 8 := by omega
    obtain ⟨d, hd⟩ := hK h
    refine ⟨d, fun μ hμ => ?_⟩
    show fL_digest_177 K (n + 1) μ h (nI i) (nI 8) = some d
    rw [fL_digest_177, if_pos (by decide)]
    exact hd μ hμ
  | succ m ih =>
    intro n k h hk hn
    obtain ⟨n, rfl⟩ : ∃ k, n = k + 1 := ⟨n - 1, by omega⟩
    obtain ⟨d, hd⟩ := ih n (k + 1) ((31 : Int64) * h + (t_od (a.1 5) o (nI k)).toInt64) (by omega) (by omega)
    refine ⟨d, fun μ hμ => ?_⟩
    show fL_digest_177 K (n + 1) μ h (nI i) (nI k) = some d
    rw [fL_digest_177, if_neg (by rw [l8, nI_leI (by omega) (by omega)]; omega), k_ordered ha hμ hi, q_b1_s, q_let, show nI k + 1 = nI (k + 1) from nI_add k 1]
    exact hd μ hμ
theorem dg_164 {a : aSt} (ha : a_ok a) : ∀ (m n k : Nat) (h : Int64), k + m = a.2.2.length → m < n → dg a (fun μ => fL_digest_164 n μ h (nI k)) := by
  have hle := ha.2.2.1
  intro m
  induction m with
  | zero =>
    intro n k h hk hn
    obtain ⟨n, rfl⟩ : ∃ k, n = k + 1 := ⟨n - 1, by omega⟩
    refine ⟨h, fun μ hμ => ?_⟩
    show fL_digest_164 (n + 1) μ h (nI k) = some h
    rw [fL_digest_164, k_c9 hμ, q_b1_s, if_pos (by rw [nI_leI (by omega) (by omega)]; omega)]
  | succ m ih =>
    intro n k h hk hn
    obtain ⟨n, rfl⟩ : ∃ k, n = k + 1 := ⟨n - 1, by omega⟩
    obtain ⟨d, hd⟩ := dg_177 (K := fun zk14 k15 k16 => fL_digest_164 n zk14 k15 (k16 + 1)) ha (i := k) (List.getElem?_eq_getElem (show k < a.2.2.length by omega)) (fun h2 => by
      obtain ⟨d, hd⟩ := ih n (k + 1) h2 (by omega) (by omega)
      refine ⟨d, fun μ hμ => ?_⟩
      show fL_digest_164 n μ h2 (nI k + 1) = some d
      rw [show nI k + 1 = nI (k + 1) from nI_add k 1]
      exact hd μ hμ) 8 70 0 h (by omega) (by omega)
    refine ⟨d, fun μ hμ => ?_⟩
    show fL_digest_164 (n + 1) μ h (nI k) = some d
    rw [fL_digest_164, k_c9 hμ, q_b1_s, if_neg (by rw [nI_leI (by omega) (by omega)]; omega)]
    exact hd μ hμ
theorem rev_at {L : List gSh} {q m : Nat} (h : q + (m + 1) = L.length) : ∃ s, L.reverse[q]? = some s ∧ L[m]? = some s := by
  have e : L.reverse[q]? = L[L.length - 1 - q]? := List.getElem?_reverse (by omega)
  rw [show L.length - 1 - q = m by omega] at e
  exact ⟨L[m]'(by omega), e.trans (List.getElem?_eq_getElem _), List.getElem?_eq_getElem _⟩
theorem rev_end (L : List gSh) : L.reverse[L.length]? = none := List.getElem?_eq_none (by rw [List.length_reverse]; exact Nat.le_refl _)
theorem dg_69 {a : aSt} (ha : a_ok a) {K : gMu → Int64 → Int32 → Option Int64} {r : Nat} (hr : r < 4) (hK : ∀ h, dg a (fun μ => K μ h (nI r))) : ∀ (m n q : Nat) (h : Int64), q + m = (a.2.1 r).length → m < n → dg a (fun μ => fL_digest_69 K n μ h (nI r) (nI q)) := by
  obtain ⟨hn, ⟨M, hm2, hk4⟩, hos⟩ := id ha
  have hl := hk4.2.1 r hr
  have hM := hk4.1
  intro m
  induction m with
  | zero =>
    intro n q h hk hn
    obtain ⟨n, rfl⟩ : ∃ k, n = k + 1 := ⟨n - 1, by omega⟩
    obtain ⟨d, hd⟩ := hK h
    refine ⟨d, fun μ hμ => ?_⟩
    show fL_digest_69 K (n + 1) μ h (nI r) (nI q) = some d
    have e := k_at ha hμ hr (show q < 2 ^ 31 by omega)
    rw [show q = (a.2.1 r).length by omega, rev_end] at e
    rw [fL_digest_69, show q = (a.2.1 r).length by omega, e, q_b1_s, if_pos (by decide)]
    exact hd μ hμ
  | succ m ih =>
    intro n q h hk hn
    obtain ⟨n, rfl⟩ : ∃ k, n = k + 1 := ⟨n - 1, by omega⟩
    obtain ⟨s, s1, s2⟩ := rev_at hk
    obtain ⟨-, i, hi, ei⟩ := hk4.2.2.2 r m s hr s2
    obtain ⟨d, hd⟩ := ih n (q + 1) (((((((31 : Int64) * h) + s.1.toInt64) + ((7 : Int64) * (t_sh r ((a.2.1 r).length - 1 - m) s 0).toInt64)) + ((49 : Int64) * (t_sh r ((a.2.1 r).length - 1 - m) s 1).toInt64)) + ((343 : Int64) * (t_sh r ((a.2.1 r).length - 1 - m) s 2).toInt64)) + ((2401 : Int64) * (t_sh r ((a.2.1 r).length - 1 - m) s 5).toInt64)) (by omega) (by omega)
    refine ⟨d, fun μ hμ => ?_⟩
    show fL_digest_69 K (n + 1) μ h (nI r) (nI q) = some d
    have e := k_at ha hμ hr (show q < 2 ^ 31 by omega)
    rw [s1] at e
    rw [fL_digest_69, e, q_b1_s, if_neg (show ¬ s.1 < 0 by rw [ei]; exact nI_pos (by omega)), q_b1_s, k_sheet ha hμ hr s2, q_b1_s, k_sheet ha hμ hr s2, q_b1_s, k_sheet ha hμ hr s2, q_b1_s, k_sheet ha hμ hr s2, q_b1_s, q_let, show nI q + 1 = nI (q + 1) from nI_add q 1]
    exact hd μ hμ
theorem dg_61 {a : aSt} (ha : a_ok a) : ∀ (m n r : Nat) (h : Int64), r + m = 4 → m < n → dg a (fun μ => fL_digest_61 n μ h (nI r)) := by
  intro m
  induction m with
  | zero =>
    intro n r h hk hn
    obtain ⟨n, rfl⟩ : ∃ k, n = k + 1 := ⟨n - 1, by omega⟩
    obtain rfl : r = 4 := by omega
    obtain ⟨d, hd⟩ := dg_164 ha a.2.2.length 70 0 h (by omega) (by have := ha.2.2.1; omega)
    refine ⟨d, fun μ hμ => ?_⟩
    show fL_digest_61 (n + 1) μ h (nI 4) = some d
    rw [fL_digest_61, if_pos (by decide)]
    exact hd μ hμ
  | succ m ih =>
    intro n r h hk hn
    obtain ⟨n, rfl⟩ : ∃ k, n = k + 1 := ⟨n - 1, by omega⟩
    have hl : (a.2.1 r).length ≤ 8 := by
      obtain ⟨-, ⟨M, hm2, hk4⟩, -⟩ := id ha
      exact hk4.2.1 r (by omega)
    obtain ⟨d, hd⟩ := dg_69 (K := fun zk37 k38 k39 => fL_digest_61 n zk37 k38 (k39 + 1)) ha (r := r) (by omega) (fun h2 => by
      obtain ⟨d, hd⟩ := ih n (r + 1) h2 (by omega) (by omega)
      refine ⟨d, fun μ hμ => ?_⟩
      show fL_digest_61 n μ h2 (nI r + 1) = some d
      rw [show nI r + 1 = nI (r + 1) from nI_add r 1]
      exact hd μ hμ) (a.2.1 r).length 70 0 h (by omega) (by omega)
    refine ⟨d, fun μ hμ => ?_⟩
    show fL_digest_61 (n + 1) μ h (nI r) = some d
    rw [fL_digest_61, if_neg (by rw [show (4 : Int32) = nI 4 from rfl, nI_leI (by omega) (by omega)]; omega)]
    exact hd μ hμ
theorem dg_34 {a : aSt} (ha : a_ok a) : ∀ (m n j : Nat) (h : Int64), j + m = 5 → m < n → dg a (fun μ => fL_digest_34 n μ h (nI (20 + j))) := by
  intro m
  induction m with
  | zero =>
    intro n j h hk hn
    obtain ⟨n, rfl⟩ : ∃ k, n = k + 1 := ⟨n - 1, by omega⟩
    obtain rfl : j = 5 := by omega
    obtain ⟨d, hd⟩ := dg_61 ha 4 70 0 h (by omega) (by omega)
    refine ⟨d, fun μ hμ => ?_⟩
    show fL_digest_34 (n + 1) μ h (nI (20 + 5)) = some d
    rw [fL_digest_34, if_pos (by decide)]
    exact hd μ hμ
  | succ m ih =>
    intro n j h hk hn
    obtain ⟨n, rfl⟩ : ∃ k, n = k + 1 := ⟨n - 1, by omega⟩
    obtain ⟨d, hd⟩ := ih n (j + 1) ((31 : Int64) * h + (a.1 j).toInt64) (by omega) (by omega)
    refine ⟨d, fun μ hμ => ?_⟩
    show fL_digest_34 (n + 1) μ h (nI (20 + j)) = some d
    rw [fL_digest_34, if_neg (by rw [show (25 : Int32) = nI 25 from rfl, nI_leI (by omega) (by omega)]; omega), k_c20 hμ (by omega), q_b1_s, q_let, show nI (20 + j) + 1 = nI (20 + (j + 1)) from nI_add (20 + j) 1]
    exact hd μ hμ
theorem dg_6 {a : aSt} (ha : a_ok a) : ∀ (m n j : Nat) (h : Int64), j + m = 13 → m < n → dg a (fun μ => fL_digest_6 n μ h (nI j)) := by
  intro m
  induction m with
  | zero =>
    intro n j h hk hn
    obtain ⟨n, rfl⟩ : ∃ k, n = k + 1 := ⟨n - 1, by omega⟩
    obtain rfl : j = 13 := by omega
    obtain ⟨d, hd⟩ := dg_34 ha 5 70 0 h (by omega) (by omega)
    refine ⟨d, fun μ hμ => ?_⟩
    show fL_digest_6 (n + 1) μ h (nI 13) = some d
    rw [fL_digest_6, if_pos (by decide)]
    exact hd μ hμ
  | succ m ih =>
    intro n j h hk hn
    obtain ⟨n, rfl⟩ : ∃ k, n = k + 1 := ⟨n - 1, by omega⟩
    obtain ⟨v, hv⟩ := k_cv ha (show j < 13 by omega)
    obtain ⟨d, hd⟩ := ih n (j + 1) ((31 : Int64) * h + v.toInt64) (by omega) (by omega)
    refine ⟨d, fun μ hμ => ?_⟩
    show fL_digest_6 (n + 1) μ h (nI j) = some d
    rw [fL_digest_6, if_neg (by rw [show (13 : Int32) = nI 13 from rfl, nI_leI (by omega) (by omega)]; omega), hv μ hμ, q_b1_s, q_let, show nI j + 1 = nI (j + 1) from nI_add j 1]
    exact hd μ hμ
theorem dg_all {a : aSt} (ha : a_ok a) : dg a fL_digest := by
  obtain ⟨d, hd⟩ := dg_6 ha 13 70 0 83 (by omega) (by omega)
  refine ⟨d, fun μ hμ => ?_⟩
  unfold fL_digest
  rw [q_let]
  exact hd μ hμ
/-! racks -/
theorem k_out {a : aSt} (ha : a_ok a) {m : Nat} (hm : a.1 12 = nI m) : ∀ (r p : Nat) (v : gSh), r < 4 → (a.2.1 r)[p]? = some v → v.1 ≠ nI m := fun r p v hr hv e => by
  obtain ⟨hn, ⟨M, hm2, hk4⟩, hos⟩ := ha
  have hM := hk4.1
  obtain ⟨-, i, hi, ei⟩ := hk4.2.2.2 r p v hr hv
  rw [hm2] at hm
  have e2 : nI M = nI i := hm.trans (e.symm.trans ei)
  have := (nI_eq (by omega) (by omega)).mp e2
  omega
theorem k_src {a : aSt} (ha : a_ok a) (hg : g_src a.2.1) {r p : Nat} {s : gSh} (hr : r < 4) (hs : (a.2.1 r)[p]? = some s) : ¬ s.1 ≤ s.2.2.2.2 := by
  obtain ⟨hn, ⟨M, hm2, hk4⟩, hos⟩ := ha
  have hM := hk4.1
  obtain ⟨-, i, hi, ei⟩ := hk4.2.2.2 r p s hr hs
  rcases hg r hr s (List.mem_of_getElem? hs) with e | ⟨i2, j, e1, e2, e3, e4⟩
  · rw [ei, e]
    intro q
    exact nI_pos (n := i) (by omega) (Int32.lt_of_le_of_lt q (by decide))
  · rw [e1, e2, nI_leI (by omega) (by omega)]
    omega
theorem racks_14 {a : aSt} (ha : a_ok a) (hg : g_src a.2.1) {μ : gMu} (hμ : r_c a (μ.1 0)) {K : gMu → Int32 → Int32 → Int32 → Int32 → Option Int32} {r : Nat} (hr : r < 4) : ∀ (m n q x A : Nat), q + m = (a.2.1 r).length → m < n → fL_racks_14 K n μ (nI x) (nI A) (nI r) (nI q) = K μ (nI (x + m)) (nI (A + n_al ((a.2.1 r).take m))) (nI r) (nI (a.2.1 r).length) := by
  obtain ⟨hn, ⟨M, hm2, hk4⟩, hos⟩ := id ha
  have hl := hk4.2.1 r hr
  have hM := hk4.1
  intro m
  induction m with
  | zero =>
    intro n q x A hk hn
    obtain ⟨n, rfl⟩ : ∃ k, n = k + 1 := ⟨n - 1, by omega⟩
    have e := k_at ha hμ hr (show q < 2 ^ 31 by omega)
    obtain rfl : q = (a.2.1 r).length := by omega
    rw [rev_end] at e
    rw [fL_racks_14, e, q_b1_s, if_pos (by decide)]
    rfl
  | succ m ih =>
    intro n q x A hk hn
    obtain ⟨n, rfl⟩ : ∃ k, n = k + 1 := ⟨n - 1, by omega⟩
    obtain ⟨s, s1, s2⟩ := rev_at hk
    obtain ⟨sok, i, hi, ei⟩ := hk4.2.2.2 r m s hr s2
    have e := k_at ha hμ hr (show q < 2 ^ 31 by omega)
    rw [s1] at e
    have t3 : t_sh r ((a.2.1 r).length - 1 - m) s 3 = nI r := rfl
    have t4 : t_sh r ((a.2.1 r).length - 1 - m) s 4 = nI q := congrArg nI (by omega)
    have t5 : t_sh r ((a.2.1 r).length - 1 - m) s 5 = s.2.2.2.2 := rfl
    have t6 : t_sh r ((a.2.1 r).length - 1 - m) s 6 = -2 := rfl
    have t1 : t_sh r ((a.2.1 r).length - 1 - m) s 1 = s.2.2.1 := rfl
    have t2 : t_sh r ((a.2.1 r).length - 1 - m) s 2 = s.2.2.2.1 := rfl
    rw [fL_racks_14, e, q_b1_s, if_neg (show ¬ s.1 < 0 by rw [ei]; exact nI_pos (by omega)), q_b1_s,
      k_sheet ha hμ hr s2, q_b1_s, t3, if_neg (not_not_intro rfl), k_sheet ha hμ hr s2, q_b1_s, t4, if_neg (not_not_intro rfl),
      k_c12 hμ, q_b1_s, hm2, if_neg (show ¬ nI M ≤ s.1 by rw [ei, nI_leI (by omega) (by omega)]; omega),
      k_sheet ha hμ hr s2, q_b1_s, t5, if_neg (k_src ha hg hr s2), k_sheet ha hμ hr s2, q_b1_s, t6, if_pos rfl,
      k_sheet ha hμ hr s2, q_b1_s, t1, k_sheet ha hμ hr s2, q_b1_s, t2, q_let, (n_ar_e sok).1, nI_add,
      show nI x + 1 = nI (x + 1) from nI_add x 1, show nI q + 1 = nI (q + 1) from nI_add q 1, ih n (q + 1) (x + 1) (A + n_ar s) (by omega) (by omega)]
    have et : (a.2.1 r).take (m + 1) = (a.2.1 r).take m ++ [s] := by
      rw [List.take_add_one, s2]
      rfl
    rw [et, n_al_app, n_al_one, show x + 1 + m = x + (m + 1) by omega, show A + n_ar s + n_al ((a.2.1 r).take m) = A + (n_al ((a.2.1 r).take m) + n_ar s) by omega]
theorem racks_step {a : aSt} (ha : a_ok a) (hg : g_src a.2.1) {μ : gMu} (hμ : r_c a (μ.1 0)) {r : Nat} (hr : r < 4) (n x A : Nat) : fL_racks_6 (n + 1) μ (nI x) (nI A) (nI r) = fL_racks_6 n μ (nI (x + (a.2.1 r).length)) (nI (A + n_al (a.2.1 r))) (nI (r + 1)) := by
  obtain ⟨hn, ⟨M, hm2, hk4⟩, hos⟩ := id ha
  have hl := hk4.2.1 r hr
  have e := k_at ha hμ hr (show (a.2.1 r).length < 2 ^ 31 by omega)
  rw [rev_end] at e
  have h := racks_14 ha hg hμ (K := fun zk72 k73 k74 k75 k76 =>
      if (8 : Int32) < k76 then
        some (0 : Int32)
      else
        g_b1 (f9_at zk72 k75 k76) fun r78 =>
        if ¬ r78 = (-5 : Int32) then
          some (0 : Int32)
        else
          g_b1 (f9_at zk72 k75 (-1 : Int32)) fun r82 =>
          if r82 = (-2 : Int32) then
            fL_racks_6 n zk72 k73 k74 (k75 + 1)
          else
            some (0 : Int32)) hr (a.2.1 r).length 70 0 x A (by omega) (by omega)
  rw [nI_0] at h
  rw [fL_racks_6, if_neg (by rw [show (4 : Int32) = nI 4 from rfl, nI_leI (by omega) (by omega)]; omega), h, if_neg (by rw [l8, nI_ltI (by omega) (by omega)]; omega), e, q_b1_s, if_neg (not_not_intro rfl), k_at_m hr, q_b1_s, if_pos rfl, show nI r + 1 = nI (r + 1) from nI_add r 1, List.take_length]
theorem racks_all {a : aSt} (ha : a_ok a) {T : Nat} (hb : b_ok a T) {μ : gMu} (hμ : r_c a (μ.1 0)) : fL_racks μ = some 1 := by
  obtain ⟨⟨P, S, B, Q, h6, h7, h8, h9, h10, hT, hP⟩, hg, hq⟩ := hb
  unfold fL_racks
  have e := racks_step ha hg hμ (show 0 < 4 by omega) 69 0 0
  rw [racks_step ha hg hμ (show 1 < 4 by omega), racks_step ha hg hμ (show 2 < 4 by omega), racks_step ha hg hμ (show 3 < 4 by omega), nI_0] at e
  rw [e]
  obtain ⟨hn, ⟨M, hm2, hk4⟩, hos⟩ := id ha
  have hok : ∀ s ∈ a_all a.2.1, s_ok s := fun s hs => by
    obtain ⟨r, hr, h2⟩ := a_all_mem.mp hs
    obtain ⟨p, hp⟩ := List.getElem?_of_mem h2
    exact (hk4.2.2.2 r p s hr hp).1
  have c1 : (a_all a.2.1).length = 0 + (a.2.1 0).length + (a.2.1 (0 + 1)).length + (a.2.1 (1 + 1)).length + (a.2.1 (2 + 1)).length := by
    unfold a_all
    rw [List.length_append, List.length_append, List.length_append]
    show _ = 0 + (a.2.1 0).length + (a.2.1 1).length + (a.2.1 2).length + (a.2.1 3).length
    omega
  have c2 : n_al (a_all a.2.1) = 0 + n_al (a.2.1 0) + n_al (a.2.1 (0 + 1)) + n_al (a.2.1 (1 + 1)) + n_al (a.2.1 (2 + 1)) := by
    rw [n_aa_e]
    unfold n_aa
    show _ = 0 + n_al (a.2.1 0) + n_al (a.2.1 1) + n_al (a.2.1 2) + n_al (a.2.1 3)
    omega
  have c3 := n_aa_e a.2.1
  show fL_racks_6 (65 + 1) μ (nI (0 + (a.2.1 0).length + (a.2.1 (0 + 1)).length + (a.2.1 (1 + 1)).length + (a.2.1 (2 + 1)).length)) (nI (0 + n_al (a.2.1 0) + n_al (a.2.1 (0 + 1)) + n_al (a.2.1 (1 + 1)) + n_al (a.2.1 (2 + 1)))) (nI (3 + 1)) = some 1
  rw [← c1, ← c2, fL_racks_6, if_pos (by decide), k_c4 hμ, q_b1_s, k_c5 hμ, q_b1_s, k_c6 hμ, q_b1_s, k_c7 hμ, q_b1_s, q_let, k_c1 ha hμ, q_b1_s, if_neg (not_not_intro rfl), k_c2 ha hμ, q_b1_s, n_al_e _ hok, if_neg (not_not_intro rfl), k_c3 hμ, q_b1_s, h7, h8, h9, h10, h6, nI_add, nI_add, nI_add, nI_add,
    if_neg (not_not_intro (congrArg nI (show n_al (a_all a.2.1) + P + S + B + Q = T by omega))), k_at_4, q_b1_s, if_neg (not_not_intro rfl), k_c12 hμ, q_b1_s, hm2, k_sheet_n ha hμ (k_out ha hm2), q_b1_s, if_neg (not_not_intro rfl)]
