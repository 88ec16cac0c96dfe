/-! THE REFERENCE: what is bought, ordered, days that pass -/
theorem m_od.app {os : List gOd} {f f2 : Nat → Int32} (h : m_od os f) (hl : os.length < 12) (q w y d : Int32) (e7 : f2 7 = nI (os.length + 1)) (e : ∀ c, 1050 ≤ c → c < 1134 → c ≠ 1050 + 7 * os.length → c ≠ 1050 + 7 * os.length + 1 → c ≠ 1050 + 7 * os.length + 2 → c ≠ 1050 + 7 * os.length + 3 → f2 c = f c) (c0 : f2 (1050 + 7 * os.length) = q) (c1 : f2 (1050 + 7 * os.length + 1) = w) (c2 : f2 (1050 + 7 * os.length + 2) = y) (c3 : f2 (1050 + 7 * os.length + 3) = d) : m_od (os ++ [(nI os.length, q, w, y, d, 0, -5, -5)]) f2 := by
  obtain ⟨h1, h2, h3⟩ := h
  have out : ∀ k w, k ≠ os.length → k < 12 → w < 7 → f2 (1050 + 7 * k + w) = f (1050 + 7 * k + w) := fun k w hk hk2 hw => e _ (by omega) (by omega) (by omega) (by omega) (by omega) (by omega)
  refine ⟨by rw [e7, List.length_append]; rfl, fun k o hk => ?_, fun k k1 k2 => ?_⟩
  · by_cases c : k < os.length
    · rw [List.getElem?_append_left c] at hk
      have o0 := out k 0 (by omega) (by omega) (by omega)
      rw [Nat.add_zero] at o0
      rw [o0, out k 1 (by omega) (by omega) (by omega), out k 2 (by omega) (by omega) (by omega), out k 3 (by omega) (by omega) (by omega), out k 4 (by omega) (by omega) (by omega), out k 5 (by omega) (by omega) (by omega), out k 6 (by omega) (by omega) (by omega)]
      exact h2 k o hk
    · rw [List.getElem?_append_right (by omega)] at hk
      have hj : k - os.length = 0 := by
        have := (List.getElem?_eq_some_iff.mp hk).1
        simp at this
        omega
      rw [hj] at hk
      have ek : k = os.length := by omega
      subst ek
      cases hk
      refine ⟨c0, c1, c2, c3, ?_, fun z => absurd z (by decide : ¬ (0 : Int32) = 1)⟩
      show f2 (1050 + 7 * os.length + 4) = 0
      rw [e _ (by omega) (by omega) (by omega) (by omega) (by omega) (by omega)]
      exact h3 os.length (Nat.le_refl _) hl
  · rw [List.length_append, List.length_singleton] at k1
    rw [out k 4 (by omega) k2 (by omega)]
    exact h3 k (by omega) k2
theorem m_orders {a : aSt} (ha : a_ok a) {M : gMo} (hm : r_m a (M.1 0)) {q w y d : Int32} (hq : 0 ≤ q ∧ q ≤ 2) (hw : 1 ≤ w ∧ w ≤ 99) (hy : 1 ≤ y ∧ y ≤ 99) (hd : 0 ≤ d ∧ d ≤ 999) : ∃ M2, f10_orders M q w y d = some ((w_order a q w y d).1, M2) ∧ m_eq M M2 ∧ r_m (w_order a q w y d).2 (M2.1 0) := by
  have hos := ha.2.2
  have hl12 := hos.1
  have v7 := hm.2.2.2.2.1
  unfold f10_orders w_order
  rw [if_pos hq, if_pos hw, if_pos hy, if_pos hd, n7, v7, q_let]
  by_cases c : a.2.2.length < 12
  · rw [if_pos (show ¬ nI a.2.2.length = (12 : Int32) from fun z => by rw [l12, nI_eq (by omega) (by omega)] at z; omega), if_pos c]
    have e1 : nI a.2.2.length + 1 = nI (a.2.2.length + 1) := nI_add _ 1
    have x0 : (1050 : Int32) + (7 * nI a.2.2.length) + 0 = nI (1050 + 7 * a.2.2.length) := by rw [l1050, l7, pk_mul, nI_add, Int32.add_zero]
    have x1 : (1050 : Int32) + (7 * nI a.2.2.length) + 1 = nI (1050 + 7 * a.2.2.length + 1) := by rw [l1050, l7, pk_mul, nI_add]; exact nI_add _ 1
    have x2 : (1050 : Int32) + (7 * nI a.2.2.length) + 2 = nI (1050 + 7 * a.2.2.length + 2) := by rw [l1050, l7, pk_mul, nI_add]; exact nI_add _ 2
    have x3 : (1050 : Int32) + (7 * nI a.2.2.length) + 3 = nI (1050 + 7 * a.2.2.length + 3) := by rw [l1050, l7, pk_mul, nI_add]; exact nI_add _ 3
    rw [e1, x0, x1, x2, x3]
    simp (disch := omega) only [q_in, nI_clamp, q_let]
    rw [if_pos (by omega), if_pos (by omega), if_pos (by omega), if_pos (by omega)]
    refine ⟨_, rfl, ((((m_eq.rf.ma _ _).ma _ _).ma _ _).ma _ _).ma _ _, ?_⟩
    obtain ⟨m, hm2, hk4⟩ := ha.2.1
    refine hm.ods ⟨m, hm2, hk4⟩ (fun c c1 c2 => ?_) (hm.2.2.2.2.app c q w y d ?_ (fun c c1 c2 c3 c4 c5 c6 => ?_) ?_ ?_ ?_ ?_)
    · rw [g_ma_z, g_ma_z, g_ma_z, g_ma_z, g_ma_z, va_up_ne _ _ (by omega), va_up_ne _ _ (by omega), va_up_ne _ _ (by omega), va_up_ne _ _ (by omega), va_up_ne _ _ (by omega)]
    · rw [g_ma_z, g_ma_z, g_ma_z, g_ma_z, g_ma_z, va_up_ne _ _ (by omega), va_up_ne _ _ (by omega), va_up_ne _ _ (by omega), va_up_ne _ _ (by omega)]
      exact va_up_at _ _ _
    · rw [g_ma_z, g_ma_z, g_ma_z, g_ma_z, g_ma_z, va_up_ne _ _ (by omega), va_up_ne _ _ (by omega), va_up_ne _ _ (by omega), va_up_ne _ _ (by omega), va_up_ne _ _ (by omega)]
    · rw [g_ma_z, g_ma_z, g_ma_z, g_ma_z, va_up_ne _ _ (by omega), va_up_ne _ _ (by omega), va_up_ne _ _ (by omega)]
      exact va_up_at _ _ _
    · rw [g_ma_z, g_ma_z, g_ma_z, va_up_ne _ _ (by omega), va_up_ne _ _ (by omega)]
      exact va_up_at _ _ _
    · rw [g_ma_z, g_ma_z, va_up_ne _ _ (by omega)]
      exact va_up_at _ _ _
    · rw [g_ma_z]
      exact va_up_at _ _ _
  · rw [if_neg (show ¬ ¬ nI a.2.2.length = (12 : Int32) from fun z => z (by rw [l12, nI_eq (by omega) (by omega)]; omega)), if_neg c]
    exact ⟨M, rfl, m_eq.rf, hm⟩
theorem m_buys {a : aSt} (ha : a_ok a) {M : gMo} (hm : r_m a (M.1 0)) {r q w y : Int32} (hr : 0 ≤ r ∧ r ≤ 3) (hq : 0 ≤ q ∧ q ≤ 2) (hw : 1 ≤ w ∧ w ≤ 99) (hy : 1 ≤ y ∧ y ≤ 99) : ∃ M2, f10_buys M r q w y = some ((w_buy a r q w y).1, M2) ∧ m_eq M M2 ∧ r_m (w_buy a r q w y).2 (M2.1 0) := by
  have hos := ha.2.2
  obtain ⟨m, hm2, hk4⟩ := ha.2.1
  have hle := hk4.1
  unfold f10_buys w_buy
  rw [if_pos hr, if_pos hq, if_pos hw, if_pos hy]
  obtain ⟨j, hj, rfl⟩ := i_nat (n := 3) (by omega) hr.1 hr.2
  have hlj := hk4.2.1 j (by omega)
  have v8 : M.1 0 8 = nI m := hm.1.at.2.2.2.1.trans hm2
  have v1 : M.1 0 1 = a.1 6 := hm.1.2.1
  have e200 : (200 : Int32) ≤ a.1 12 ↔ 200 ≤ m := by
    rw [hm2, l200, nI_leI (by omega) (by omega)]
  rw [nI_clamp (by omega), f10_many_e M (by omega), q_b1_s, (m_rk_iff.mp hm.2.1 j (by omega)).1, n8, v8, n1, v1]
  by_cases c1 : nI (a.2.1 j).length = (8 : Int32)
  · have : (a.2.1 j).length = 8 := by
      rw [l8, nI_eq (by omega) (by omega)] at c1
      exact c1
    rw [if_pos c1, if_neg (fun z => by have := z.2; omega)]
    exact ⟨M, rfl, m_eq.rf, hm⟩
  · have hlt : (a.2.1 j).length < 8 := by
      by_cases h8 : (a.2.1 j).length = 8
      · exact absurd (by rw [h8]; rfl) c1
      · omega
    rw [if_neg c1]
    by_cases c2 : nI m = (200 : Int32)
    · have : m = 200 := by
        rw [l200, nI_eq (by omega) (by omega)] at c2
        exact c2
      rw [if_neg (not_not_intro c2), if_neg (fun z => z.1 (e200.mpr (by omega)))]
      exact ⟨M, rfl, m_eq.rf, hm⟩
    · have hmlt : m < 200 := by
        by_cases h8 : m = 200
        · exact absurd (by rw [h8]; rfl) c2
        · omega
      rw [if_pos c2, if_pos ⟨fun z => by have := e200.mp z; omega, hlt⟩, q_let]
      have h6 := hm.nu hk4.2.1 hos.1 ⟨m, hm2, hk4.1⟩ (k := 6) (by omega) (a.1 6 + w * y)
      have e12 : va_up a.1 6 (a.1 6 + w * y) 12 = nI m := (va_up_ne (k := 6) (j := 12) a.1 (a.1 6 + w * y) (by omega)).trans hm2
      obtain ⟨M2, y1, ⟨y2, -⟩, y3⟩ := m_makes (a := (va_up a.1 6 (a.1 6 + w * y), a.2)) (M := g_ma M 0 1 (a.1 6 + w * y)) (r := j) (by omega) e12 hmlt hk4 hos.1 h6 hlt q w y (-5)
      rw [y1, q_bd_s, hm2, show nI m + (1 : Int32) = nI (m + 1) from nI_add m 1]
      exact ⟨M2, rfl, (m_eq.rf.ma _ _).tr y2, y3⟩
theorem m_passes {a : aSt} (ha : a_ok a) {M : gMo} (hm : r_m a (M.1 0)) {n : Int32} (hn : 1 ≤ n ∧ n ≤ 99) : ∃ M2, f10_passes M n = some ((w_pass a n).1, M2) ∧ m_eq M M2 ∧ r_m (w_pass a n).2 (M2.1 0) := by
  have hos := ha.2.2
  obtain ⟨m, hm2, hk4⟩ := ha.2.1
  have v0 : M.1 0 0 = a.1 5 := hm.1.1
  unfold f10_passes w_pass
  rw [if_pos hn, n0, v0]
  by_cases c : a.1 5 + n ≤ 999
  · rw [if_pos c, if_pos c, m_late hos hm.2.2.2.2 v0, q_b1_s, q_let]
    have h5 := hm.nu hk4.2.1 hos.1 ⟨m, hm2, hk4.1⟩ (k := 5) (by omega) (a.1 5 + n)
    rw [m_late (M := g_ma M 0 0 (a.1 5 + n)) hos h5.2.2.2.2 (va_up_at (M.1 0) 0 (a.1 5 + n)), q_b1_s]
    exact ⟨_, rfl, m_eq.rf.ma _ _, h5⟩
  · rw [if_neg c, if_neg c]
    exact ⟨M, rfl, m_eq.rf, hm⟩
/-! THE REFERENCE: rows are copied, recorded, taken back -/
theorem r_m.cg {a : aSt} {f f2 : Nat → Int32} (h : r_m a f) (ha : a_ok a) (e : ∀ k, k < 1134 → f2 k = f k) : r_m a f2 := by
  obtain ⟨m, em, hk⟩ := ha.2.1
  have hle := hk.1
  obtain ⟨⟨g1, g2, ⟨m2, e1, e2, g3⟩, g4⟩, h1⟩ := (m_t_iff (r := 0) (by omega) ⟨m, em, hle⟩).mp h
  exact (m_t_iff (r := 0) (by omega) ⟨m, em, hle⟩).mpr ⟨⟨g1.cg (fun k k1 k2 => e k (by omega)), fun r2 hr2 hne => (g2 r2 hr2 hne).cg hr2 (hk.2.1 r2 hr2) (fun k k1 k2 => e k (by omega)), ⟨m2, e1, e2, g3.cg e2 (fun k k1 k2 => e k (by omega))⟩, g4.cg ha.2.2.1 (fun k hk => e k (by omega))⟩, h1.cg (by omega) (hk.2.1 0 (by omega)) (fun c c1 c2 => e c (by omega))⟩
theorem g_ma_b (M : gMo) (b k : Nat) (x : Int32) : (g_ma M b k x).1 b = va_up (M.1 b) k x := va_up_at _ _ _
theorem g_ma_o (M : gMo) {b c : Nat} (k : Nat) (x : Int32) (h : c ≠ b) : (g_ma M b k x).1 c = M.1 c := va_up_ne _ _ h
theorem m_copy {b0 b1 : Nat} (h0 : g_msz b0 = 1134) (h1 : g_msz b1 = 1134) (hne : b0 ≠ b1) (M : gMo) : ∃ M2, f10_copy M b0 b1 = some M2 ∧ M2.2 = M.2 ∧ (∀ c, c ≠ b1 → M2.1 c = M.1 c) ∧ ∀ k, k < 1134 → M2.1 b1 k = M.1 b0 k := by
  have main : ∀ (d n k : Nat) (M : gMo), k + d = 1134 → d < n → ∃ M2, f10_copy_2 b0 b1 n M (nI k) = some M2 ∧ M2.2 = M.2 ∧ (∀ c, c ≠ b1 → M2.1 c = M.1 c) ∧ ∀ j, M2.1 b1 j = if k ≤ j ∧ j < 1134 then M.1 b0 j else M.1 b1 j := by
    intro d
    induction d with
    | zero =>
      intro n k M hk hn
      obtain ⟨n, rfl⟩ : ∃ k, n = k + 1 := ⟨n - 1, by omega⟩
      rw [f10_copy_2, if_pos (by rw [l1134, nI_leI (by omega) (by omega)]; omega)]
      exact ⟨M, rfl, rfl, fun _ _ => rfl, fun j => by rw [if_neg (by omega)]⟩
    | succ d ih =>
      intro n k M hk hn
      obtain ⟨n, rfl⟩ : ∃ k, n = k + 1 := ⟨n - 1, by omega⟩
      rw [f10_copy_2, if_neg (by rw [l1134, nI_leI (by omega) (by omega)]; omega), h0, h1]
      simp (disch := omega) only [q_in, nI_clamp, q_let]
      rw [if_pos (by omega), if_pos (by omega), show nI k + 1 = nI (k + 1) from nI_add k 1]
      obtain ⟨M2, e1, e2, e3, e4⟩ := ih n (k + 1) (g_ma M b1 k (M.1 b0 k)) (by omega) (by omega)
      refine ⟨M2, e1, e2, fun c hc => (e3 c hc).trans (g_ma_o M k _ hc), fun j => ?_⟩
      rw [e4 j, g_ma_o M k _ hne, g_ma_b, q_up]
      by_cases c : k = j
      · subst c
        rw [if_neg (by omega), if_pos rfl, if_pos (by omega)]
      · by_cases c2 : k + 1 ≤ j ∧ j < 1134
        · rw [if_pos c2, if_pos (by omega)]
        · rw [if_neg c2, if_neg (fun q => c q.symm), if_neg (by omega)]
  obtain ⟨M2, e1, e2, e3, e4⟩ := main 1134 1200 0 M (by omega) (by omega)
  refine ⟨M2, ?_, e2, e3, fun k hk => ?_⟩
  · unfold f10_copy
    rw [← nI_0]
    exact e1
  · rw [e4, if_pos ⟨Nat.zero_le _, hk⟩]
/-- the reference's history -/
def m_hi (hs : List aSt) (M : gMo) : Prop := M.2 5 = nI hs.length ∧ hs.length ≤ 4 ∧ ∀ i a, hs[i]? = some a → a_ok a ∧ r_m a (fun k => M.1 3 (1134 * i + k))
def h_push (hs : List aSt) (a : aSt) : List aSt := (if hs.length = 4 then hs.drop 1 else hs) ++ [a]
theorem m_rec_l {b1 h : Nat} (h1 : g_msz b1 = 1134) (hb : b1 ≠ 3) (hh : h < 4) : ∀ (d n k : Nat) (M : gMo), k + d = 1134 → d < n → M.2 5 = nI h → ∃ M2, f10_record_51 b1 n M (nI k) = some M2 ∧ M2.2 5 = nI (h + 1) ∧ (∀ j, j ≠ 5 → M2.2 j = M.2 j) ∧ (∀ c, c ≠ 3 → M2.1 c = M.1 c) ∧ ∀ j, M2.1 3 j = if 1134 * h + k ≤ j ∧ j < 1134 * h + 1134 then M.1 b1 (j - 1134 * h) else M.1 3 j := by
  intro d
  induction d with
  | zero =>
    intro n k M hk hn h5
    obtain ⟨n, rfl⟩ : ∃ k, n = k + 1 := ⟨n - 1, by omega⟩
    rw [f10_record_51, if_pos (by rw [l1134, nI_leI (by omega) (by omega)]; omega), q_let, h5, show nI h + (1 : Int32) = nI (h + 1) from nI_add h 1]
    refine ⟨_, rfl, va_up_at M.2 5 (nI (h + 1)), fun j hj => va_up_ne _ _ hj, fun _ _ => rfl, fun j => ?_⟩
    rw [if_neg (by omega)]
    rfl
  | succ d ih =>
    intro n k M hk hn h5
    obtain ⟨n, rfl⟩ : ∃ k, n = k + 1 := ⟨n - 1, by omega⟩
    rw [f10_record_51, if_neg (by rw [l1134, nI_leI (by omega) (by omega)]; omega), h1, h5]
    rw [l1134, pk_mul, nI_add, show nI k + 1 = nI (k + 1) from nI_add k 1]
    simp (disch := omega) only [q_in, nI_clamp, q_let]
    rw [if_pos (by omega), if_pos (by omega)]
    obtain ⟨M2, e1, e2, e3, e4, e5⟩ := ih n (k + 1) (g_ma M 3 (1134 * h + k) (M.1 b1 k)) (by omega) (by omega) h5
    refine ⟨M2, e1, e2, e3, fun c hc => (e4 c hc).trans (g_ma_o M _ _ hc), fun j => ?_⟩
    rw [e5 j, g_ma_o M _ _ hb, g_ma_b, q_up]
    by_cases c : j = 1134 * h + k
    · subst c
      rw [if_neg (by omega), if_pos rfl, if_pos (by omega)]
      exact congrArg (M.1 b1) (by omega)
    · by_cases c2 : 1134 * h + (k + 1) ≤ j ∧ j < 1134 * h + 1134
      · rw [if_pos c2, if_pos (by omega)]
      · rw [if_neg c2, if_neg c, if_neg (by omega)]
theorem m_rec_s {b1 : Nat} (h1 : g_msz b1 = 1134) (hb : b1 ≠ 3) : ∀ (d n k : Nat) (M : gMo), k + d = 3402 → d < n → M.2 5 = 4 → ∃ M2, f10_record_10 b1 n M (nI k) = some M2 ∧ M2.2 5 = nI 4 ∧ (∀ j, j ≠ 5 → M2.2 j = M.2 j) ∧ (∀ c, c ≠ 3 → M2.1 c = M.1 c) ∧ ∀ j, j < 4536 → M2.1 3 j = if 3402 ≤ j then M.1 b1 (j - 3402) else if k ≤ j then M.1 3 (j + 1134) else M.1 3 j := by
  intro d
  induction d with
  | zero =>
    intro n k M hk hn h5
    obtain ⟨n, rfl⟩ : ∃ k, n = k + 1 := ⟨n - 1, by omega⟩
    rw [f10_record_10, if_pos (by rw [show (3402 : Int32) = nI 3402 from rfl, nI_leI (by omega) (by omega)]; omega), q_let, h5, ← nI_0]
    obtain ⟨M2, e1, e2, e3, e4, e5⟩ := m_rec_l h1 hb (h := 3) (by omega) 1134 5000 0 (g_mi M 5 (4 - 1)) (by omega) (by omega) rfl
    refine ⟨M2, e1, e2, fun j hj => (e3 j hj).trans (va_up_ne _ _ hj), e4, fun j hj => ?_⟩
    rw [e5 j]
    by_cases c : 3402 ≤ j
    · rw [if_pos (by omega), if_pos c]
      rfl
    · rw [if_neg (by omega), if_neg c, if_neg (by omega)]
      rfl
  | succ d ih =>
    intro n k M hk hn h5
    obtain ⟨n, rfl⟩ : ∃ k, n = k + 1 := ⟨n - 1, by omega⟩
    rw [f10_record_10, if_neg (by rw [show (3402 : Int32) = nI 3402 from rfl, nI_leI (by omega) (by omega)]; omega)]
    rw [l1134, nI_add, show nI k + 1 = nI (k + 1) from nI_add k 1]
    simp (disch := omega) only [q_in, nI_clamp, q_let]
    rw [if_pos (by omega), if_pos (by omega)]
    obtain ⟨M2, e1, e2, e3, e4, e5⟩ := ih n (k + 1) (g_ma M 3 k (M.1 3 (k + 1134))) (by omega) (by omega) h5
    refine ⟨M2, e1, e2, e3, fun c hc => (e4 c hc).trans (g_ma_o M _ _ hc), fun j hj => ?_⟩
    rw [e5 j hj, g_ma_o M _ _ hb, g_ma_b, q_up, q_up]
    by_cases c : 3402 ≤ j
    · rw [if_pos c, if_pos c]
    · rw [if_neg c, if_neg c]
      by_cases c2 : k + 1 ≤ j
      · rw [if_pos c2, if_neg (by omega), if_pos (by omega)]
      · rw [if_neg c2]
        by_cases c3 : j = k
        · rw [if_pos c3, if_pos (by omega), c3]
        · rw [if_neg c3, if_neg (by omega)]
theorem m_record {hs : List aSt} {M : gMo} (hh : m_hi hs M) {b1 : Nat} (h1 : g_msz b1 = 1134) (hb : b1 ≠ 3) {a : aSt} (ha : a_ok a) (hm : r_m a (M.1 b1)) : ∃ M2, f10_record M b1 = some M2 ∧ m_hi (h_push hs a) M2 ∧ (∀ j, j ≠ 5 → M2.2 j = M.2 j) ∧ ∀ c, c ≠ 3 → M2.1 c = M.1 c := by
  obtain ⟨g1, g2, g3⟩ := hh
  unfold f10_record h_push
  by_cases c : hs.length = 4
  · have e4 : M.2 5 = 4 := by rw [g1, c]; rfl
    rw [if_neg (not_not_intro e4), if_pos c, ← nI_0]
    obtain ⟨M2, e1, e2, e3, e4, e5⟩ := m_rec_s h1 hb 3402 5000 0 M (by omega) (by omega) e4
    refine ⟨M2, e1, ⟨?_, ?_, fun i x hx => ?_⟩, e3, e4⟩
    · rw [e2]; simp [c]
    · simp [c]
    · by_cases ci : i < 3
      · rw [List.getElem?_append_left (by simp; omega), List.getElem?_drop] at hx
        obtain ⟨q1, q2⟩ := g3 (1 + i) x hx
        refine ⟨q1, q2.cg q1 (fun k hk => ?_)⟩
        rw [e5 _ (by omega), if_neg (by omega), if_pos (by omega)]
        exact congrArg (M.1 3) (by omega)
      · rw [List.getElem?_append_right (by simp; omega)] at hx
        have hj : i - (hs.drop 1).length = 0 := by
          have := (List.getElem?_eq_some_iff.mp hx).1
          simp at this ⊢
          omega
        rw [hj] at hx
        cases hx
        have ei : i = 3 := by simp at hj; omega
        subst ei
        refine ⟨ha, hm.cg ha (fun k hk => ?_)⟩
        rw [e5 _ (by omega), if_pos (by omega)]
        exact congrArg (M.1 b1) (by omega)
  · have e4 : ¬ M.2 5 = 4 := by
      rw [g1, l4, nI_eq (by omega) (by omega)]
      exact c
    rw [if_pos e4, if_neg c, ← nI_0]
    obtain ⟨M2, e1, e2, e3, e4, e5⟩ := m_rec_l h1 hb (h := hs.length) (by omega) 1134 5000 0 M (by omega) (by omega) g1
    refine ⟨M2, e1, ⟨?_, ?_, fun i x hx => ?_⟩, e3, e4⟩
    · rw [e2]; simp
    · simp; omega
    · by_cases ci : i < hs.length
      · rw [List.getElem?_append_left ci] at hx
        obtain ⟨q1, q2⟩ := g3 i x hx
        refine ⟨q1, q2.cg q1 (fun k hk => ?_)⟩
        rw [e5, if_neg (by omega)]
      · rw [List.getElem?_append_right (by omega)] at hx
        have hj : i - hs.length = 0 := by
          have := (List.getElem?_eq_some_iff.mp hx).1
          simp at this
          omega
        rw [hj] at hx
        cases hx
        have ei : i = hs.length := by omega
        subst ei
        refine ⟨ha, hm.cg ha (fun k hk => ?_)⟩
        rw [e5, if_pos (by omega)]
        exact congrArg (M.1 b1) (by omega)
