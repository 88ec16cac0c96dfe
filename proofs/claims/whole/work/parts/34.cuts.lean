/-! THE REFERENCE: a sheet comes to the front, is made; a cut -/
theorem m_leans_l {r j N : Nat} (hr : r < 4) (hj : j < 200) (hN : N < 8) : ∀ (k n : Nat) (M : gMo), k ≤ N → k < n → ∃ M2, f10_leans_9 n M (nI r) (nI j) (nI N) (nI k) = some M2 ∧ m_eq M M2 ∧ ∀ c, M2.1 0 c = if c = 50 + 5 * j + 3 then nI r else if c = 14 + 9 * r then nI (N + 1) else if c = 14 + 9 * r + 1 then nI j else if 14 + 9 * r + 1 < c ∧ c ≤ 14 + 9 * r + 1 + k then M.1 0 (c - 1) else M.1 0 c := by
  intro k
  induction k with
  | zero =>
    intro n M hk hn
    obtain ⟨n, rfl⟩ : ∃ k, n = k + 1 := ⟨n - 1, by omega⟩
    rw [f10_leans_9, if_pos (by rw [nI_0]; exact Int32.le_refl 0)]
    simp (disch := omega) only [l14, l9, l50, l5, l3, l1, pk_mul, nI_add, q_in, nI_clamp, q_let]
    rw [if_pos (by omega), if_pos (by omega), if_pos (by omega)]
    refine ⟨_, rfl, ((m_eq.rf.ma _ _).ma _ _).ma _ _, fun c => ?_⟩
    rw [g_ma_z, g_ma_z, g_ma_z, q_up, q_up, q_up]
    by_cases c1 : c = 50 + 5 * j + 3
    · rw [if_pos c1, if_pos c1]
    · rw [if_neg c1, if_neg c1]
      by_cases c2 : c = 14 + 9 * r
      · rw [if_pos c2, if_pos c2]
      · rw [if_neg c2, if_neg c2]
        by_cases c3 : c = 14 + 9 * r + 1
        · rw [if_pos c3, if_pos c3]
        · rw [if_neg c3, if_neg c3, if_neg (by omega)]
  | succ k ih =>
    intro n M hk hn
    obtain ⟨n, rfl⟩ : ∃ k, n = k + 1 := ⟨n - 1, by omega⟩
    rw [f10_leans_9, if_neg (by rw [← nI_0, nI_leI (by omega) (by omega)]; omega), pk_m1]
    simp (disch := omega) only [l14, l9, l1, pk_mul, nI_add, q_in, nI_clamp, q_let]
    rw [if_pos (by omega), if_pos (by omega)]
    obtain ⟨M2, e1, e2, e3⟩ := ih n (g_ma M 0 (14 + 9 * r + 1 + (k + 1)) (M.1 0 (14 + 9 * r + (k + 1)))) (by omega) (by omega)
    refine ⟨M2, e1, (m_eq.rf.ma _ _).tr e2, fun c => ?_⟩
    rw [e3 c]
    by_cases c1 : c = 50 + 5 * j + 3
    · rw [if_pos c1, if_pos c1]
    · rw [if_neg c1, if_neg c1]
      by_cases c2 : c = 14 + 9 * r
      · rw [if_pos c2, if_pos c2]
      · rw [if_neg c2, if_neg c2]
        by_cases c3 : c = 14 + 9 * r + 1
        · rw [if_pos c3, if_pos c3]
        · rw [if_neg c3, if_neg c3]
          by_cases c4 : 14 + 9 * r + 1 < c ∧ c ≤ 14 + 9 * r + 1 + k
          · rw [if_pos c4, if_pos (by omega), g_ma_z, va_up_ne _ _ (by omega)]
          · rw [if_neg c4]
            by_cases c5 : c = 14 + 9 * r + 1 + (k + 1)
            · rw [if_pos (by omega), g_ma_z, c5, va_up_at]
              exact congrArg (M.1 0) (by omega)
            · rw [if_neg (by omega), g_ma_z, va_up_ne _ _ c5]
/-- a sheet that is nowhere comes to the front of a rack -/
theorem m_leans {a : aSt} {M : gMo} {r j m : Nat} {x : gSh} (hr : r < 4) (hjm : j < m) (hm200 : m ≤ 200) (ex : x.1 = nI j) (h1 : m_nu a.1 (M.1 0)) (h2 : ∀ r2, r2 < 4 → m_r1 (a.2.1 r2) (M.1 0) r2) (hm : a.1 12 = nI m) (h3 : m_sh a.2.1 (M.1 0)) (h4 : ∀ k, k < m → k ≠ j → (∀ (r p : Nat) (s : gSh), r < 4 → (a.2.1 r)[p]? = some s → s.1 ≠ nI k) → M.1 0 (50 + 5 * k + 3) = -1) (h5 : m_od a.2.2 (M.1 0)) (ho : a.2.2.length ≤ 12)
    (d0 : M.1 0 (50 + 5 * j) = x.2.1) (d1 : M.1 0 (50 + 5 * j + 1) = x.2.2.1) (d2 : M.1 0 (50 + 5 * j + 2) = x.2.2.2.1) (d4 : M.1 0 (50 + 5 * j + 4) = x.2.2.2.2) (hl : ∀ r, r < 4 → (a.2.1 r).length ≤ 8) (hlr : (a.2.1 r).length < 8) (hno : ∀ (r p : Nat) (s : gSh), r < 4 → (a.2.1 r)[p]? = some s → s.1 ≠ nI j) :
    ∃ M2, f10_leans M (nI r) (nI j) = some M2 ∧ (m_eq M M2 ∧ m_fx 200 (M.1 0) (M2.1 0)) ∧ r_m (a.1, va_up a.2.1 r (a.2.1 r ++ [x]), a.2.2) (M2.1 0) := by
  obtain ⟨M2, e1, e2, e3⟩ := m_leans_l (N := (a.2.1 r).length) hr (show j < 200 by omega) hlr (a.2.1 r).length 70 M (Nat.le_refl _) (by omega)
  have out : ∀ c, (c < 14 + 9 * r ∨ 14 + 9 * r + 9 ≤ c) → c ≠ 50 + 5 * j + 3 → M2.1 0 c = M.1 0 c := fun c q q2 => by
    rw [e3 c, if_neg q2, if_neg (by omega), if_neg (by omega), if_neg (by omega)]
  refine ⟨M2, ?_, ⟨e2, fun i w b1 b2 b3 => out _ (by omega) (by omega)⟩, ?_⟩
  · unfold f10_leans
    rw [f10_many_e M hr, q_b1_s, (h2 r hr).1]
    exact e1
  · have inL : ∀ {r2 p : Nat} {s : gSh}, (va_up a.2.1 r (a.2.1 r ++ [x]) r2)[p]? = some s → (∃ p2 : Nat, (a.2.1 r2)[p2]? = some s) ∨ (s = x ∧ r2 = r) := by
      intro r2 p s hs
      by_cases c : r2 = r
      · subst c
        rw [va_up_at] at hs
        have := List.mem_of_getElem? hs
        rw [List.mem_append, List.mem_singleton] at this
        rcases this with q | q
        · exact Or.inl (List.getElem?_of_mem q)
        · exact Or.inr ⟨q, rfl⟩
      · rw [va_up_ne _ _ c] at hs
        exact Or.inl ⟨p, hs⟩
    have up : ∀ {r2 p : Nat} {s : gSh}, (a.2.1 r2)[p]? = some s → ∃ p2 : Nat, (va_up a.2.1 r (a.2.1 r ++ [x]) r2)[p2]? = some s := by
      intro r2 p s hs
      by_cases c : r2 = r
      · subst c
        refine ⟨p, ?_⟩
        rw [va_up_at, List.getElem?_append_left (List.getElem?_eq_some_iff.mp hs).1]
        exact hs
      · exact ⟨p, by rw [va_up_ne _ _ c]; exact hs⟩
    refine ⟨h1.cg (fun k k1 k2 => out k (by omega) (by omega)), m_rk_iff.mpr (fun r2 hr2 => ?_), fun r2 p s hr2 hs k ek hk => ?_, ⟨m, hm, fun k hk hn => ?_⟩, h5.cg ho (fun k hk => out k (by omega) (by omega))⟩
    · show m_r1 (va_up a.2.1 r (a.2.1 r ++ [x]) r2) _ r2
      by_cases c : r2 = r
      · subst c
        rw [va_up_at]
        refine ⟨?_, fun i y hy => ?_⟩
        · rw [e3, if_neg (by omega), if_pos rfl, List.length_append]
          rfl
        · rw [List.reverse_append] at hy
          have hi : i < ([x].reverse ++ (a.2.1 r2).reverse).length := (List.getElem?_eq_some_iff.mp hy).1
          simp at hi
          cases i with
          | zero =>
            simp at hy
            rw [e3, if_neg (by omega), if_neg (by omega), if_pos (by omega), ← hy, ex]
          | succ i =>
            simp at hy
            rw [e3, if_neg (by omega), if_neg (by omega), if_neg (by omega), if_pos (by omega), show 14 + 9 * r2 + 1 + (i + 1) - 1 = 14 + 9 * r2 + 1 + i by omega]
            exact (h2 r2 hr2).2 i y hy
      · rw [va_up_ne _ _ c]
        exact (h2 r2 hr2).cg hr2 (hl r2 hr2) (fun k k1 k2 => out k (by omega) (by omega))
    · rcases inL hs with ⟨p2, hp2⟩ | ⟨q1, q2⟩
      · have hkj : k ≠ j := fun q => hno r2 p2 s hr2 hp2 (by rw [ek, q])
        rw [out _ (by omega) (by omega), out _ (by omega) (by omega), out _ (by omega) (by omega), out _ (by omega) (by omega), out _ (by omega) (by omega)]
        exact h3 r2 p2 s hr2 hp2 k ek hk
      · have hkj : k = j := by
          rw [q1, ex] at ek
          exact ((nI_eq (by omega) (by omega)).mp ek).symm
        subst hkj
        rw [out (50 + 5 * k) (by omega) (by omega), out (50 + 5 * k + 1) (by omega) (by omega), out (50 + 5 * k + 2) (by omega) (by omega), out (50 + 5 * k + 4) (by omega) (by omega), d0, d1, d2, d4, q1, e3, if_pos rfl, q2]
        exact ⟨rfl, rfl, rfl, rfl, rfl⟩
    · have hkj : k ≠ j := by
        intro q
        have hx : (va_up a.2.1 r (a.2.1 r ++ [x]) r)[(a.2.1 r).length]? = some x := by
          rw [va_up_at, List.getElem?_append_right (Nat.le_refl _), Nat.sub_self]
          rfl
        exact hn r _ x hr hx (by rw [ex, q])
      rw [out _ (by omega) (by omega)]
      refine h4 k hk hkj (fun r2 p s hr2 hs q => ?_)
      obtain ⟨p2, hp2⟩ := up hs
      exact hn r2 p2 s hr2 hp2 q
theorem m_makes {a : aSt} {M : gMo} {r m : Nat} (hr : r < 4) (hm : a.1 12 = nI m) (hm200 : m < 200) (hk4 : k_ok m a.2.1) (ho : a.2.2.length ≤ 12) (h : r_m a (M.1 0)) (hlr : (a.2.1 r).length < 8) (q w y s : Int32) : ∃ M2, f10_makes M (nI r) q w y s = some (nI m, M2) ∧ (m_eq M M2 ∧ m_fx m (M.1 0) (M2.1 0)) ∧ r_m (va_up a.1 12 (nI (m + 1)), va_up a.2.1 r (a.2.1 r ++ [(nI m, q, w, y, s)]), a.2.2) (M2.1 0) := by
  obtain ⟨h1, h2, h3, ⟨m', e', h4⟩, h5⟩ := h
  have em : m' = m ∨ m < m' := by
    rw [hm] at e'
    by_cases hb : m' < 2 ^ 31
    · exact Or.inl ((nI_eq (by omega) hb).mp e').symm
    · exact Or.inr (by omega)
  have e8 : M.1 0 8 = nI m := h1.at.2.2.2.1.trans hm
  unfold f10_makes
  simp (disch := omega) only [n8, e8, q_let, l50, l5, l4, l2, l1, ← nI_0, pk_mul, nI_add, q_in, nI_clamp]
  rw [if_pos (by omega), if_pos (by omega), if_pos (by omega), if_pos (by omega)]
  have out : ∀ c, c ≠ 8 → (c < 50 + 5 * m ∨ 50 + 5 * m + 5 ≤ c ∨ c = 50 + 5 * m + 3) → (g_ma (g_ma (g_ma (g_ma (g_ma M 0 8 (nI (m + 1))) 0 (50 + 5 * m + 0) q) 0 (50 + 5 * m + 1) w) 0 (50 + 5 * m + 2) y) 0 (50 + 5 * m + 4) s).1 0 c = M.1 0 c := fun c c1 c2 => by
    rw [g_ma_z, g_ma_z, g_ma_z, g_ma_z, g_ma_z, va_up_ne _ _ (by omega), va_up_ne _ _ (by omega), va_up_ne _ _ (by omega), va_up_ne _ _ (by omega), va_up_ne _ _ (by omega)]
  have hno : ∀ (r p : Nat) (s : gSh), r < 4 → (a.2.1 r)[p]? = some s → s.1 ≠ nI m := by
    intro r2 p s2 hr2 hs2 q2
    obtain ⟨-, k, hk, ek⟩ := hk4.2.2.2 r2 p s2 hr2 hs2
    rw [ek, nI_eq (by omega) (by omega)] at q2
    omega
  rw [m_rk_iff] at h2
  obtain ⟨M2, e1, e2, e3⟩ := m_leans (a := (va_up a.1 12 (nI (m + 1)), a.2)) (M := g_ma (g_ma (g_ma (g_ma (g_ma M 0 8 (nI (m + 1))) 0 (50 + 5 * m + 0) q) 0 (50 + 5 * m + 1) w) 0 (50 + 5 * m + 2) y) 0 (50 + 5 * m + 4) s) (r := r) (j := m) (m := m + 1) (x := (nI m, q, w, y, s)) hr (by omega) (by omega) rfl
    ((h1.up (k := 12) (by omega) (nI (m + 1))).cg (fun k k1 k2 => by
      by_cases c : k = 8
      · subst c
        rw [g_ma_z, g_ma_z, g_ma_z, g_ma_z, g_ma_z, va_up_ne _ _ (by omega), va_up_ne _ _ (by omega), va_up_ne _ _ (by omega), va_up_ne _ _ (by omega), va_up_at]
        rfl
      · rw [out k c (by omega), va_up_ne _ _ (show k ≠ nc 12 from c)]))
    (fun r2 hr2 => (h2 r2 hr2).cg hr2 (hk4.2.1 r2 hr2) (fun k k1 k2 => out k (by omega) (by omega))) (va_up_at a.1 12 (nI (m + 1)))
    (fun r2 p s2 hr2 hs2 k ek hk => by
      have hkm : k ≠ m := fun z => hno r2 p s2 hr2 hs2 (by rw [ek, z])
      rw [out _ (by omega) (by omega), out _ (by omega) (by omega), out _ (by omega) (by omega), out _ (by omega) (by omega), out _ (by omega) (by omega)]
      exact h3 r2 p s2 hr2 hs2 k ek hk)
    (fun k hk hkm hn => by
      rw [out _ (by omega) (by omega)]
      exact h4 k (by omega) hn)
    (h5.cg ho (fun k hk => out k (by omega) (by omega))) ho
    (by rw [g_ma_z, g_ma_z, g_ma_z, g_ma_z, va_up_ne _ _ (by omega), va_up_ne _ _ (by omega), va_up_ne _ _ (by omega)]; exact va_up_at _ _ _)
    (by rw [g_ma_z, g_ma_z, g_ma_z, va_up_ne _ _ (by omega), va_up_ne _ _ (by omega), va_up_at])
    (by rw [g_ma_z, g_ma_z, va_up_ne _ _ (by omega), va_up_at])
    (by rw [g_ma_z, va_up_at]) hk4.2.1 hlr hno
  rw [e1, q_b1_s]
  refine ⟨M2, rfl, ⟨(((((m_eq.rf.ma _ _).ma _ _).ma _ _).ma _ _).ma _ _).tr e2.1, fun j w2 b1 b2 b3 => ?_⟩, e3⟩
  rw [e2.2 j w2 (by omega) b2 b3, out _ (by omega) (by omega)]
theorem m_od.set {os : List gOd} {f f2 : Nat → Int32} (h : m_od os f) {k : Nat} {o o2 : gOd} (hl : os.length ≤ 12) (hk : os[k]? = some o) (e : ∀ c, c = 7 ∨ (1050 ≤ c ∧ c < 1134) → c ≠ 1050 + 7 * k + 4 → c ≠ 1050 + 7 * k + 5 → c ≠ 1050 + 7 * k + 6 → f2 c = f c) (e1 : o2.2.1 = o.2.1) (e2 : o2.2.2.1 = o.2.2.1) (e3 : o2.2.2.2.1 = o.2.2.2.1) (e4 : o2.2.2.2.2.1 = o.2.2.2.2.1) (c4 : f2 (1050 + 7 * k + 4) = o2.2.2.2.2.2.1) (c5 : o2.2.2.2.2.2.1 = 1 → f2 (1050 + 7 * k + 5) = o2.2.2.2.2.2.2.1 ∧ f2 (1050 + 7 * k + 6) = o2.2.2.2.2.2.2.2) : m_od (os.set k o2) f2 := by
  have hkl : k < os.length := (List.getElem?_eq_some_iff.mp hk).1
  obtain ⟨h1, h2, h3⟩ := h
  refine ⟨?_, fun j x hx => ?_, fun j j1 j2 => ?_⟩
  · rw [List.length_set, e 7 (Or.inl rfl) (by omega) (by omega) (by omega)]
    exact h1
  · rw [List.getElem?_set] at hx
    by_cases c : k = j
    · subst c
      rw [if_pos rfl, if_pos hkl] at hx
      cases hx
      obtain ⟨g0, g1, g2, g3, g4, g5⟩ := h2 k o hk
      rw [e _ (by omega) (by omega) (by omega) (by omega), e _ (by omega) (by omega) (by omega) (by omega), e _ (by omega) (by omega) (by omega) (by omega), e _ (by omega) (by omega) (by omega) (by omega), g0, g1, g2, g3, e1, e2, e3, e4]
      exact ⟨rfl, rfl, rfl, rfl, c4, c5⟩
    · rw [if_neg c] at hx
      have : j < os.length := (List.getElem?_eq_some_iff.mp hx).1
      rw [e _ (by omega) (by omega) (by omega) (by omega), e _ (by omega) (by omega) (by omega) (by omega), e _ (by omega) (by omega) (by omega) (by omega), e _ (by omega) (by omega) (by omega) (by omega), e _ (by omega) (by omega) (by omega) (by omega), e _ (by omega) (by omega) (by omega) (by omega), e _ (by omega) (by omega) (by omega) (by omega)]
      exact h2 j x hx
  · rw [List.length_set] at j1
    rw [e _ (by omega) (by omega) (by omega) (by omega)]
    exact h3 j j1 j2
/-- a number has changed, the row too -/
theorem r_m.nu {a : aSt} {f : Nat → Int32} (h : r_m a f) (hl : ∀ r, r < 4 → (a.2.1 r).length ≤ 8) (ho : a.2.2.length ≤ 12) (ha : ∃ m, a.1 12 = nI m ∧ m ≤ 200) {k : Nat} (hk : k < 12) (v : Int32) : r_m (va_up a.1 k v, a.2) (va_up f (nc k) v) := by
  have hn := nc_lt (k := k) (by omega)
  obtain ⟨m, e1, e2⟩ := ha
  obtain ⟨ht, h1⟩ := (m_t_iff (r := 0) (by omega) ⟨m, e1, e2⟩).mp h
  exact (m_t_iff (r := 0) (by omega) ⟨m, (va_up_ne _ _ (by omega)).trans e1, e2⟩).mpr ⟨ht.nu hl ho hk v, h1.cg (by omega) (hl 0 (by omega)) (fun c c1 c2 => va_up_ne _ _ (by omega))⟩
