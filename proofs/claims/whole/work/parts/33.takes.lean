/-! THE REFERENCE: a sheet is taken out -/
/-- what the first m sheets are like hasn't changed (but where they are) -/
def m_fx (m : Nat) (f f2 : Nat → Int32) : Prop := ∀ j w, j < m → w < 5 → w ≠ 3 → f2 (50 + 5 * j + w) = f (50 + 5 * j + w)
theorem m_fx.rf {m : Nat} {f : Nat → Int32} : m_fx m f f := fun _ _ _ _ _ => rfl
theorem m_fx.tr {m : Nat} {f f2 f3 : Nat → Int32} (h : m_fx m f f2) (h2 : m_fx m f2 f3) : m_fx m f f3 := fun j w a b c => (h2 j w a b c).trans (h j w a b c)
theorem m_fx.up {m : Nat} {f f2 : Nat → Int32} (h : m_fx m f f2) {c : Nat} (v : Int32) (hc : ∀ j w, j < m → w < 5 → w ≠ 3 → 50 + 5 * j + w ≠ c) : m_fx m f (va_up f2 c v) := fun j w a b d => (va_up_ne _ _ (hc j w a b d)).trans (h j w a b d)
theorem m_breaks {M : gMo} {j : Nat} (hj : j < 200) {w h : Int32} (hw : M.1 0 (50 + 5 * j + 1) = w) (hh : M.1 0 (50 + 5 * j + 2) = h) : f10_breaks M (nI j) = some (if t_br (M.1 0 12) (M.1 0 6 + 1) = true then ((1 : Int32), g_ma (g_ma (g_ma M 0 6 (M.1 0 6 + 1)) 0 4 (M.1 0 4 + w * h)) 0 (50 + 5 * j + 3) (-1)) else (0, g_ma M 0 6 (M.1 0 6 + 1))) := by
  unfold f10_breaks
  simp only [n6, q_let]
  have hs : f10_setting (g_ma M 0 6 (M.1 0 6 + 1)) 3 = some (M.1 0 12) := f10_set_e _ (k := 3) (by omega)
  have h6 : (g_ma M 0 6 (M.1 0 6 + 1)).1 0 6 = M.1 0 6 + 1 := rfl
  rw [hs, q_b1_s, q_b1_s, h6]
  have no : f10_breaks_39 (g_ma M 0 6 (M.1 0 6 + 1)) (nI j) = some ((0 : Int32), g_ma M 0 6 (M.1 0 6 + 1)) := by
    unfold f10_breaks_39 f10_breaks_40
    rw [if_pos rfl, if_pos (Or.inl rfl)]
  by_cases c1 : M.1 0 12 ≤ 0
  · rw [if_pos c1, no, if_neg (by simp [t_br, c1])]
  · have c0 : ¬ M.1 0 12 = 0 := fun q => c1 (by rw [q]; exact Int32.le_refl 0)
    rw [if_neg c1, if_pos c0]
    by_cases c2 : M.1 0 6 + 1 - (M.1 0 6 + 1) / M.1 0 12 * M.1 0 12 = 0
    · rw [if_neg (fun q => q c2), if_pos (by simp [t_br, c1, c2])]
      unfold f10_breaks_40
      rw [if_neg (by decide), f10_area_e _ hj, q_b1_s]
      have e1 : (g_ma M 0 6 (M.1 0 6 + 1)).1 0 (50 + 5 * j + 1) = w := by rw [g_ma_z, va_up_ne _ _ (by omega)]; exact hw
      have e2 : (g_ma M 0 6 (M.1 0 6 + 1)).1 0 (50 + 5 * j + 2) = h := by rw [g_ma_z, va_up_ne _ _ (by omega)]; exact hh
      have e4 : (g_ma M 0 6 (M.1 0 6 + 1)).1 0 4 = M.1 0 4 := rfl
      rw [e1, e2]
      simp (disch := omega) only [n4, q_let, l50, l5, l3, pk_mul, nI_add, q_in, nI_clamp]
      rw [if_pos (by omega), if_pos (by simp), e4]
    · rw [if_pos c2, no, if_neg (by simp [t_br, c2])]
theorem m_takes_c {r j q N : Nat} (hr : r < 4) (hj : j < 200) (hN : N ≤ 8) (w : Int32) (hw : w = 0 ∨ w = 1) : ∀ (R : List gSh) (n k : Nat) (M : gMo) (D : List gSh), R.length < n → D.length ≤ k → k + R.length = N → q < k → (∀ i y, D[i]? = some y → M.1 0 (14 + 9 * r + 1 + i) = y.1) → (∀ i y, R[i]? = some y → M.1 0 (14 + 9 * r + 1 + (k + i)) = y.1) →
    ∃ M2, f10_takes_29 n M (nI j) (nI r) (nI q) (nI N) (nI D.length) w (nI k) = some (w, M2) ∧ m_eq M M2 ∧ m_r1 (D ++ R).reverse (M2.1 0) r ∧ ∀ c, c < 14 + 9 * r ∨ 14 + 9 * r + 9 ≤ c → M2.1 0 c = va_up (M.1 0) (50 + 5 * j + 3) (-1) c := by
  intro R
  induction R with
  | nil =>
    intro n k M D hn hD hk hq hd hR
    obtain ⟨n, rfl⟩ : ∃ k, n = k + 1 := ⟨n - 1, by simp at hn; omega⟩
    simp only [List.length_nil] at hk
    rw [f10_takes_29, if_pos ((nI_leI (by omega) (by omega)).mpr (by omega))]
    simp (disch := omega) only [l14, l9, l50, l5, l3, pk_mul, nI_add, q_in, nI_clamp, q_let]
    rw [if_pos (by omega), if_pos (by omega), if_pos hw]
    refine ⟨_, rfl, (m_eq.rf.ma _ _).ma _ _, ⟨?_, fun i y hy => ?_⟩, fun c hc => ?_⟩
    · rw [g_ma_z, g_ma_z, va_up_ne _ _ (by omega), va_up_at]
      simp
    · rw [List.reverse_reverse, List.append_nil] at hy
      have : i < D.length := (List.getElem?_eq_some_iff.mp hy).1
      rw [g_ma_z, g_ma_z, va_up_ne _ _ (by omega), va_up_ne _ _ (by omega)]
      exact hd i y hy
    · rw [g_ma_z, g_ma_z, q_up, q_up, q_up]
      by_cases e : c = 50 + 5 * j + 3
      · rw [if_pos e, if_pos e]
      · rw [if_neg e, if_neg e, if_neg (by omega)]
  | cons y R ih =>
    intro n k M D hn hD hk hq hd hR
    obtain ⟨n, rfl⟩ : ∃ k, n = k + 1 := ⟨n - 1, by simp at hn; omega⟩
    simp only [List.length_cons] at hk hn
    have h0 : M.1 0 (14 + 9 * r + 1 + k) = y.1 := hR 0 y rfl
    rw [f10_takes_29, if_neg (fun z => by have := (nI_leI (by omega) (by omega)).mp z; omega), f10_stand_e M hr (by omega), q_b1_s, if_pos ((nI_ltI (by omega) (by omega)).mpr hq), if_pos (fun z => by have := (nI_eq (by omega) (by omega)).mp z; omega), h0]
    simp (disch := omega) only [l14, l9, l1, pk_mul, nI_add, q_in, nI_clamp, q_let]
    rw [if_pos (by omega)]
    obtain ⟨M2, e1, e2, e3, e4⟩ := ih n (k + 1) (g_ma M 0 (14 + 9 * r + 1 + D.length) y.1) (D ++ [y]) (by omega) (by simp; omega) (by omega) (by omega) (fun i x hx => by
      rw [g_ma_z, q_up]
      by_cases c : i = D.length
      · subst c
        rw [if_pos rfl]
        simp at hx
        rw [hx]
      · have : i < (D ++ [y]).length := (List.getElem?_eq_some_iff.mp hx).1
        simp at this
        rw [List.getElem?_append_left (by omega)] at hx
        rw [if_neg (by omega)]
        exact hd i x hx) (fun i x hx => by
      rw [g_ma_z, va_up_ne _ _ (by omega), show k + 1 + i = k + (i + 1) by omega]
      exact hR (i + 1) x hx)
    rw [List.length_append, List.length_singleton] at e1
    refine ⟨M2, e1, (m_eq.rf.ma _ _).tr e2, ?_, fun c hc => ?_⟩
    · rw [List.append_assoc] at e3
      exact e3
    · rw [e4 c hc, q_up, g_ma_z, q_up, if_neg (show ¬ c = 14 + 9 * r + 1 + D.length by omega)]
      rfl
theorem m_nu.at {g f : Nat → Int32} (h : m_nu g f) : f 12 = g 3 ∧ f 6 = g 11 ∧ f 4 = g 9 ∧ f 8 = g 12 ∧ f 3 = g 8 ∧ f 2 = g 7 ∧ f 5 = g 10 ∧ f 0 = g 5 ∧ f 1 = g 6 := ⟨h.2.2.2.2.2.2.2.2 3 (by omega), h.2.2.2.2.2.2.1, h.2.2.2.2.1, h.2.2.2.2.2.2.2.1, h.2.2.2.1, h.2.2.1, h.2.2.2.2.2.1, h.1, h.2.1⟩
theorem m_takes_l {r j q N m : Nat} (hr : r < 4) (x : gSh) (hj : j < 200) (ex : x.1 = nI j) (B : List gSh) (hqN : q + 1 + B.length = N) (hN : N ≤ 8) : ∀ (Fs : List gSh) (n k : Nat) (M : gMo) (w : Int32) (K : List gSh) (a : aSt), k_ok m a.2.1 → a.1 12 = nI m → a.2.2.length ≤ 12 → a.2.1 r = B ++ x :: (Fs.reverse ++ K) → m_t a r (M.1 0) → k + Fs.length = q → K.length ≤ k → Fs.length + B.length + 2 ≤ n →
    (∀ i y, K.reverse[i]? = some y → M.1 0 (14 + 9 * r + 1 + i) = y.1) → (∀ i y, (Fs ++ x :: B.reverse)[i]? = some y → M.1 0 (14 + 9 * r + 1 + (k + i)) = y.1) →
    ∃ M2, f10_takes_29 n M (nI j) (nI r) (nI q) (nI N) (nI K.length) w (nI k) = some ((t_end a r B x (t_lift (a.1 3) Fs (a.1 11) (a.1 9) K)).1, M2) ∧ (m_eq M M2 ∧ m_fx 200 (M.1 0) (M2.1 0)) ∧ r_m (t_end a r B x (t_lift (a.1 3) Fs (a.1 11) (a.1 9) K)).2 (M2.1 0) := by
  intro Fs
  induction Fs with
  | nil =>
    intro n k M w K a hk4 hm ho hL ht hk hK hn hKs hFs
    obtain ⟨n, rfl⟩ : ∃ k, n = k + 1 := ⟨n - 1, by omega⟩
    simp only [List.length_nil, Nat.add_zero, List.nil_append, List.reverse_nil] at hk hFs hL
    subst hk
    have hxm : x ∈ a.2.1 r := by rw [hL]; simp
    obtain ⟨px, hpx⟩ := List.getElem?_of_mem hxm
    obtain ⟨m', hm', hm200, hw'⟩ := ht.2.2.1
    obtain ⟨d0, d1, d2, d3, d4⟩ := hw'.1 r px x hr hpx j ex hj
    obtain ⟨v12, v6, v4, -⟩ := ht.1.at
    have hun := r_un_iff.mp hk4.2.2.1
    have hpw := hun.1 r hr
    rw [hL] at hpw
    have hBK : ∀ s, s ∈ B ++ K → s ∈ a.2.1 r ∧ s.1 ≠ nI j := by
      intro s hs
      rw [hL, ← ex]
      rw [List.pairwise_append] at hpw
      rw [List.mem_append] at hs
      rcases hs with hs | hs
      · exact ⟨by simp [hs], hpw.2.2 s hs x (by simp)⟩
      · refine ⟨by simp [hs], ?_⟩
        have := List.pairwise_cons.mp hpw.2.1
        exact fun z => this.1 s hs z.symm
    have hBK2 : ∀ s, s ∈ a.2.1 r → s.1 ≠ nI j → s ∈ B ++ K := by
      intro s hs hne
      rw [hL] at hs
      simp only [List.mem_append, List.mem_cons] at hs ⊢
      rcases hs with hs | hs | hs
      · exact Or.inl hs
      · rw [hs] at hne; exact absurd ex hne
      · exact Or.inr hs
    have hot : ∀ r2 s, r2 < 4 → r2 ≠ r → s ∈ a.2.1 r2 → s.1 ≠ nI j := by
      intro r2 s hr2 hne hs
      rw [← ex]
      exact hun.2 r2 r hr2 hr hne s hs x hxm
    have h0 : M.1 0 (14 + 9 * r + 1 + k) = x.1 := hFs 0 x rfl
    have hN2 : ¬ nI N ≤ nI k := fun z => by have := (nI_leI (by omega) (by omega)).mp z; omega
    rw [f10_takes_29, if_neg hN2, f10_stand_e M hr (by omega), q_b1_s, if_neg (fun z => by have := (nI_ltI (by omega) (by omega)).mp z; omega), if_pos ((nI_leI (by omega) (by omega)).mpr (Nat.le_refl _)), if_neg (fun z => z rfl), m_breaks hj d1 d2, v12, v6, v4]
    rw [show nI k + 1 = nI (k + 1) from nI_add k 1]
    rw [show t_lift (a.1 3) [] (a.1 11) (a.1 9) K = (a.1 11, a.1 9, K) from rfl]
    have ph3 : ∀ (M1 : gMo) (v : Int32), (v = 0 ∨ v = 1) → (∀ c, 14 + 9 * r ≤ c → c < 14 + 9 * r + 9 → M1.1 0 c = M.1 0 c) → ∃ M2, f10_takes_29 n M1 (nI j) (nI r) (nI k) (nI N) (nI K.length) v (nI (k + 1)) = some (v, M2) ∧ m_eq M1 M2 ∧ m_r1 (B ++ K) (M2.1 0) r ∧ ∀ c, c < 14 + 9 * r ∨ 14 + 9 * r + 9 ≤ c → M2.1 0 c = va_up (M1.1 0) (50 + 5 * j + 3) (-1) c := by
      intro M1 v hv hM1
      obtain ⟨M2, e1, e2, e3, e4⟩ := m_takes_c (q := k) hr hj hN v hv B.reverse n (k + 1) M1 K.reverse (by rw [List.length_reverse]; simp at hn; omega) (by rw [List.length_reverse]; omega) (by rw [List.length_reverse]; omega) (by omega) (fun i y hy => by
        have : i < K.reverse.length := (List.getElem?_eq_some_iff.mp hy).1
        rw [List.length_reverse] at this
        rw [hM1 _ (by omega) (by omega)]
        exact hKs i y hy) (fun i y hy => by
        have : i < B.reverse.length := (List.getElem?_eq_some_iff.mp hy).1
        rw [List.length_reverse] at this
        rw [hM1 _ (by omega) (by omega), show k + 1 + i = k + (i + 1) by omega]
        exact hFs (i + 1) y hy)
      rw [List.length_reverse] at e1
      refine ⟨M2, e1, e2, ?_, e4⟩
      have : (K.reverse ++ B.reverse).reverse = B ++ K := by simp
      rw [this] at e3
      exact e3
    by_cases cb : t_br (a.1 3) (a.1 11 + 1) = true
    · rw [if_pos cb, q_bd_s, if_pos (by decide), t_end_y (a := a) (r := r) (B := B) (x := x) (q := (a.1 11, a.1 9, K)) cb]
      have t1 : m_t (va_up (va_up a.1 11 (a.1 11 + 1)) 9 (a.1 9 + x.2.2.1 * x.2.2.2.1), va_up a.2.1 r (B ++ K), a.2.2) r (va_up (va_up (va_up (M.1 0) 6 (a.1 11 + 1)) 4 (a.1 9 + x.2.2.1 * x.2.2.2.1)) (50 + 5 * j + 3) (-1)) := by
        have q1 := ht.nu hk4.2.1 ho (k := 11) (by omega) (a.1 11 + 1)
        have q2 := q1.nu (by exact hk4.2.1) (by exact ho) (k := 9) (by omega) (a.1 9 + x.2.2.1 * x.2.2.2.1)
        exact q2.rem (by exact hk4.2.1) (by exact ho) hj (B ++ K) hBK hBK2 hot
      obtain ⟨M2, e1, e2, e3, e4⟩ := ph3 (g_ma (g_ma (g_ma M 0 6 (a.1 11 + 1)) 0 4 (a.1 9 + x.2.2.1 * x.2.2.2.1)) 0 (50 + 5 * j + 3) (-1)) 0 (Or.inl rfl) (fun c _ _ => by rw [g_ma_z, g_ma_z, g_ma_z, va_up_ne _ _ (by omega), va_up_ne _ _ (by omega), va_up_ne _ _ (by omega)])
      refine ⟨M2, e1, ⟨(((m_eq.rf.ma _ _).ma _ _).ma _ _).tr e2, fun j2 w2 b1 b2 b3 => by rw [e4 _ (by omega), g_ma_z, g_ma_z, g_ma_z, va_up_ne _ _ (by omega), va_up_ne _ _ (by omega), va_up_ne _ _ (by omega), va_up_ne _ _ (by omega)]⟩, (m_t_iff hr ⟨m, ?_, hk4.1⟩).mpr ⟨t1.cg hr (fun r2 hr2 => ?_) (by exact ho) (fun c hc => ?_), ?_⟩⟩
      · show va_up (va_up a.1 11 (a.1 11 + 1)) 9 (a.1 9 + x.2.2.1 * x.2.2.2.1) 12 = nI m
        rw [va_up_ne _ _ (by omega), va_up_ne _ _ (by omega)]
        exact hm
      · show (va_up a.2.1 r (B ++ K) r2).length ≤ 8
        by_cases c : r2 = r
        · subst c
          rw [va_up_at]
          have := hk4.2.1 r2 hr2
          rw [hL] at this
          simp at this ⊢
          omega
        · rw [va_up_ne _ _ c]; exact hk4.2.1 r2 hr2
      · rw [e4 c hc, g_ma_z, g_ma_z, g_ma_z, va_up_up]
      · show m_r1 (va_up a.2.1 r (B ++ K) r) _ r
        rw [va_up_at]
        exact e3
    · rw [if_neg cb, q_bd_s, if_neg (fun z => z rfl), t_end_n (a := a) (r := r) (B := B) (x := x) (q := (a.1 11, a.1 9, K)) cb]
      have en : va_up (va_up a.1 11 (a.1 11 + 1)) 9 (a.1 9) = va_up a.1 11 (a.1 11 + 1) := by
        funext i
        by_cases c : i = 9
        · subst c; rw [va_up_at, va_up_ne _ _ (by omega)]
        · rw [va_up_ne _ _ c]
      have t1 : m_t (va_up a.1 11 (a.1 11 + 1), va_up a.2.1 r (B ++ K), a.2.2) r (va_up (va_up (M.1 0) 6 (a.1 11 + 1)) (50 + 5 * j + 3) (-1)) := by
        have q1 := ht.nu hk4.2.1 ho (k := 11) (by omega) (a.1 11 + 1)
        exact q1.rem (by exact hk4.2.1) (by exact ho) hj (B ++ K) hBK hBK2 hot
      obtain ⟨M2, e1, e2, e3, e4⟩ := ph3 (g_ma M 0 6 (a.1 11 + 1)) 1 (Or.inr rfl) (fun c _ _ => by rw [g_ma_z, va_up_ne _ _ (by omega)])
      refine ⟨M2, e1, ⟨(m_eq.rf.ma _ _).tr e2, fun j2 w2 b1 b2 b3 => by rw [e4 _ (by omega), g_ma_z, va_up_ne _ _ (by omega), va_up_ne _ _ (by omega)]⟩, ?_⟩
      show r_m (va_up (va_up a.1 11 (a.1 11 + 1)) 9 (a.1 9), va_up a.2.1 r (B ++ K), a.2.2) (M2.1 0)
      rw [en]
      refine (m_t_iff hr ⟨m, ?_, hk4.1⟩).mpr ⟨t1.cg hr (fun r2 hr2 => ?_) (by exact ho) (fun c hc => ?_), ?_⟩
      · show va_up a.1 11 (a.1 11 + 1) 12 = nI m
        rw [va_up_ne _ _ (by omega)]
        exact hm
      · show (va_up a.2.1 r (B ++ K) r2).length ≤ 8
        by_cases c : r2 = r
        · subst c
          rw [va_up_at]
          have := hk4.2.1 r2 hr2
          rw [hL] at this
          simp at this ⊢
          omega
        · rw [va_up_ne _ _ c]; exact hk4.2.1 r2 hr2
      · rw [e4 c hc, g_ma_z]
      · show m_r1 (va_up a.2.1 r (B ++ K) r) _ r
        rw [va_up_at]
        exact e3
  | cons y ys ih =>
    intro n k M w K a hk4 hm ho hL ht hk hK hn hKs hFs
    obtain ⟨n, rfl⟩ : ∃ k, n = k + 1 := ⟨n - 1, by omega⟩
    simp only [List.length_cons] at hk hn
    have hm11 : ∀ v : Int32, va_up a.1 11 v 12 = nI m := fun v => (va_up_ne a.1 v (by omega)).trans hm
    have hm119 : ∀ v v2 : Int32, va_up (va_up a.1 11 v) 9 v2 12 = nI m := fun v v2 => (va_up_ne _ v2 (by omega)).trans (hm11 v)
    have hL1 : a.2.1 r = B ++ x :: (ys.reverse ++ (y :: K)) := by rw [hL]; simp
    have hym : y ∈ a.2.1 r := by rw [hL1]; simp
    obtain ⟨py, hpy⟩ := List.getElem?_of_mem hym
    obtain ⟨hsy, jy, hjy, ey⟩ := hk4.2.2.2 r py y hr hpy
    have hjy2 : jy < 200 := by have := hk4.1; omega
    obtain ⟨m', hm', hm200, hw'⟩ := ht.2.2.1
    obtain ⟨d0, d1, d2, d3, d4⟩ := hw'.1 r py y hr hpy jy ey hjy2
    obtain ⟨v12, v6, v4, -⟩ := ht.1.at
    have hun := r_un_iff.mp hk4.2.2.1
    have hpw := hun.1 r hr
    rw [hL1] at hpw
    have h0 : M.1 0 (14 + 9 * r + 1 + k) = y.1 := hFs 0 y rfl
    have hN2 : ¬ nI N ≤ nI k := fun z => by have := (nI_leI (by omega) (by omega)).mp z; omega
    have hk1 : ¬ nI q < nI k := fun z => by have := (nI_ltI (by omega) (by omega)).mp z; omega
    have hk2 : ¬ nI q ≤ nI k := fun z => by have := (nI_leI (by omega) (by omega)).mp z; omega
    have hk3 : ¬ nI k = nI q := fun z => by have := (nI_eq (by omega) (by omega)).mp z; omega
    rw [f10_takes_29, if_neg hN2, f10_stand_e M hr (by omega), q_b1_s, if_neg hk1, if_neg hk2, h0, ey, m_breaks hjy2 d1 d2, v12, v6, v4]
    rw [show nI k + 1 = nI (k + 1) from nI_add k 1]
    by_cases cb : t_br (a.1 3) (a.1 11 + 1) = true
    · rw [if_pos cb, q_bd_s, if_pos (by decide), if_pos hk3]
      have t1 : m_t (va_up (va_up a.1 11 (a.1 11 + 1)) 9 (a.1 9 + y.2.2.1 * y.2.2.2.1), va_up a.2.1 r (B ++ x :: (ys.reverse ++ K)), a.2.2) r (va_up (va_up (va_up (M.1 0) 6 (a.1 11 + 1)) 4 (a.1 9 + y.2.2.1 * y.2.2.2.1)) (50 + 5 * jy + 3) (-1)) := by
        have q1 := ht.nu hk4.2.1 ho (k := 11) (by omega) (a.1 11 + 1)
        have q2 := q1.nu (by exact hk4.2.1) (by exact ho) (k := 9) (by omega) (a.1 9 + y.2.2.1 * y.2.2.2.1)
        refine q2.rem (by exact hk4.2.1) (by exact ho) hjy2 (B ++ x :: (ys.reverse ++ K)) (fun s hs => ?_) (fun s hs hne => ?_) (fun r2 s hr2 hne hs => ?_)
        · show s ∈ a.2.1 r ∧ _
          rw [hL1, ← ey]
          have hp2 : (y :: (B ++ x :: (ys.reverse ++ K))).Perm (B ++ x :: (ys.reverse ++ (y :: K))) := by
            have e : B ++ x :: (ys.reverse ++ (y :: K)) = (B ++ x :: ys.reverse) ++ y :: K := by simp
            have e2 : B ++ x :: (ys.reverse ++ K) = (B ++ x :: ys.reverse) ++ K := by simp
            rw [e, e2]
            exact List.perm_middle.symm
          have hpw2 := (hp2.pairwise_iff (R := fun (x y : gSh) => x.1 ≠ y.1) (fun h => Ne.symm h)).mpr hpw
          refine ⟨hp2.mem_iff.mp (List.mem_cons_of_mem _ hs), ?_⟩
          exact fun z => (List.pairwise_cons.mp hpw2).1 s hs z.symm
        · change s ∈ a.2.1 r at hs
          rw [hL1] at hs
          simp only [List.mem_append, List.mem_cons] at hs ⊢
          rcases hs with hs | hs | hs | hs | hs
          · exact Or.inl hs
          · exact Or.inr (Or.inl hs)
          · exact Or.inr (Or.inr (Or.inl hs))
          · rw [hs] at hne; exact absurd ey hne
          · exact Or.inr (Or.inr (Or.inr hs))
        · rw [← ey]
          exact hun.2 r2 r hr2 hr hne s hs y hym
      have hsub : ∀ r2, r2 < 4 → (va_up a.2.1 r (B ++ x :: (ys.reverse ++ K)) r2).Sublist (a.2.1 r2) := by
        intro r2 hr2
        by_cases c : r2 = r
        · subst c
          rw [va_up_at, hL1]
          exact List.Sublist.append (List.Sublist.refl _) (List.Sublist.cons_cons _ (List.Sublist.append (List.Sublist.refl _) (List.sublist_cons_self _ _)))
        · rw [va_up_ne _ _ c]
          exact List.Sublist.refl _
      obtain ⟨M2, e1, e2, e3⟩ := ih n (k + 1) (g_ma (g_ma (g_ma M 0 6 (a.1 11 + 1)) 0 4 (a.1 9 + y.2.2.1 * y.2.2.2.1)) 0 (50 + 5 * jy + 3) (-1)) w K (va_up (va_up a.1 11 (a.1 11 + 1)) 9 (a.1 9 + y.2.2.1 * y.2.2.2.1), va_up a.2.1 r (B ++ x :: (ys.reverse ++ K)), a.2.2) (hk4.sub hsub) (hm119 (a.1 11 + 1) (a.1 9 + y.2.2.1 * y.2.2.2.1)) ho (va_up_at _ _ _) t1 (by omega) (by omega) (by omega) (fun i s hs => by
          have : i < K.reverse.length := (List.getElem?_eq_some_iff.mp hs).1
          rw [List.length_reverse] at this
          rw [g_ma_z, g_ma_z, g_ma_z, va_up_ne _ _ (by omega), va_up_ne _ _ (by omega), va_up_ne _ _ (by omega)]
          exact hKs i s hs) (fun i s hs => by
          have : i < (ys ++ x :: B.reverse).length := (List.getElem?_eq_some_iff.mp hs).1
          simp at this
          rw [g_ma_z, g_ma_z, g_ma_z, va_up_ne _ _ (by omega), va_up_ne _ _ (by omega), va_up_ne _ _ (by omega), show k + 1 + i = k + (i + 1) by omega]
          exact hFs (i + 1) s hs)
      rw [t_end_up (a := a) (a2 := (va_up (va_up a.1 11 (a.1 11 + 1)) 9 (a.1 9 + y.2.2.1 * y.2.2.2.1), va_up a.2.1 r (B ++ x :: (ys.reverse ++ K)), a.2.2)) (fun k k1 k2 => (va_up_ne _ _ k2).trans (va_up_ne _ _ k1)) (fun k k1 => va_up_ne _ _ k1) rfl] at e1 e3
      have g3 : va_up (va_up a.1 11 (a.1 11 + 1)) 9 (a.1 9 + y.2.2.1 * y.2.2.2.1) 3 = a.1 3 := by rw [va_up_ne _ _ (by omega), va_up_ne _ _ (by omega)]
      have g11 : va_up (va_up a.1 11 (a.1 11 + 1)) 9 (a.1 9 + y.2.2.1 * y.2.2.2.1) 11 = a.1 11 + 1 := by rw [va_up_ne _ _ (by omega), va_up_at]
      have g9 : va_up (va_up a.1 11 (a.1 11 + 1)) 9 (a.1 9 + y.2.2.1 * y.2.2.2.1) 9 = a.1 9 + y.2.2.1 * y.2.2.2.1 := va_up_at _ _ _
      simp only [g3, g11, g9] at e1 e3
      rw [t_lift, if_pos cb]
      exact ⟨M2, e1, ⟨(((m_eq.rf.ma _ _).ma _ _).ma _ _).tr e2.1, (((m_fx.rf.up _ (fun j2 w2 _ _ _ => by omega)).up _ (fun j2 w2 _ _ _ => by omega)).up _ (fun j2 w2 _ _ _ => by omega)).tr e2.2⟩, e3⟩
    · rw [if_neg cb, q_bd_s, if_neg (fun z => z rfl), if_pos hk3]
      simp (disch := omega) only [l14, l9, l1, pk_mul, nI_add, q_in, nI_clamp, q_let]
      rw [if_pos (by omega)]
      have t1 : m_t (va_up a.1 11 (a.1 11 + 1), a.2) r (va_up (va_up (M.1 0) 6 (a.1 11 + 1)) (14 + 9 * r + 1 + K.length) (nI jy)) :=
        (ht.nu hk4.2.1 ho (k := 11) (by omega) (a.1 11 + 1)).cr hr (by exact hk4.2.1) (by exact ho) _ (by omega)
      obtain ⟨M2, e1, e2, e3⟩ := ih n (k + 1) (g_ma (g_ma M 0 6 (a.1 11 + 1)) 0 (14 + 9 * r + 1 + K.length) (nI jy)) w (y :: K) (va_up a.1 11 (a.1 11 + 1), a.2) hk4 (hm11 (a.1 11 + 1)) ho hL1 t1 (by omega) (by simp; omega) (by omega) (fun i s hs => by
          rw [List.reverse_cons] at hs
          rw [g_ma_z, g_ma_z, q_up]
          by_cases c : i = K.length
          · subst c
            rw [List.getElem?_append_right (by simp)] at hs
            simp at hs
            rw [if_pos rfl, ← hs, ey]
          · have : i < (K.reverse ++ [y]).length := (List.getElem?_eq_some_iff.mp hs).1
            simp at this
            rw [List.getElem?_append_left (by simp; omega)] at hs
            rw [if_neg (by omega), va_up_ne _ _ (by omega)]
            exact hKs i s hs) (fun i s hs => by
          have : i < (ys ++ x :: B.reverse).length := (List.getElem?_eq_some_iff.mp hs).1
          simp at this
          rw [g_ma_z, g_ma_z, va_up_ne _ _ (by omega), va_up_ne _ _ (by omega), show k + 1 + i = k + (i + 1) by omega]
          exact hFs (i + 1) s hs)
      rw [t_end_up (a := a) (a2 := (va_up a.1 11 (a.1 11 + 1), a.2)) (fun k k1 _ => va_up_ne _ _ k1) (fun _ _ => rfl) rfl] at e1 e3
      simp only [va_up_at, va_up_ne a.1 (k := 11) (j := 3) _ (by omega), va_up_ne a.1 (k := 11) (j := 9) _ (by omega)] at e1 e3
      rw [t_lift, if_neg cb]
      exact ⟨M2, e1, ⟨((m_eq.rf.ma _ _).ma _ _).tr e2.1, ((m_fx.rf.up _ (fun j2 w2 _ _ _ => by omega)).up _ (fun j2 w2 _ _ _ => by omega)).tr e2.2⟩, e3⟩
theorem m_takes {a : aSt} (ha : a_ok a) {M : gMo} (hm : r_m a (M.1 0)) {r p : Nat} {x : gSh} (hr : r < 4) (hx : (a.2.1 r)[p]? = some x) : ∃ M2, f10_takes M x.1 = some ((t_out a r p x).1, M2) ∧ (m_eq M M2 ∧ m_fx 200 (M.1 0) (M2.1 0)) ∧ r_m (t_out a r p x).2 (M2.1 0) := by
  have hi := (m_its ha hm hr hx).2.2.2.1
  have hb := m_before ha hm hr hx
  obtain ⟨hn, ⟨m, hm2, hk4⟩, hos⟩ := ha
  have hp : p < (a.2.1 r).length := (List.getElem?_eq_some_iff.mp hx).1
  have hl := hk4.2.1 r hr
  obtain ⟨hsx, j, hj, ej⟩ := hk4.2.2.2 r p x hr hx
  have hj2 : j < 200 := by have := hk4.1; omega
  obtain ⟨ht, hr1⟩ := (m_t_iff hr ⟨m, hm2, hk4.1⟩).mp hm
  unfold f10_takes t_out
  rw [hi, q_b1_s, hb, q_b1_s, f10_many_e M hr, q_b1_s, hr1.1, ej]
  have e := m_takes_l (q := (a.2.1 r).length - 1 - p) (N := (a.2.1 r).length) hr x hj2 ej ((a.2.1 r).take p) (by rw [List.length_take]; omega) hl ((a.2.1 r).drop (p + 1)).reverse 70 0 M 1 [] a hk4 hm2 hos.1 (by rw [List.reverse_reverse, List.append_nil, ← drop_at hx, List.take_append_drop]) ht (by rw [List.length_reverse, List.length_drop]; omega) (Nat.le_refl _) (by rw [List.length_reverse, List.length_drop, List.length_take]; omega) (fun i y hy => by simp at hy) (fun i y hy => by
    rw [Nat.zero_add]
    refine hr1.2 i y ?_
    have : (a.2.1 r).reverse = ((a.2.1 r).drop (p + 1)).reverse ++ x :: ((a.2.1 r).take p).reverse := by
      have e2 : a.2.1 r = (a.2.1 r).take p ++ x :: (a.2.1 r).drop (p + 1) := by rw [← drop_at hx, List.take_append_drop]
      have e3 := congrArg List.reverse e2
      rw [List.reverse_append, List.reverse_cons, List.append_assoc] at e3
      exact e3
    rw [this]
    exact hy)
  rw [← nI_0]
  exact e
