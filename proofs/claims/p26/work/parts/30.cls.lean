/-! out of whole: the class alone -/
theorem s_sh : ∀ n, n < 12 → ((nI n &&& 31).toBitVec.smod 32).toNat = n := by decide
theorem s_bit {S k : Nat} (hS : S < 4096) (hk : k < 12) : ((nI S >>> (nI k &&& 31)) &&& (1 : Int32)) = 0 ↔ S.testBit k = false := by
  have hd : S / 2 ^ k ≤ S := Nat.div_le_self _ _
  rw [pk_shrN (by omega) _ k (s_sh k hk), pk_andN (by omega) 1 (by decide), Nat.testBit_eq_decide_div_mod_eq]
  have hm : S / 2 ^ k % 2 < 2 := Nat.mod_lt _ (by omega)
  rw [show (2 : Nat) ^ 1 = 2 from rfl, ← nI_0, nI_eq (by omega) (by omega)]
  simp
theorem nI_or (a b : Nat) : nI a ||| nI b = nI (a ||| b) := by
  apply Int32.toBitVec_inj.mp
  rw [Int32.toBitVec_or]
  unfold nI
  simp
theorem s_set (S : Nat) {k : Nat} (hk : k < 12) : nI S ||| ((1 : Int32) <<< (nI k &&& 31)) = nI (S ||| 2 ^ k) := by
  have h2 : 2 ^ k ≤ 2 ^ 12 := Nat.pow_le_pow_right (by omega) (by omega)
  rw [l1, pk_shlN _ k (s_sh k hk) (by omega), Nat.one_mul, nI_or]
theorem s_lt {S k : Nat} (hS : S < 4096) (hk : k < 12) : S ||| 2 ^ k < 4096 :=
  Nat.or_lt_two_pow (n := 12) hS (Nat.pow_lt_pow_right (by omega) hk)
theorem s_or (S k j : Nat) : (S ||| 2 ^ k).testBit j = (S.testBit j || decide (k = j)) := by
  rw [Nat.testBit_or, Nat.testBit_two_pow]
def m_nm (b : Option gOd) : Int32 := match b with
  | none => -5
  | some o => o.1
theorem nI_m5 {k : Nat} (h : k < 2 ^ 31) : ¬ nI k = -5 := fun q => nI_pos h (by rw [q]; decide)
theorem o_best_le (P : gOd → Bool) : ∀ (os : List gOd) (b : Option gOd) (x : gOd), o_best P b os = some x → (b = some x ∨ (x ∈ os ∧ P x = true)) ∧ (∀ y, b = some y → o_key x ≤ o_key y) ∧ ∀ y ∈ os, P y = true → o_key x ≤ o_key y := by
  intro os
  induction os with
  | nil => intro b x h; exact ⟨Or.inl h, fun y q => by have := h.symm.trans q; cases this; exact Nat.le_refl _, fun y q => by cases q⟩
  | cons o os ih =>
    intro b x h
    rw [o_best_c] at h
    obtain ⟨h1, h2, h3⟩ := ih _ _ h
    by_cases c : P o = true ∧ (∀ x, b = some x → o_key o < o_key x)
    · rw [if_pos c] at h1 h2
      have hx := h2 o rfl
      refine ⟨?_, fun y q => Nat.le_trans hx (Nat.le_of_lt (c.2 y q)), fun y hy hp => ?_⟩
      · rcases h1 with q | q
        · cases q; exact Or.inr ⟨List.mem_cons_self, c.1⟩
        · exact Or.inr ⟨List.mem_cons_of_mem _ q.1, q.2⟩
      · rcases List.mem_cons.mp hy with q | q
        · rw [q]; exact hx
        · exact h3 y q hp
    · rw [if_neg c] at h1 h2
      refine ⟨h1.imp_right (fun q => ⟨List.mem_cons_of_mem _ q.1, q.2⟩), h2, fun y hy hp => ?_⟩
      rcases List.mem_cons.mp hy with q | q
      · subst q
        cases b with
        | none => exact absurd ⟨hp, fun z w => by cases w⟩ c
        | some z =>
          have hz := h2 z rfl
          have : ¬ o_key y < o_key z := fun w => c ⟨hp, fun t ht => by cases ht; exact w⟩
          omega
      · exact h3 y q hp
theorem o_best_no (P : gOd → Bool) : ∀ (os : List gOd) (b : Option gOd), o_best P b os = none → b = none ∧ ∀ y ∈ os, ¬ P y = true := by
  intro os
  induction os with
  | nil => intro b h; exact ⟨h, fun y q => by cases q⟩
  | cons o os ih =>
    intro b h
    rw [o_best_c] at h
    obtain ⟨h1, h2⟩ := ih _ h
    by_cases c : P o = true ∧ (∀ x, b = some x → o_key o < o_key x)
    · rw [if_pos c] at h1; cases h1
    · rw [if_neg c] at h1
      subst h1
      refine ⟨rfl, fun y hy hp => ?_⟩
      rcases List.mem_cons.mp hy with q | q
      · subst q; exact c ⟨hp, fun z w => by cases w⟩
      · exact h2 y q hp
theorem cnt_le {P Q : gOd → Bool} : ∀ (l l2 : List gOd), l2.length = l.length → (∀ (k : Nat) (o2 : gOd), l2[k]? = some o2 → Q o2 = true → ∃ o, l[k]? = some o ∧ P o = true) → l2.countP Q ≤ l.countP P := by
  intro l
  induction l with
  | nil => intro l2 h _; rw [List.length_nil, List.length_eq_zero_iff] at h; subst h; exact Nat.le_refl _
  | cons o l ih =>
    intro l2 h hh
    cases l2 with
    | nil => simp at h
    | cons o2 l2 =>
      have i1 := ih l2 (by simpa using h) (fun k x hx hq => by
        have := hh (k + 1) x (by simpa using hx) hq
        simpa using this)
      rw [List.countP_cons, List.countP_cons]
      by_cases c : Q o2 = true
      · obtain ⟨x, hx, hp⟩ := hh 0 o2 rfl c
        simp at hx
        subst hx
        rw [if_pos c, if_pos hp]
        omega
      · rw [if_neg c]
        omega
theorem cnt_lt {P Q : gOd → Bool} : ∀ (l l2 : List gOd), l2.length = l.length → (∀ (k : Nat) (o2 : gOd), l2[k]? = some o2 → Q o2 = true → ∃ o, l[k]? = some o ∧ P o = true) → (∃ (k : Nat) (o o2 : gOd), l[k]? = some o ∧ P o = true ∧ l2[k]? = some o2 ∧ ¬ Q o2 = true) → l2.countP Q < l.countP P := by
  intro l
  induction l with
  | nil => rintro l2 h _ ⟨k, o, o2, h1, -⟩; simp at h1
  | cons o l ih =>
    intro l2 h hh hx
    cases l2 with
    | nil => simp at h
    | cons o2 l2 =>
      have hh2 : ∀ (k : Nat) (x : gOd), l2[k]? = some x → Q x = true → ∃ o, l[k]? = some o ∧ P o = true := fun k x hx hq => by
        have := hh (k + 1) x (by simpa using hx) hq
        simpa using this
      have hl2 : l2.length = l.length := by simpa using h
      rw [List.countP_cons, List.countP_cons]
      obtain ⟨k, y, y2, h1, h2, h3, h4⟩ := hx
      cases k with
      | zero =>
        simp at h1 h3
        subst h1
        subst h3
        have := cnt_le l l2 hl2 hh2
        rw [if_neg h4, if_pos h2]
        omega
      | succ k =>
        simp at h1 h3
        have i1 := ih l2 hl2 hh2 ⟨k, y, y2, h1, h2, h3, h4⟩
        by_cases c : Q o2 = true
        · obtain ⟨x, hx, hp⟩ := hh 0 o2 rfl c
          simp at hx
          subst hx
          rw [if_pos c, if_pos hp]
          omega
        · rw [if_neg c]
          omega

theorem o_key_inj {os : List gOd} (hos : r_os os) {k k2 : Nat} {o o2 : gOd} (hk : os[k]? = some o) (hk2 : os[k2]? = some o2) (h : o_key o = o_key o2) : k = k2 := by
  have := (List.getElem?_eq_some_iff.mp hk).1
  have := (List.getElem?_eq_some_iff.mp hk2).1
  have := hos.1
  unfold o_key at h
  rw [(hos.2 k o hk).2, (hos.2 k2 o2 hk2).2, nI_clamp (by omega), nI_clamp (by omega)] at h
  omega
theorem s_fall {os os2 : List gOd} {last : Option gOd} {k : Nat} {o : gOd} (hk : os[k]? = some o) (hb : o_best (o_nx last) none os = some o) (hl : os2.length = os.length) (h2 : ∀ (k2 : Nat) (o2 : gOd), os2[k2]? = some o2 → o_op o2 = true → os[k2]? = some o2) : os2.countP (o_nx (some o)) < os.countP (o_nx last) := by
  obtain ⟨h3, -, -⟩ := o_best_le _ _ _ _ hb
  have h4 : o_nx last o = true := by
    rcases h3 with q | q
    · cases q
    · exact q.2
  have hkl : k < os2.length := by rw [hl]; exact (List.getElem?_eq_some_iff.mp hk).1
  refine cnt_lt os os2 hl (fun k2 o2 hk2 hq => ?_) ⟨k, o, os2[k], hk, h4, List.getElem?_eq_getElem hkl, fun q => ?_⟩
  · unfold o_nx at hq
    simp only [Bool.and_eq_true, decide_eq_true_eq] at hq
    refine ⟨o2, h2 k2 o2 hk2 (decide_eq_true hq.1), ?_⟩
    unfold o_nx at h4 ⊢
    cases last with
    | none => simp [hq.1]
    | some l =>
      simp only [Bool.and_eq_true, decide_eq_true_eq] at h4 ⊢
      exact ⟨hq.1, by have := h4.2; have := hq.2; omega⟩
  · unfold o_nx at q
    simp only [Bool.and_eq_true, decide_eq_true_eq] at q
    have := h2 k _ (List.getElem?_eq_getElem hkl) (decide_eq_true q.1)
    rw [hk] at this
    have e := Option.some.inj this
    rw [← e] at q
    omega
def h_push (hs : List aSt) (a : aSt) : List aSt := (if hs.length = 4 then hs.drop 1 else hs) ++ [a]
theorem c_lie_c (g : Nat → Int32) (o : gOd) (s : gSh) : c_lie g o s < 0 ↔ c_lie g o s = -1 := by
  unfold c_lie
  split
  · decide
  · split
    · decide
    · split <;> decide
theorem f4_copy_l (s : gSt) : ∀ (d n k : Nat) (z : gSt), k + d = 12 → d < n → f4_copyFrom_10 s n z (nI k) = some (z.1, z.2.1, fun j => if k ≤ j ∧ j < 12 then s.2.2 j else z.2.2 j) := by
  intro d
  induction d with
  | zero =>
    intro n k z hk hn
    obtain ⟨n, rfl⟩ : ∃ k, n = k + 1 := ⟨n - 1, by omega⟩
    rw [f4_copyFrom_10, if_pos (by rw [l12, nI_leI (by omega) (by omega)]; omega)]
    refine congrArg some (Prod.ext rfl (Prod.ext rfl (funext fun j => ?_)))
    show z.2.2 j = if k ≤ j ∧ j < 12 then s.2.2 j else z.2.2 j
    rw [if_neg (by omega)]
  | succ d ih =>
    intro n k z hk hn
    obtain ⟨n, rfl⟩ : ∃ k, n = k + 1 := ⟨n - 1, by omega⟩
    have nb : f4_numbered s (nI k) = some (s.2.2 k) := by
      unfold f4_numbered
      simp (disch := omega) only [l12, nI_leI, q_lt0, q_in, nI_clamp, if_false]
      rw [if_neg (by omega), if_pos (by omega)]
      cases s.2.2 k <;> rfl
    rw [f4_copyFrom_10, if_neg (by rw [l12, nI_leI (by omega) (by omega)]; omega), nb, q_b1_s, show nI k + 1 = nI (k + 1) from nI_add k 1]
    simp (disch := omega) only [q_in, nI_clamp, q_let]
    have fin : ∀ x, x = s.2.2 k → f4_copyFrom_10 s n (g_so z k x) (nI (k + 1)) = some (z.1, z.2.1, fun j => if k ≤ j ∧ j < 12 then s.2.2 j else z.2.2 j) := by
      intro x hx
      rw [ih n (k + 1) (g_so z k x) (by omega) (by omega)]
      refine congrArg some (Prod.ext rfl (Prod.ext rfl (funext fun j => ?_)))
      show (if k + 1 ≤ j ∧ j < 12 then s.2.2 j else if j = k then x else z.2.2 j) = if k ≤ j ∧ j < 12 then s.2.2 j else z.2.2 j
      by_cases c : j = k
      · subst c
        rw [if_neg (by omega), if_pos rfl, if_pos (by omega), hx]
      · by_cases c2 : k + 1 ≤ j ∧ j < 12
        · rw [if_pos c2, if_pos (by omega)]
        · rw [if_neg c2, if_neg c, if_neg (by omega)]
    cases e : s.2.2 k with
    | none => rw [q_oc_n, if_pos (by omega)]; exact fin _ e.symm
    | some v => rw [q_oc_s, if_pos (by omega)]; exact fin _ e.symm
theorem f5_copy_l (s : gSt) : ∀ (d n k : Nat) (z : gSt), k + d = 32 → d < n → f5_copyFrom_10 s n z (nI k) = some (z.1, (fun j => if k ≤ j ∧ j < 32 then s.2.1 j else z.2.1 j), z.2.2) := by
  intro d
  induction d with
  | zero =>
    intro n k z hk hn
    obtain ⟨n, rfl⟩ : ∃ k, n = k + 1 := ⟨n - 1, by omega⟩
    rw [f5_copyFrom_10, if_pos (by rw [l32, nI_leI (by omega) (by omega)]; omega)]
    refine congrArg some (Prod.ext rfl (Prod.ext (funext fun j => ?_) rfl))
    show z.2.1 j = if k ≤ j ∧ j < 32 then s.2.1 j else z.2.1 j
    rw [if_neg (by omega)]
  | succ d ih =>
    intro n k z hk hn
    obtain ⟨n, rfl⟩ : ∃ k, n = k + 1 := ⟨n - 1, by omega⟩
    rw [f5_copyFrom_10, if_neg (by rw [l32, nI_leI (by omega) (by omega)]; omega), r_inslot s (by omega), q_b1_s, show nI k + 1 = nI (k + 1) from nI_add k 1]
    simp (disch := omega) only [q_in, nI_clamp, q_let]
    have fin : ∀ x, x = s.2.1 k → f5_copyFrom_10 s n (g_ss z k x) (nI (k + 1)) = some (z.1, (fun j => if k ≤ j ∧ j < 32 then s.2.1 j else z.2.1 j), z.2.2) := by
      intro x hx
      rw [ih n (k + 1) (g_ss z k x) (by omega) (by omega)]
      refine congrArg some (Prod.ext rfl (Prod.ext (funext fun j => ?_) rfl))
      show (if k + 1 ≤ j ∧ j < 32 then s.2.1 j else if j = k then x else z.2.1 j) = if k ≤ j ∧ j < 32 then s.2.1 j else z.2.1 j
      by_cases c : j = k
      · subst c
        rw [if_neg (by omega), if_pos rfl, if_pos (by omega), hx]
      · by_cases c2 : k + 1 ≤ j ∧ j < 32
        · rw [if_pos c2, if_pos (by omega)]
        · rw [if_neg c2, if_neg c, if_neg (by omega)]
    cases e : s.2.1 k with
    | none => rw [q_oc_n, if_pos (by omega)]; exact fin _ e.symm
    | some v => rw [q_oc_s, if_pos (by omega)]; exact fin _ e.symm
theorem r_copy {a : aSt} {s : gSt} (h : r_c a s) (z : gSt) : ∃ z2, f8_copyFrom z s = some z2 ∧ r_c a z2 := by
  obtain ⟨h1, h2, h3, h4⟩ := h
  unfold f8_copyFrom f6_copyFrom f5_copyFrom f4_copyFrom
  simp only [q_let, q_b1_s]
  rw [← nI_0, f5_copy_l s 32 70 0 _ (by omega) (by omega), q_b1_s, f4_copy_l s 12 70 0 _ (by omega) (by omega), q_b1_s]
  refine ⟨_, rfl, fun k hk => ?_, ?_, fun r p hr hp => ?_, h4.1, fun k hk => ?_⟩
  · simp only [g_si, q_up]
    have : k = 0 ∨ k = 1 ∨ k = 2 ∨ k = 3 ∨ k = 4 ∨ k = 5 ∨ k = 6 ∨ k = 7 ∨ k = 8 ∨ k = 9 ∨ k = 10 ∨ k = 11 ∨ k = 12 := by omega
    rcases this with rfl | rfl | rfl | rfl | rfl | rfl | rfl | rfl | rfl | rfl | rfl | rfl | rfl <;> exact h1 _ (by omega)
  · simp only [g_si, q_up]
    exact h2
  · show (if 0 ≤ 8 * r + p ∧ 8 * r + p < 32 then s.2.1 (8 * r + p) else _) = _
    rw [if_pos (by omega)]
    exact h3 r p hr hp
  · show (if 0 ≤ k ∧ k < 12 then s.2.2 k else _) = _
    rw [if_pos (by omega)]
    exact h4.2 k hk
def c_hi (hs : List aSt) (μ : gMu) : Prop := μ.2.1.2 = nI hs.length ∧ hs.length ≤ 4 ∧ (∀ i, i < 4 → 3 ≤ μ.2.1.1 i ∧ μ.2.1.1 i < 7) ∧ (∀ i j, i < 4 → j < 4 → μ.2.1.1 i = μ.2.1.1 j → i = j) ∧ ∀ i a, hs[i]? = some a → r_c a (μ.1 (μ.2.1.1 i))
theorem f2_at (μ : gMu) {i : Nat} (hi : i < 4) : f2_stateAt μ (nI i) = some (some (μ.2.1.1 i)) := by
  unfold f2_stateAt
  simp (disch := omega) only [l4, nI_leI, q_lt0, q_in, nI_clamp, if_false, q_let]
  rw [if_neg (by omega), if_pos (by omega)]
theorem f2_at_m (μ : gMu) : f2_stateAt μ (-1) = some none := by
  unfold f2_stateAt
  rw [if_pos (by decide)]
theorem r_rec {hs : List aSt} {μ : gMu} (h : c_hi hs μ) (hl : hs.length < 4) {a : aSt} (ha : r_c a (μ.1 1)) : ∃ μ2, f2_record_16 1 μ = some μ2 ∧ c_hi (hs ++ [a]) μ2 ∧ (∀ i, i < 3 → μ2.1 i = μ.1 i) ∧ μ2.2.2 = μ.2.2 := by
  obtain ⟨h1, h2, h3, h4, h5⟩ := h
  have b := h3 hs.length hl
  obtain ⟨z2, e1, e2⟩ := r_copy ha (μ.1 (μ.2.1.1 hs.length))
  unfold f2_record_16
  rw [h1, f2_at μ hl, q_b1_s, q_oc_s, if_pos (by omega), e1, q_b1_s, q_let, q_let]
  refine ⟨_, rfl, ⟨?_, by rw [List.length_append]; exact hl, h3, h4, fun i x hx => ?_⟩, fun i hi => va_up_ne _ _ (by omega), rfl⟩
  · show μ.2.1.2 + 1 = _
    rw [h1, List.length_append]
    exact nI_add _ 1
  · show r_c x (va_up μ.1 (μ.2.1.1 hs.length) z2 (μ.2.1.1 i))
    by_cases c : i < hs.length
    · rw [List.getElem?_append_left c] at hx
      rw [va_up_ne _ _ (fun q => by have := h4 i hs.length (by omega) hl q; omega)]
      exact h5 i x hx
    · rw [List.getElem?_append_right (by omega)] at hx
      have hj : i - hs.length = 0 := by
        have := (List.getElem?_eq_some_iff.mp hx).1
        simp at this
        omega
      rw [hj] at hx
      cases hx
      rw [show i = hs.length by omega, va_up_at]
      exact e2
theorem f2_drop_e (μ : gMu) : f2_dropOldest μ = some (g_hr (g_hs (g_hs (g_hs (g_hs μ 0 (μ.2.1.1 1)) 1 (μ.2.1.1 2)) 2 (μ.2.1.1 3)) 3 (μ.2.1.1 0)) (μ.2.1.2 - 1)) := by
  unfold f2_dropOldest
  rw [show (0 : Int32) = nI 0 from rfl, f2_at μ (by omega), q_b1_s, q_oc_s]
  have st : ∀ (n k : Nat) (ν : gMu) (b : Nat), k < 3 → f2_dropOldest_8 (n + 1) ν b (nI k) = f2_dropOldest_8 n (g_hs ν k (ν.2.1.1 (k + 1))) b (nI (k + 1)) := by
    intro n k ν b hk
    rw [f2_dropOldest_8, l4, l1, nI_add, if_neg (by rw [nI_leI (by omega) (by omega)]; omega), if_neg (by rw [nI_leI (by omega) (by omega)]; omega)]
    simp (disch := omega) only [q_in, nI_clamp, q_let]
    rw [if_pos (by omega), if_pos (by omega)]
  rw [st 69 0 _ _ (by omega), st 68 1 _ _ (by omega), st 67 2 _ _ (by omega)]
  rw [f2_dropOldest_8, if_neg (by decide), if_pos (by decide), if_pos (by rw [q_in (by omega)]; omega), q_let, nI_clamp (by omega), f2_dropOldest_8, if_pos (by decide), q_let]
  rfl
theorem r_record {hs : List aSt} {μ : gMu} (h : c_hi hs μ) {a : aSt} (ha : r_c a (μ.1 1)) : ∃ μ2, f2_record μ 1 = some μ2 ∧ c_hi (h_push hs a) μ2 ∧ (∀ i, i < 3 → μ2.1 i = μ.1 i) ∧ μ2.2.2 = μ.2.2 := by
  have hh := h
  obtain ⟨h1, h2, h3, h4, h5⟩ := h
  unfold f2_record h_push
  by_cases c : hs.length = 4
  · rw [if_pos c, h1, c, if_neg (by decide), f2_drop_e, q_b1_s, h1, c]
    have e0 : ∀ i, (g_hr (g_hs (g_hs (g_hs (g_hs μ 0 (μ.2.1.1 1)) 1 (μ.2.1.1 2)) 2 (μ.2.1.1 3)) 3 (μ.2.1.1 0)) (nI 4 - 1)).2.1.1 i = if i = 3 then μ.2.1.1 0 else if i = 2 then μ.2.1.1 3 else if i = 1 then μ.2.1.1 2 else if i = 0 then μ.2.1.1 1 else μ.2.1.1 i := fun i => rfl
    have e1 : ∀ i, i < 3 → (g_hr (g_hs (g_hs (g_hs (g_hs μ 0 (μ.2.1.1 1)) 1 (μ.2.1.1 2)) 2 (μ.2.1.1 3)) 3 (μ.2.1.1 0)) (nI 4 - 1)).2.1.1 i = μ.2.1.1 (i + 1) := by
      intro i hi
      rw [e0 i]
      have : i = 0 ∨ i = 1 ∨ i = 2 := by omega
      rcases this with rfl | rfl | rfl <;> rfl
    have e3 : (g_hr (g_hs (g_hs (g_hs (g_hs μ 0 (μ.2.1.1 1)) 1 (μ.2.1.1 2)) 2 (μ.2.1.1 3)) 3 (μ.2.1.1 0)) (nI 4 - 1)).2.1.1 3 = μ.2.1.1 0 := rfl
    have key := r_rec (hs := hs.drop 1) (μ := g_hr (g_hs (g_hs (g_hs (g_hs μ 0 (μ.2.1.1 1)) 1 (μ.2.1.1 2)) 2 (μ.2.1.1 3)) 3 (μ.2.1.1 0)) (nI 4 - 1)) ⟨?_, by simp; omega, fun i hi => ?_, fun i j hi hj q => ?_, fun i x hx => ?_⟩ (by simp; omega) (a := a) ha
    · exact key
    · rw [List.length_drop, c]
      rfl
    · by_cases ci : i < 3
      · rw [e1 i ci]; exact h3 _ (by omega)
      · rw [show i = 3 by omega, e3]; exact h3 0 (by omega)
    · by_cases ci : i < 3
      · rw [e1 i ci] at q
        by_cases cj : j < 3
        · rw [e1 j cj] at q
          have := h4 _ _ (by omega) (by omega) q
          omega
        · rw [show j = 3 by omega, e3] at q
          have := h4 _ _ (by omega) (by omega) q
          omega
      · rw [show i = 3 by omega, e3] at q
        by_cases cj : j < 3
        · rw [e1 j cj] at q
          have := h4 _ _ (by omega) (by omega) q
          omega
        · omega
    · have hi : i < (hs.drop 1).length := (List.getElem?_eq_some_iff.mp hx).1
      rw [List.length_drop, c] at hi
      rw [List.getElem?_drop] at hx
      rw [e1 i (by omega)]
      have := h5 _ _ hx
      rw [Nat.add_comm] at this
      exact this
  · have hl : hs.length < 4 := by omega
    rw [if_neg c, h1, if_pos (by rw [l4, nI_ltI (by omega) (by omega)]; exact hl)]
    exact r_rec hh hl ha
theorem r_back_n {μ : gMu} (h : c_hi [] μ) : f2_takeBack μ 0 = some (-5, μ) := by
  unfold f2_takeBack
  rw [h.1, show nI ([] : List aSt).length - (1 : Int32) = -1 from by decide, f2_at_m, q_b1_s, q_oc_n]
theorem r_back_s {hs : List aSt} {a : aSt} {μ : gMu} (h : c_hi (hs ++ [a]) μ) : ∃ μ2, f2_takeBack μ 0 = some (nI hs.length, μ2) ∧ c_hi hs μ2 ∧ r_c a (μ2.1 0) ∧ (∀ i, i ≠ 0 → μ2.1 i = μ.1 i) ∧ μ2.2.2 = μ.2.2 := by
  obtain ⟨h1, h2, h3, h4, h5⟩ := h
  rw [List.length_append, List.length_singleton] at h1 h2
  have b := h3 hs.length (by omega)
  have ex : (hs ++ [a])[hs.length]? = some a := by simp
  obtain ⟨z2, e1, e2⟩ := r_copy (h5 _ _ ex) (μ.1 0)
  unfold f2_takeBack
  rw [h1, show nI (hs.length + 1) - (1 : Int32) = nI hs.length from pk_sub (b := 1) (by omega), f2_at μ (by omega), q_b1_s, q_oc_s, q_let, if_pos (by omega)]
  have e3 : (g_hr μ (nI hs.length)).1 = μ.1 := rfl
  rw [e3, e1, q_b1_s, q_let]
  refine ⟨_, rfl, ⟨rfl, by omega, h3, h4, fun i x hx => ?_⟩, va_up_at μ.1 0 z2 ▸ e2, fun i hi => va_up_ne _ _ hi, rfl⟩
  have hi : i < hs.length := (List.getElem?_eq_some_iff.mp hx).1
  show r_c x (va_up μ.1 0 z2 (μ.2.1.1 i))
  rw [va_up_ne _ _ (by have := h3 i (by omega); omega)]
  exact h5 i x (by rw [List.getElem?_append_left hi]; exact hx)

def j_s (sn : Option aSt) (k : Int32) (P : aSt → Prop) : Prop := match sn with
  | none => k = 0
  | some s => k = 1 ∧ P s
def jc (a : aSt) (hs : List aSt) (sn : Option aSt) (t : Nat → Int32) (l : Nat) (μ : gMu) : Prop := r_c a (μ.1 0) ∧ c_hi hs μ ∧ j_s sn μ.2.2.2.1 (fun s => r_c s (μ.1 2)) ∧ (∀ k, k < l → μ.2.2.1.1 k = t k) ∧ μ.2.2.1.2 1 = nI l
def j_hs (hs : List aSt) (a : aSt) (x : Int32) : List aSt := if x < 0 then hs else h_push hs a
theorem i_m1 : (-1 : Int32) < 0 := by decide
theorem i_m2 : (-2 : Int32) < 0 := by decide
theorem i_m3 : (-3 : Int32) < 0 := by decide
theorem i_m4 : (-4 : Int32) < 0 := by decide
theorem i_m5 : (-5 : Int32) < 0 := by decide
variable {a : aSt} {hs : List aSt} {sn : Option aSt} {t : Nat → Int32} {l : Nat} {μ : gMu} {M : gMo}
theorem c_act (h : jc a hs sn t l μ) (f : gSt → Option (Int32 × gSt)) (w : Int32 × aSt) (hf : ∀ z, r_c a z → ∃ z2, f z = some (w.1, z2) ∧ r_c w.2 z2) :
    ∃ μ1, (g_b1 (f8_copyFrom (μ.1 1) (μ.1 0)) fun z1 => g_let (g_setS μ 1 z1) fun z4 => g_bd (f (z4.1 0)) fun r5 z6 => g_let (g_setS z4 0 z6) fun z11 => g_bd (f9_recorded z11 r5) fun r12 z13 => some (r12, z13)) = some (w.1, μ1) ∧ jc w.2 (j_hs hs a w.1) sn t l μ1 ∧ μ1.2.2.2.2 = μ.2.2.2.2 := by
  obtain ⟨h1, h2, h3, h4, h5⟩ := h
  obtain ⟨z1, e1, r1⟩ := r_copy h1 (μ.1 1)
  rw [e1, q_b1_s, q_let, show (g_setS μ 1 z1).1 0 = μ.1 0 from rfl]
  obtain ⟨z6, e6, r6⟩ := hf (μ.1 0) h1
  rw [e6, q_bd_s, q_let]
  have hc : c_hi hs (g_setS (g_setS μ 1 z1) 0 z6) := by
    obtain ⟨g1, g2, g3, g4, g5⟩ := h2
    refine ⟨g1, g2, g3, g4, fun i x hx => ?_⟩
    have hi : i < hs.length := (List.getElem?_eq_some_iff.mp hx).1
    have := g3 i (by omega)
    show r_c x (va_up (va_up μ.1 1 z1) 0 z6 (μ.2.1.1 i))
    rw [va_up_ne _ _ (by omega), va_up_ne _ _ (by omega)]
    exact g5 i x hx
  unfold f9_recorded j_hs
  by_cases c : w.1 < 0
  · rw [if_pos c, q_bd_s, if_pos c]
    exact ⟨_, rfl, ⟨r6, hc, h3, h4, h5⟩, rfl⟩
  · rw [if_neg c, if_neg c]
    obtain ⟨μ2, e2, c2, k2, m2⟩ := r_record hc (a := a) r1
    rw [e2, q_b1_s, q_bd_s]
    refine ⟨μ2, rfl, ⟨?_, c2, ?_, ?_, ?_⟩, ?_⟩
    · rw [k2 0 (by omega)]; exact r6
    · rw [m2, k2 2 (by omega)]; exact h3
    · rw [m2]; exact h4
    · rw [m2]; exact h5
    · rw [m2]; rfl
theorem j_hs_n (hs : List aSt) (a : aSt) {x : Int32} (h : x < 0) : j_hs hs a x = hs := if_pos h
theorem j_hs_p (hs : List aSt) (a : aSt) {x : Int32} (h : ¬ x < 0) : j_hs hs a x = h_push hs a := if_neg h
theorem o_find (os : List gOd) (x : Int32) : (∃ (k : Nat) (o : gOd), os[k]? = some o ∧ x = nI k) ∨ ∀ k, k < os.length → x ≠ nI k := by
  rcases Classical.em (∃ k, k < os.length ∧ x = nI k) with ⟨k, hk, e⟩ | h
  · exact Or.inl ⟨k, os[k], List.getElem?_eq_getElem hk, e⟩
  · exact Or.inr (fun k hk e => h ⟨k, hk, e⟩)
theorem r_numb_n {os : List gOd} {z : gSt} (h : r_ol os z.2.2) {x : Int32} (hx : ∀ k, k < os.length → x ≠ nI k) : f4_numbered z x = some none := by
  by_cases c : x < 0
  · unfold f4_numbered
    rw [if_pos c]
  · obtain ⟨j, hj, rfl⟩ := nI_of c
    rw [r_numb h hj, List.getElem?_eq_none (by
      by_cases c2 : j < os.length
      · exact absurd rfl (hx j c2)
      · omega)]
theorem r_slot_any {a : aSt} (ha : a_ok a) {z : gSt} (h : r_c a z) (x : Int32) : ∃ v w, f5_slotOf z x = some v ∧ f5_inSlot z v = some w := by
  obtain ⟨hn, ⟨m, hm, hk4⟩, hos⟩ := ha
  rcases k_find a.2.1 x with ⟨r, p, s, hr, hs, rfl⟩ | hx
  · exact ⟨_, _, r_slot h.2.2.1 hk4.2.2.1 hr (hk4.2.1 r hr) hs, r_slot_in h.2.2.1 hr (hk4.2.1 r hr) hs⟩
  · exact ⟨_, _, r_slot_none h.2.2.1 hk4.2.1 hx, r_inslot_m z⟩
theorem t_cut_nn (a : aSt) (r p k : Nat) (s : gSh) (o : gOd) : ¬ (t_cut a r p k s o).1 < 0 := by
  have k01 : ∀ (b : aSt) (w y : Int32), (t_keep b r w y s).1 = 0 ∨ (t_keep b r w y s).1 = 1 := by
    intro b w y
    unfold t_keep
    split
    · exact Or.inl rfl
    · split
      · exact Or.inr rfl
      · exact Or.inl rfl
  unfold t_cut
  split
  · show ¬ (10 : Int32) < 0
    decide
  · show ¬ (t_keep _ r _ _ s).1 + (t_keep _ r _ _ s).1 < 0
    rcases k01 (t_done (t_out a r p s).2 a.1 k s o) (c_bw a.1 o s) (c_bh a.1 o s) with q | q <;> rcases k01 (t_keep (t_done (t_out a r p s).2 a.1 k s o) r (c_bw a.1 o s) (c_bh a.1 o s) s).2 (c_aw a.1 o s) (c_ah a.1 o s) with q2 | q2 <;> rw [q, q2] <;> decide
theorem c_lie_ge (g : Nat → Int32) (o : gOd) (s : gSh) : 0 ≤ c_lie g o s ↔ ¬ c_lie g o s = -1 := by
  rw [← c_lie_c, Int32.not_lt]
theorem w_steps_nn (c : Int32) : ∀ (f : Nat) (a : aSt) (v : Option gOd) (x : Nat), ∃ y, y ≤ x + f ∧ (w_steps c f a v (nI x)).1 = nI y := by
  intro f
  induction f with
  | zero => intro a v x; exact ⟨x, Nat.le_refl _, rfl⟩
  | succ f ih =>
    intro a v x
    cases v with
    | none => exact ⟨x, by omega, rfl⟩
    | some o =>
      rw [w_steps]
      cases ch_at a o c with
      | none =>
        obtain ⟨y, h1, h2⟩ := ih a (o_best (o_nx (some o)) none a.2.2) x
        exact ⟨y, by omega, h2⟩
      | some q =>
        show ∃ y, y ≤ x + (f + 1) ∧ (w_steps c f _ _ (if (t_cut a q.1 q.2.1 o.1.toNatClampNeg q.2.2 o).1 = 10 then nI x else nI x + 1)).1 = nI y
        split
        · obtain ⟨y, h1, h2⟩ := ih (t_cut a q.1 q.2.1 o.1.toNatClampNeg q.2.2 o).2 (o_best (o_nx (some o)) none (t_cut a q.1 q.2.1 o.1.toNatClampNeg q.2.2 o).2.2.2) x
          exact ⟨y, by omega, h2⟩
        · obtain ⟨y, h1, h2⟩ := ih (t_cut a q.1 q.2.1 o.1.toNatClampNeg q.2.2 o).2 (o_best (o_nx (some o)) none (t_cut a q.1 q.2.1 o.1.toNatClampNeg q.2.2 o).2.2.2) (x + 1)
          rw [show nI x + 1 = nI (x + 1) from nI_add x 1]
          exact ⟨y, by omega, h2⟩
theorem o_none {os : List gOd} : o_best (o_nx none) none os = none ↔ os.countP o_op = 0 := by
  constructor
  · intro h
    obtain ⟨-, h2⟩ := o_best_no _ _ _ h
    rw [List.countP_eq_zero]
    intro o ho q
    exact h2 o ho (by unfold o_nx; simp [q])
  · intro h
    cases hb : o_best (o_nx none) none os with
    | none => rfl
    | some o =>
      obtain ⟨h3, -, -⟩ := o_best_le _ _ _ _ hb
      rcases h3 with q | ⟨q1, q2⟩
      · cases q
      · unfold o_nx at q2
        simp only [Bool.and_true] at q2
        rw [List.countP_eq_zero] at h
        exact absurd q2 (h o q1)
theorem t_lift_n (fr : Int32) : ∀ (Fs : List gSh) (l b : Int32) (K : List gSh), (t_lift fr Fs l b K).1 = l + nI Fs.length := by
  intro Fs
  induction Fs with
  | nil => intro l b K; show l = l + nI 0; rw [nI_0, Int32.add_zero]
  | cons y ys ih =>
    intro l b K
    have e : l + 1 + nI ys.length = l + nI (ys.length + 1) := by
      rw [Int32.add_assoc, l1, nI_add, Nat.add_comm]
    rw [t_lift, List.length_cons]
    split
    · rw [ih, e]
    · rw [ih, e]
theorem t_out_n (a : aSt) {r p : Nat} (x : gSh) : (t_out a r p x).2.1 11 - a.1 11 = nI ((a.2.1 r).length - (p + 1)) + 1 := by
  have e : (t_out a r p x).2.1 11 = a.1 11 + nI ((a.2.1 r).length - (p + 1)) + 1 := by
    unfold t_out t_end
    dsimp only
    rw [va_up_ne _ _ (by omega), va_up_at, t_lift_n, List.length_reverse, List.length_drop]
  rw [e, Int32.add_assoc, Int32.add_comm, Int32.add_sub_cancel]
theorem i_5 {x : Int32} {n : Nat} (h : ∀ j, j ≤ n → x ≠ nI j) (hn : n < 2 ^ 31) : ¬ (0 ≤ x ∧ x ≤ nI n) := fun q => by
  obtain ⟨j, hj, e⟩ := i_nat hn q.1 q.2
  exact h j hj e
theorem jc.set0 {a : aSt} {hs : List aSt} {sn : Option aSt} {t : Nat → Int32} {l : Nat} {μ : gMu} (h : jc a hs sn t l μ) {z : gSt} (hz : r_c a z) : jc a hs sn t l (g_setS μ 0 z) := by
  obtain ⟨h1, ⟨g1, g2, g3, g4, g5⟩, h3, h4, h5⟩ := h
  refine ⟨hz, ⟨g1, g2, g3, g4, fun i x hx => ?_⟩, h3, h4, h5⟩
  have hi : i < hs.length := (List.getElem?_eq_some_iff.mp hx).1
  have := g3 i (by omega)
  show r_c x (va_up μ.1 0 z (μ.2.1.1 i))
  rw [va_up_ne _ _ (by omega)]
  exact g5 i x hx
theorem jc.set1 {a : aSt} {hs : List aSt} {sn : Option aSt} {t : Nat → Int32} {l : Nat} {μ : gMu} (h : jc a hs sn t l μ) (z : gSt) : jc a hs sn t l (g_setS μ 1 z) := by
  obtain ⟨h1, ⟨g1, g2, g3, g4, g5⟩, h3, h4, h5⟩ := h
  refine ⟨h1, ⟨g1, g2, g3, g4, fun i x hx => ?_⟩, h3, h4, h5⟩
  have hi : i < hs.length := (List.getElem?_eq_some_iff.mp hx).1
  have := g3 i (by omega)
  show r_c x (va_up μ.1 1 z (μ.2.1.1 i))
  rw [va_up_ne _ _ (by omega)]
  exact g5 i x hx
def w_wd (a : aSt) (o : gOd) (s : gSh) (n : Nat) (x : Int32) : Int32 := if x = 0 then c_lie a.1 o s else if x = 1 then c_ba a.1 o s else if x = 2 then c_aa a.1 o s else if x = 3 then c_kept a.1 o s else if x = 4 then c_scr a.1 o s else if x = 5 then c_lost a.1 o s else nI n + 1
theorem c_lie_01 {g : Nat → Int32} {o : gOd} {s : gSh} (h : ¬ c_lie g o s = -1) : (if c_lie g o s = 0 then (0 : Int32) else 1) = c_lie g o s := by
  unfold c_lie at h ⊢
  split
  · next c => rw [if_pos c] at h; exact absurd rfl h
  · next c =>
    rw [if_neg c] at h
    split
    · rfl
    · next c2 =>
      rw [if_neg c2] at h
      split
      · rfl
      · next c3 => rw [if_neg c3] at h; exact absurd rfl h
def w_rank (os : List gOd) : Nat → Option gOd → Option gOd
  | 0, v => v
  | _ + 1, none => none
  | n + 1, some o => w_rank os n (o_best (o_nx (some o)) none os)
theorem r_rank {os : List gOd} {z : gSt} (h : r_ol os z.2.2) (hos : r_os os) {R : Nat} (hR : R < 12) : ∀ (d n k : Nat) (v : Option gOd), k + d = R → d < n → (∀ o, v = some o → ∃ k : Nat, os[k]? = some o) → f4_openAtRank_16 n z (nI R) v (nI k) = some (w_rank os d v) := by
  intro d
  induction d with
  | zero =>
    intro n k v hk hn hv
    obtain ⟨n, rfl⟩ : ∃ k, n = k + 1 := ⟨n - 1, by omega⟩
    rw [f4_openAtRank_16]
    cases v with
    | none => rw [q_oc_n, ite_self]; rfl
    | some o => rw [q_oc_s, if_pos ((nI_leI (by omega) (by omega)).mpr (by omega))]; rfl
  | succ d ih =>
    intro n k v hk hn hv
    obtain ⟨n, rfl⟩ : ∃ k, n = k + 1 := ⟨n - 1, by omega⟩
    rw [f4_openAtRank_16]
    cases v with
    | none => rw [q_oc_n, ite_self]; rfl
    | some o =>
      obtain ⟨j, hj⟩ := hv o rfl
      rw [q_oc_s, if_neg (by rw [nI_leI (by omega) (by omega)]; omega), r_next h hos (some o) (fun l q => by cases q; exact hos.num hj), q_b1_s, show nI k + 1 = nI (k + 1) from nI_add k 1, w_rank]
      have i1 := ih n (k + 1) (o_best (o_nx (some o)) none os) (by omega) (by omega) (fun o2 q => o_best_at q)
      generalize o_best (o_nx (some o)) none os = b at i1 ⊢
      cases b with
      | none => rw [q_oc_n]; exact i1
      | some b => rw [q_oc_s]; exact i1
theorem w_rank_no {os : List gOd} : ∀ (d : Nat) (last : Option gOd), os.countP (o_nx last) ≤ d → w_rank os d (o_best (o_nx last) none os) = none := by
  intro d
  induction d with
  | zero =>
    intro last h
    cases hb : o_best (o_nx last) none os with
    | none => rfl
    | some o =>
      obtain ⟨h3, -, -⟩ := o_best_le _ _ _ _ hb
      rcases h3 with q | q
      · cases q
      · have := List.countP_pos_iff.mpr ⟨o, q.1, q.2⟩
        omega
  | succ d ih =>
    intro last h
    cases hb : o_best (o_nx last) none os with
    | none => rfl
    | some o =>
      obtain ⟨k, hk⟩ := o_best_at hb
      have := s_fall hk hb rfl (fun _ _ h _ => h)
      rw [w_rank]
      exact ih (some o) (by omega)
def a_ar (s : gSh) : Int32 := s.2.2.1 * s.2.2.2.1
def a_sa : List gSh → Int32
  | [] => 0
  | s :: F => a_ar s + a_sa F
theorem a_sa_app : ∀ (F G : List gSh), a_sa (F ++ G) = a_sa F + a_sa G := by
  intro F
  induction F with
  | nil => intro G; show a_sa G = 0 + a_sa G; rw [Int32.zero_add]
  | cons s F ih => intro G; show a_ar s + a_sa (F ++ G) = a_ar s + a_sa F + a_sa G; rw [ih, Int32.add_assoc]
def a_all (L : Nat → List gSh) : List gSh := L 0 ++ (L 1 ++ (L 2 ++ L 3))
theorem a_all_mem {L : Nat → List gSh} {s : gSh} : s ∈ a_all L ↔ ∃ r, r < 4 ∧ s ∈ L r := by
  unfold a_all
  simp only [List.mem_append]
  constructor
  · rintro (h | h | h | h)
    · exact ⟨0, by omega, h⟩
    · exact ⟨1, by omega, h⟩
    · exact ⟨2, by omega, h⟩
    · exact ⟨3, by omega, h⟩
  · rintro ⟨r, hr, h⟩
    have : r = 0 ∨ r = 1 ∨ r = 2 ∨ r = 3 := by omega
    rcases this with rfl | rfl | rfl | rfl
    · exact Or.inl h
    · exact Or.inr (Or.inl h)
    · exact Or.inr (Or.inr (Or.inl h))
    · exact Or.inr (Or.inr (Or.inr h))
def s_ra (L : Nat → List gSh) : Nat → List gSh
  | 0 => []
  | m + 1 => match (L ((31 - m) / 8))[(31 - m) % 8]? with
    | none => s_ra L m
    | some s => s :: s_ra L m
theorem s_ra_rk {L : Nat → List gSh} (hl : ∀ r, r < 4 → (L r).length ≤ 8) {r : Nat} (hr : r < 4) : ∀ (d p : Nat), p + d = 8 → s_ra L (32 - (8 * r + p)) = (L r).drop p ++ s_ra L (32 - (8 * r + 8)) := by
  intro d
  induction d with
  | zero =>
    intro p hp
    obtain rfl : p = 8 := by omega
    rw [List.drop_eq_nil_of_le (hl r hr), List.nil_append]
  | succ d ih =>
    intro p hp
    have e1 : 32 - (8 * r + p) = (31 - (8 * r + p)) + 1 := by omega
    have e2 : 31 - (31 - (8 * r + p)) = 8 * r + p := by omega
    have e3 : 31 - (8 * r + p) = 32 - (8 * r + (p + 1)) := by omega
    rw [e1, s_ra, e2, show (8 * r + p) / 8 = r by omega, show (8 * r + p) % 8 = p by omega, e3, ih (p + 1) (by omega)]
    cases e : (L r)[p]? with
    | none =>
      have : (L r).length ≤ p := by simpa using e
      rw [List.drop_eq_nil_of_le this, List.drop_eq_nil_of_le (by omega)]
    | some s => rw [drop_at e]; rfl
theorem s_ra_all {L : Nat → List gSh} (hl : ∀ r, r < 4 → (L r).length ≤ 8) : s_ra L 32 = a_all L := by
  have h0 := s_ra_rk hl (r := 0) (by omega) 8 0 (by omega)
  have h1 := s_ra_rk hl (r := 1) (by omega) 8 0 (by omega)
  have h2 := s_ra_rk hl (r := 2) (by omega) 8 0 (by omega)
  have h3 := s_ra_rk hl (r := 3) (by omega) 8 0 (by omega)
  rw [List.drop_zero] at h0 h1 h2 h3
  have h1' : s_ra L 24 = L 1 ++ s_ra L 16 := h1
  have h2' : s_ra L 16 = L 2 ++ s_ra L 8 := h2
  have h3' : s_ra L 8 = L 3 ++ s_ra L 0 := h3
  have h0' : s_ra L 32 = L 0 ++ s_ra L 24 := h0
  rw [h0', h1', h2', h3']
  unfold a_all
  rw [show s_ra L 0 = [] from rfl, List.append_nil]
theorem s_ra_len (L : Nat → List gSh) : ∀ m, (s_ra L m).length ≤ m := by
  intro m
  induction m with
  | zero => exact Nat.le_refl _
  | succ m ih =>
    rw [s_ra]
    split
    · omega
    · rw [List.length_cons]; omega
theorem f5_there_l {L : Nat → List gSh} {z : gSt} (h : r_sl L z.2.1) : ∀ (m n acc : Nat), m ≤ 32 → m < n → f5_sheetsThere_4 n z (nI acc) (nI (32 - m)) = some (nI (acc + (s_ra L m).length)) := by
  intro m
  induction m with
  | zero =>
    intro n acc _ hn
    obtain ⟨n, rfl⟩ : ∃ k, n = k + 1 := ⟨n - 1, by omega⟩
    rw [f5_sheetsThere_4, if_pos (by decide)]
    rfl
  | succ m ih =>
    intro n acc hm hn
    obtain ⟨n, rfl⟩ : ∃ k, n = k + 1 := ⟨n - 1, by omega⟩
    rw [f5_sheetsThere_4, if_neg (by rw [l32, nI_leI (by omega) (by omega)]; omega), if_pos (by rw [q_in (by omega)]; omega), nI_clamp (by omega), show 32 - (m + 1) = 31 - m by omega, h.at (show 31 - m < 32 by omega), show nI (31 - m) + 1 = nI (32 - m) from (nI_add (31 - m) 1).trans (by congr 1; omega), show nI acc + 1 = nI (acc + 1) from nI_add acc 1, s_ra]
    cases e : (L ((31 - m) / 8))[(31 - m) % 8]? with
    | none => rw [q_oc_n, ih n acc (by omega) (by omega)]
    | some s =>
      rw [q_oc_s, ih n (acc + 1) (by omega) (by omega), List.length_cons]
      congr 2
      omega
theorem f5_area_l {L : Nat → List gSh} {z : gSt} (h : r_sl L z.2.1) : ∀ (m n : Nat) (acc : Int32), m ≤ 32 → m < n → f5_areaThere_4 n z acc (nI (32 - m)) = some (acc + a_sa (s_ra L m)) := by
  intro m
  induction m with
  | zero =>
    intro n acc _ hn
    obtain ⟨n, rfl⟩ : ∃ k, n = k + 1 := ⟨n - 1, by omega⟩
    rw [f5_areaThere_4, if_pos (by decide), show a_sa (s_ra L 0) = 0 from rfl, Int32.add_zero]
  | succ m ih =>
    intro n acc hm hn
    obtain ⟨n, rfl⟩ : ∃ k, n = k + 1 := ⟨n - 1, by omega⟩
    rw [f5_areaThere_4, if_neg (by rw [l32, nI_leI (by omega) (by omega)]; omega), if_pos (by rw [q_in (by omega)]; omega), nI_clamp (by omega), show 32 - (m + 1) = 31 - m by omega, h.at (show 31 - m < 32 by omega), show nI (31 - m) + 1 = nI (32 - m) from (nI_add (31 - m) 1).trans (by congr 1; omega), s_ra]
    cases e : (L ((31 - m) / 8))[(31 - m) % 8]? with
    | none => rw [q_oc_n, ih n acc (by omega) (by omega)]
    | some s =>
      rw [q_oc_s, show f7_area s = some (a_ar s) from rfl, q_b1_s, q_let, ih n (acc + a_ar s) (by omega) (by omega), Int32.add_assoc]
      rfl
