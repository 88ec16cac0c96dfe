/-! THE REFERENCE: orders -/
theorem m_isOpen {os : List gOd} {M : gMo} (hos : r_os os) (hm : m_od os (M.1 0)) {k : Nat} {o : gOd} (hk : os[k]? = some o) : f10_isOpen M (nI k) = some (if o_op o then 1 else 0) := by
  unfold f10_isOpen o_op
  rw [(m_of hos hm hk).2.2.2.2.1, q_b1_s]
  by_cases c : o.2.2.2.2.2.1 = 0 <;> simp [c]
theorem m_isLate {os : List gOd} {M : gMo} (hos : r_os os) (hm : m_od os (M.1 0)) {k : Nat} {o : gOd} (hk : os[k]? = some o) {d : Int32} (hd : M.1 0 0 = d) : f10_isLate M (nI k) = some (if o_lt d o then 1 else 0) := by
  obtain ⟨-, -, -, h3, h4, h5⟩ := m_of hos hm hk
  unfold f10_isLate o_lt
  rw [m_isOpen hos hm hk, q_b1_s, h3, h4, n0, hd]
  simp only [q_b1_s]
  by_cases c0 : o.2.2.2.2.2.1 = 0
  · have e : o_op o = true := by simp [o_op, c0]
    rw [if_pos e, if_neg (by decide)]
    by_cases c2 : d ≤ o.2.2.2.2.1 <;> simp [c0, c2]
  · have e : ¬ o_op o = true := by simp [o_op, c0]
    rw [if_neg e, if_pos rfl]
    by_cases c1 : o.2.2.2.2.2.1 = 1
    · rw [if_neg (not_not_intro c1), (h5 c1).2, q_b1_s]
      simp only [i_nlt]
      by_cases c2 : o.2.2.2.2.2.2.2 ≤ o.2.2.2.2.1 <;> simp [c1, c2]
    · rw [if_pos c1]
      simp [c0, c1]
theorem m_isOrder_y {os : List gOd} {M : gMo} (hos : r_os os) (hm : m_od os (M.1 0)) {k : Nat} (hk : k < os.length) : f10_isOrder M (nI k) = some 1 := by
  have := hos.1
  unfold f10_isOrder
  rw [f10_in_e, q_b1_s, n7, hm.1, show nI os.length - (1 : Int32) = nI (os.length - 1) from pk_sub (b := 1) (by omega), if_pos (show 0 ≤ nI k ∧ nI k ≤ nI (os.length - 1) from ⟨nI_pos' (by omega), (nI_leI (by omega) (by omega)).mpr (by omega)⟩), if_pos (by decide)]
theorem m_isOrder_n {os : List gOd} {M : gMo} (hos : r_os os) (hm : m_od os (M.1 0)) {x : Int32} (hx : ∀ k, k < os.length → x ≠ nI k) : f10_isOrder M x = some 0 := by
  have := hos.1
  unfold f10_isOrder
  rw [f10_in_e, q_b1_s, n7, hm.1, if_neg (show ¬ (0 ≤ x ∧ x ≤ nI os.length - 1) from fun q => by
    obtain ⟨j, hj, rfl⟩ := nI_of (Int32.not_lt.mpr q.1)
    have c2 := q.2
    by_cases m0 : os.length = 0
    · rw [m0] at c2
      exact absurd (Int32.le_trans q.1 c2) (by decide)
    · rw [show nI os.length - (1 : Int32) = nI (os.length - 1) from pk_sub (b := 1) (by omega), nI_leI (by omega) (by omega)] at c2
      exact hx j (by omega) rfl), if_pos (by decide)]
theorem m_open_l {os : List gOd} {M : gMo} (hos : r_os os) (hm : m_od os (M.1 0)) : ∀ (m n k acc : Nat), k + m = os.length → m < n → acc ≤ k → f10_open_4 n M (nI acc) (nI k) = some (nI (acc + (os.drop k).countP o_op)) := by
  have hle := hos.1
  intro m
  induction m with
  | zero =>
    intro n k acc hk hn _
    obtain ⟨n, rfl⟩ : ∃ k, n = k + 1 := ⟨n - 1, by omega⟩
    rw [f10_open_4, n7, hm.1, if_pos ((nI_leI (by omega) (by omega)).mpr (by omega)), List.drop_eq_nil_of_le (by omega)]
    rfl
  | succ m ih =>
    intro n k acc hk hn ha
    obtain ⟨n, rfl⟩ : ∃ k, n = k + 1 := ⟨n - 1, by omega⟩
    have hkl : k < os.length := by omega
    have e : os[k]? = some os[k] := List.getElem?_eq_getElem hkl
    rw [f10_open_4, n7, hm.1, if_neg (fun q => by have := (nI_leI (by omega) (by omega)).mp q; omega), m_isOpen hos hm e, q_b1_s, drop_at e, List.countP_cons]
    simp only [q_let]
    rw [show nI k + 1 = nI (k + 1) from nI_add k 1, show nI acc + 1 = nI (acc + 1) from nI_add acc 1, Int32.add_zero]
    by_cases c : o_op os[k] = true
    · rw [if_pos c, if_neg (by decide), ih n (k + 1) (acc + 1) (by omega) (by omega) (by omega), if_pos c]
      congr 2
      omega
    · rw [if_neg c, if_pos rfl, ih n (k + 1) acc (by omega) (by omega) (by omega), if_neg c]
      rfl
theorem m_open {os : List gOd} {M : gMo} (hos : r_os os) (hm : m_od os (M.1 0)) : f10_open M = some (nI (os.countP o_op)) := by
  have e := m_open_l hos hm os.length 70 0 0 (by omega) (by have := hos.1; omega) (by omega)
  unfold f10_open
  rw [← nI_0, e, Nat.zero_add]
  rfl
theorem m_late_l {os : List gOd} {M : gMo} (hos : r_os os) (hm : m_od os (M.1 0)) {d : Int32} (hd : M.1 0 0 = d) : ∀ (m n k acc : Nat), k + m = os.length → m < n → acc ≤ k → f10_late_4 n M (nI acc) (nI k) = some (nI (acc + (os.drop k).countP (o_lt d))) := by
  have hle := hos.1
  intro m
  induction m with
  | zero =>
    intro n k acc hk hn _
    obtain ⟨n, rfl⟩ : ∃ k, n = k + 1 := ⟨n - 1, by omega⟩
    rw [f10_late_4, n7, hm.1, if_pos ((nI_leI (by omega) (by omega)).mpr (by omega)), List.drop_eq_nil_of_le (by omega)]
    rfl
  | succ m ih =>
    intro n k acc hk hn ha
    obtain ⟨n, rfl⟩ : ∃ k, n = k + 1 := ⟨n - 1, by omega⟩
    have hkl : k < os.length := by omega
    have e : os[k]? = some os[k] := List.getElem?_eq_getElem hkl
    rw [f10_late_4, n7, hm.1, if_neg (fun q => by have := (nI_leI (by omega) (by omega)).mp q; omega), m_isLate hos hm e hd, q_b1_s, drop_at e, List.countP_cons]
    simp only [q_let]
    rw [show nI k + 1 = nI (k + 1) from nI_add k 1, show nI acc + 1 = nI (acc + 1) from nI_add acc 1, Int32.add_zero]
    by_cases c : o_lt d os[k] = true
    · rw [if_pos c, if_neg (by decide), ih n (k + 1) (acc + 1) (by omega) (by omega) (by omega), if_pos c]
      congr 2
      omega
    · rw [if_neg c, if_pos rfl, ih n (k + 1) acc (by omega) (by omega) (by omega), if_neg c]
      rfl
theorem m_late {os : List gOd} {M : gMo} (hos : r_os os) (hm : m_od os (M.1 0)) {d : Int32} (hd : M.1 0 0 = d) : f10_late M = some (nI (os.countP (o_lt d))) := by
  have e := m_late_l hos hm hd os.length 70 0 0 (by omega) (by have := hos.1; omega) (by omega)
  unfold f10_late
  rw [← nI_0, e, Nat.zero_add]
  rfl
theorem i_sub {a b : Nat} (ha : a < 100000) (hb : b < 100000) : (nI a - nI b).toInt = (a : Int) - b := by
  rw [Int32.toInt_sub, nI_toInt (by omega), nI_toInt (by omega), Int.bmod_eq_of_le (by omega) (by omega)]
theorem i_sublt {a b : Nat} (ha : a < 100000) (hb : b < 100000) : nI a - nI b < 0 ↔ a < b := by
  rw [Int32.lt_iff_toInt_lt, i_sub ha hb]
  have : (0 : Int32).toInt = 0 := by decide
  omega
theorem i_subeq {a b : Nat} (ha : a < 100000) (hb : b < 100000) : nI a - nI b = 0 ↔ a = b := by
  rw [← Int32.toInt_inj, i_sub ha hb]
  have : (0 : Int32).toInt = 0 := by decide
  omega
theorem m_isAhead {os : List gOd} {M : gMo} (hos : r_os os) (hm : m_od os (M.1 0)) {k k2 : Nat} {o o2 : gOd} (hk : os[k]? = some o) (hk2 : os[k2]? = some o2) : f10_isAhead M (nI k) (nI k2) = some (if o_key o < o_key o2 then 1 else 0) := by
  obtain ⟨-, a1, a2, a3, -⟩ := m_of hos hm hk
  obtain ⟨-, b1, b2, b3, -⟩ := m_of hos hm hk2
  obtain ⟨h, ek⟩ := hos.2 k o hk
  obtain ⟨h2, ek2⟩ := hos.2 k2 o2 hk2
  have hk12 : k < 12 := by have := (List.getElem?_eq_some_iff.mp hk).1; have := hos.1; omega
  have hk22 : k2 < 12 := by have := (List.getElem?_eq_some_iff.mp hk2).1; have := hos.1; omega
  obtain ⟨ea, la, ua⟩ := o_ar_e h
  obtain ⟨eb, lb, ub⟩ := o_ar_e h2
  obtain ⟨-, -, -, ⟨d, ud, ed⟩, -⟩ := h
  obtain ⟨-, -, -, ⟨d2, ud2, ed2⟩, -⟩ := h2
  unfold f10_isAhead o_key
  rw [a1, a2, a3, b1, b2, b3]
  simp only [q_b1_s, q_let]
  rw [ea, eb, ed, ed2, ek, ek2]
  simp (disch := omega) only [i_sublt, i_subeq, nI_leI, nI_clamp]
  by_cases c1 : d < d2
  · rw [if_pos c1, if_pos (by omega)]
  · rw [if_neg c1]
    by_cases c2 : d = d2
    · rw [if_neg (not_not_intro c2)]
      by_cases c3 : o_ar o2 < o_ar o
      · rw [if_pos c3, if_pos (by omega)]
      · rw [if_neg c3]
        by_cases c4 : o_ar o2 = o_ar o
        · rw [if_neg (not_not_intro c4)]
          by_cases c5 : k2 ≤ k
          · rw [if_pos c5, if_neg (by omega)]
          · rw [if_neg c5, if_pos (by omega)]
        · rw [if_pos c4, if_neg (by omega)]
    · rw [if_pos c2, if_neg (by omega)]
/-! the seen orders as bits -/
theorem s_sh : ∀ n, n < 12 → ((nI n &&& 31).toBitVec.smod 32).toNat = n := by decide
theorem s_bit {S k : Nat} (hS : S < 4096) (hk : k < 12) : ((nI S >>> (nI k &&& 31)) &&& (1 : Int32)) = 0 ↔ S.testBit k = false := by
  have hd : S / 2 ^ k ≤ S := Nat.div_le_self _ _
  rw [pk_shrN (by omega) _ k (s_sh k hk), pk_andN (by omega) 1 (by decide), Nat.testBit_eq_decide_div_mod_eq]
  have hm : S / 2 ^ k % 2 < 2 := Nat.mod_lt _ (by omega)
  rw [show (2 : Nat) ^ 1 = 2 from rfl, ← nI_0, nI_eq (by omega) (by omega)]
  simp
theorem nI_or (a b : Nat) : nI a ||| nI b = nI (a ||| b) := by
  apply Int32.toBitVec_inj.mp
  rw [Int32.toBitVec_or]
  unfold nI
  simp
theorem s_set (S : Nat) {k : Nat} (hk : k < 12) : nI S ||| ((1 : Int32) <<< (nI k &&& 31)) = nI (S ||| 2 ^ k) := by
  have h2 : 2 ^ k ≤ 2 ^ 12 := Nat.pow_le_pow_right (by omega) (by omega)
  rw [l1, pk_shlN _ k (s_sh k hk) (by omega), Nat.one_mul, nI_or]
theorem s_lt {S k : Nat} (hS : S < 4096) (hk : k < 12) : S ||| 2 ^ k < 4096 :=
  Nat.or_lt_two_pow (n := 12) hS (Nat.pow_lt_pow_right (by omega) hk)
theorem s_or (S k j : Nat) : (S ||| 2 ^ k).testBit j = (S.testBit j || decide (k = j)) := by
  rw [Nat.testBit_or, Nat.testBit_two_pow]
/-- unseen open orders -/
def p_s (S : Nat) (o : gOd) : Bool := o_op o && !(S.testBit o.1.toNatClampNeg)
def m_nm (b : Option gOd) : Int32 := match b with
  | none => -5
  | some o => o.1
theorem nI_m5 {k : Nat} (h : k < 2 ^ 31) : ¬ nI k = -5 := fun q => nI_pos h (by rw [q]; decide)
theorem m_first_l {os : List gOd} {M : gMo} (hos : r_os os) (hm : m_od os (M.1 0)) {S : Nat} (hS : S < 4096) : ∀ (m n k : Nat) (b : Option gOd), k + m = os.length → m < n → (∀ x, b = some x → ∃ j : Nat, os[j]? = some x) → f10_first_5 n M (nI S) (m_nm b) (nI k) = some (m_nm (o_best (p_s S) b (os.drop k))) := by
  have hle := hos.1
  intro m
  induction m with
  | zero =>
    intro n k b hk hn _
    obtain ⟨n, rfl⟩ : ∃ k, n = k + 1 := ⟨n - 1, by omega⟩
    rw [f10_first_5, n7, hm.1, if_pos ((nI_leI (by omega) (by omega)).mpr (by omega)), List.drop_eq_nil_of_le (by omega)]
    rfl
  | succ m ih =>
    intro n k b hk hn hb
    obtain ⟨n, rfl⟩ : ∃ k, n = k + 1 := ⟨n - 1, by omega⟩
    have hkl : k < os.length := by omega
    have e : os[k]? = some os[k] := List.getElem?_eq_getElem hkl
    have ek := (hos.2 k _ e).2
    have i0 := ih n (k + 1) b (by omega) (by omega) hb
    have i1 := ih n (k + 1) (some os[k]) (by omega) (by omega) (fun x q => by cases q; exact ⟨k, e⟩)
    have en : m_nm (some os[k]) = nI k := ek
    rw [en] at i1
    rw [f10_first_5, n7, hm.1, if_neg (fun q => by have := (nI_leI (by omega) (by omega)).mp q; omega), m_isOpen hos hm e, q_b1_s, drop_at e, o_best_c]
    rw [show nI k + 1 = nI (k + 1) from nI_add k 1]
    have ep : p_s S os[k] = (o_op os[k] && !(S.testBit k)) := by
      unfold p_s
      rw [ek, nI_clamp (by omega)]
    by_cases c : o_op os[k] = true
    · rw [if_pos c, if_neg (by decide)]
      by_cases c2 : S.testBit k = false
      · rw [if_neg (not_not_intro ((s_bit hS (by omega)).mpr c2))]
        have ep2 : p_s S os[k] = true := by rw [ep, c, c2]; rfl
        cases b with
        | none =>
          rw [if_pos (show m_nm none = -5 from rfl), i1, if_pos ⟨ep2, fun x q => by cases q⟩]
        | some x =>
          obtain ⟨j, hj⟩ := hb x rfl
          have exj := (hos.2 j x hj).2
          have hjl : j < os.length := (List.getElem?_eq_some_iff.mp hj).1
          have enx : m_nm (some x) = nI j := exj
          rw [enx, if_neg (nI_m5 (by omega)), m_isAhead hos hm e hj, q_b1_s]
          rw [enx] at i0
          by_cases c4 : o_key os[k] < o_key x
          · rw [if_pos c4, if_neg (by decide), i1, if_pos ⟨ep2, fun y q => by cases q; exact c4⟩]
          · rw [if_neg c4, if_pos rfl, i0, if_neg (fun q => c4 (q.2 x rfl))]
      · rw [if_pos (fun q => c2 ((s_bit hS (by omega)).mp q)), i0, if_neg (fun q => by
          rw [ep] at q
          have := q.1
          simp at this
          exact c2 this.2)]
    · rw [if_neg c, if_pos rfl, i0, if_neg (fun q => by
        rw [ep] at q
        have := q.1
        simp at this
        exact c (by simp [o_op, this.1]))]
theorem m_first {os : List gOd} {M : gMo} (hos : r_os os) (hm : m_od os (M.1 0)) {S : Nat} (hS : S < 4096) : f10_first M (nI S) = some (m_nm (o_best (p_s S) none os)) := by
  have e := m_first_l hos hm hS os.length 70 0 none (by omega) (by have := hos.1; omega) (fun x q => by cases q)
  rw [nI_0, List.drop_zero] at e
  exact e
/-! the best of a list: it counts, and none is better -/
theorem o_best_le (P : gOd → Bool) : ∀ (os : List gOd) (b : Option gOd) (x : gOd), o_best P b os = some x → (b = some x ∨ (x ∈ os ∧ P x = true)) ∧ (∀ y, b = some y → o_key x ≤ o_key y) ∧ ∀ y ∈ os, P y = true → o_key x ≤ o_key y := by
  intro os
  induction os with
  | nil => intro b x h; exact ⟨Or.inl h, fun y q => by have := h.symm.trans q; cases this; exact Nat.le_refl _, fun y q => by cases q⟩
  | cons o os ih =>
    intro b x h
    rw [o_best_c] at h
    obtain ⟨h1, h2, h3⟩ := ih _ _ h
    by_cases c : P o = true ∧ (∀ x, b = some x → o_key o < o_key x)
    · rw [if_pos c] at h1 h2
      have hx := h2 o rfl
      refine ⟨?_, fun y q => Nat.le_trans hx (Nat.le_of_lt (c.2 y q)), fun y hy hp => ?_⟩
      · rcases h1 with q | q
        · cases q; exact Or.inr ⟨List.mem_cons_self, c.1⟩
        · exact Or.inr ⟨List.mem_cons_of_mem _ q.1, q.2⟩
      · rcases List.mem_cons.mp hy with q | q
        · rw [q]; exact hx
        · exact h3 y q hp
    · rw [if_neg c] at h1 h2
      refine ⟨h1.imp_right (fun q => ⟨List.mem_cons_of_mem _ q.1, q.2⟩), h2, fun y hy hp => ?_⟩
      rcases List.mem_cons.mp hy with q | q
      · subst q
        cases b with
        | none => exact absurd ⟨hp, fun z w => by cases w⟩ c
        | some z =>
          have hz := h2 z rfl
          have : ¬ o_key y < o_key z := fun w => c ⟨hp, fun t ht => by cases ht; exact w⟩
          omega
      · exact h3 y q hp
theorem o_best_no (P : gOd → Bool) : ∀ (os : List gOd) (b : Option gOd), o_best P b os = none → b = none ∧ ∀ y ∈ os, ¬ P y = true := by
  intro os
  induction os with
  | nil => intro b h; exact ⟨h, fun y q => by cases q⟩
  | cons o os ih =>
    intro b h
    rw [o_best_c] at h
    obtain ⟨h1, h2⟩ := ih _ h
    by_cases c : P o = true ∧ (∀ x, b = some x → o_key o < o_key x)
    · rw [if_pos c] at h1; cases h1
    · rw [if_neg c] at h1
      subst h1
      refine ⟨rfl, fun y hy hp => ?_⟩
      rcases List.mem_cons.mp hy with q | q
      · subst q; exact c ⟨hp, fun z w => by cases w⟩
      · exact h2 y q hp
theorem o_best_cg {P Q : gOd → Bool} : ∀ (os : List gOd) (b : Option gOd), (∀ o ∈ os, P o = Q o) → o_best P b os = o_best Q b os := by
  intro os
  induction os with
  | nil => intro b _; rfl
  | cons o os ih =>
    intro b h
    rw [o_best_c, o_best_c, h o List.mem_cons_self]
    exact ih _ (fun x hx => h x (List.mem_cons_of_mem _ hx))
theorem cnt_le {P Q : gOd → Bool} : ∀ (l l2 : List gOd), l2.length = l.length → (∀ (k : Nat) (o2 : gOd), l2[k]? = some o2 → Q o2 = true → ∃ o, l[k]? = some o ∧ P o = true) → l2.countP Q ≤ l.countP P := by
  intro l
  induction l with
  | nil => intro l2 h _; rw [List.length_nil, List.length_eq_zero_iff] at h; subst h; exact Nat.le_refl _
  | cons o l ih =>
    intro l2 h hh
    cases l2 with
    | nil => simp at h
    | cons o2 l2 =>
      have i1 := ih l2 (by simpa using h) (fun k x hx hq => by
        have := hh (k + 1) x (by simpa using hx) hq
        simpa using this)
      rw [List.countP_cons, List.countP_cons]
      by_cases c : Q o2 = true
      · obtain ⟨x, hx, hp⟩ := hh 0 o2 rfl c
        simp at hx
        subst hx
        rw [if_pos c, if_pos hp]
        omega
      · rw [if_neg c]
        omega
theorem cnt_lt {P Q : gOd → Bool} : ∀ (l l2 : List gOd), l2.length = l.length → (∀ (k : Nat) (o2 : gOd), l2[k]? = some o2 → Q o2 = true → ∃ o, l[k]? = some o ∧ P o = true) → (∃ (k : Nat) (o o2 : gOd), l[k]? = some o ∧ P o = true ∧ l2[k]? = some o2 ∧ ¬ Q o2 = true) → l2.countP Q < l.countP P := by
  intro l
  induction l with
  | nil => rintro l2 h _ ⟨k, o, o2, h1, -⟩; simp at h1
  | cons o l ih =>
    intro l2 h hh hx
    cases l2 with
    | nil => simp at h
    | cons o2 l2 =>
      have hh2 : ∀ (k : Nat) (x : gOd), l2[k]? = some x → Q x = true → ∃ o, l[k]? = some o ∧ P o = true := fun k x hx hq => by
        have := hh (k + 1) x (by simpa using hx) hq
        simpa using this
      have hl2 : l2.length = l.length := by simpa using h
      rw [List.countP_cons, List.countP_cons]
      obtain ⟨k, y, y2, h1, h2, h3, h4⟩ := hx
      cases k with
      | zero =>
        simp at h1 h3
        subst h1
        subst h3
        have := cnt_le l l2 hl2 hh2
        rw [if_neg h4, if_pos h2]
        omega
      | succ k =>
        simp at h1 h3
        have i1 := ih l2 hl2 hh2 ⟨k, y, y2, h1, h2, h3, h4⟩
        by_cases c : Q o2 = true
        · obtain ⟨x, hx, hp⟩ := hh 0 o2 rfl c
          simp at hx
          subst hx
          rw [if_pos c, if_pos hp]
          omega
        · rw [if_neg c]
          omega
