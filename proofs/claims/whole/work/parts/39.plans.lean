/-! THE REFERENCE: a plan -/
theorem t_cut_10 (a : aSt) (r p k : Nat) (s : gSh) (o : gOd) : (10 : Int32) ≤ (t_cut a r p k s o).1 ↔ (t_cut a r p k s o).1 = 10 := by
  have k01 : ∀ (b : aSt) (w y : Int32), (t_keep b r w y s).1 = 0 ∨ (t_keep b r w y s).1 = 1 := by
    intro b w y
    unfold t_keep
    split
    · exact Or.inl rfl
    · split
      · exact Or.inr rfl
      · exact Or.inl rfl
  unfold t_cut
  split
  · exact ⟨fun _ => rfl, fun _ => Int32.le_refl _⟩
  · show (10 : Int32) ≤ (t_keep _ r _ _ s).1 + (t_keep _ r _ _ s).1 ↔ (t_keep _ r _ _ s).1 + (t_keep _ r _ _ s).1 = 10
    rcases k01 (t_done (t_out a r p s).2 a.1 k s o) (c_bw a.1 o s) (c_bh a.1 o s) with q | q <;> rcases k01 (t_keep (t_done (t_out a r p s).2 a.1 k s o) r (c_bw a.1 o s) (c_bh a.1 o s) s).2 (c_aw a.1 o s) (c_ah a.1 o s) with q2 | q2 <;> rw [q, q2] <;> decide
theorem t_cut_od (a : aSt) (r p k : Nat) (s : gSh) (o : gOd) : (t_cut a r p k s o).2.2.2 = a.2.2 ∨ ∃ d, (t_cut a r p k s o).2.2.2 = a.2.2.set k (o_cut o s d) := by
  rw [t_cut_e]
  split
  · exact Or.inl rfl
  · have e : (t_keep (t_keep (t_out a r p s).2 r (c_bw a.1 o s) (c_bh a.1 o s) s).2 r (c_aw a.1 o s) (c_ah a.1 o s) s).2.2.2 = a.2.2 := (t_keep_od _ _ _ _ _).trans (t_keep_od _ _ _ _ _)
    exact Or.inr ⟨(t_keep (t_keep (t_out a r p s).2 r (c_bw a.1 o s) (c_bh a.1 o s) s).2 r (c_aw a.1 o s) (c_ah a.1 o s) s).2.1 5, congrArg (fun (l : List gOd) => l.set k (o_cut o s ((t_keep (t_keep (t_out a r p s).2 r (c_bw a.1 o s) (c_bh a.1 o s) s).2 r (c_aw a.1 o s) (c_ah a.1 o s) s).2.1 5))) e⟩
theorem t_cut_op {a : aSt} {r p k : Nat} {s : gSh} {o : gOd} : (t_cut a r p k s o).2.2.2.length = a.2.2.length ∧ ∀ (k2 : Nat) (o2 : gOd), (t_cut a r p k s o).2.2.2[k2]? = some o2 → o_op o2 = true → a.2.2[k2]? = some o2 := by
  rcases t_cut_od a r p k s o with q | ⟨d, q⟩
  · rw [q]; exact ⟨rfl, fun _ _ h _ => h⟩
  · rw [q]
    refine ⟨List.length_set, fun k2 o2 h hop => ?_⟩
    rw [List.getElem?_set] at h
    by_cases c : k = k2
    · subst c
      rw [if_pos rfl] at h
      split at h
      · cases h
        exact absurd hop (by simp [o_op, o_cut])
      · cases h
    · rw [if_neg c] at h
      exact h
/-- what is seen: the open orders up to 'last' -/
def s_in (os : List gOd) (S : Nat) (last : Option gOd) : Prop := ∀ (k : Nat) (o : gOd), os[k]? = some o → o_op o = true → (S.testBit k = true ↔ ∃ l, last = some l ∧ o_key o ≤ o_key l)
theorem s_in.best {os : List gOd} (hos : r_os os) {S : Nat} {last : Option gOd} (h : s_in os S last) : o_best (p_s S) none os = o_best (o_nx last) none os := by
  refine o_best_cg os none (fun o ho => ?_)
  obtain ⟨k, hk⟩ := List.getElem?_of_mem ho
  have hkl : k < os.length := (List.getElem?_eq_some_iff.mp hk).1
  have := hos.1
  unfold p_s o_nx
  by_cases c : o_op o = true
  · rw [c, (hos.2 k o hk).2, nI_clamp (by omega)]
    have e := h k o hk c
    cases last with
    | none =>
      have : ¬ S.testBit k = true := fun q => by obtain ⟨l, h1, -⟩ := e.mp q; cases h1
      simp [this]
    | some l =>
      have e2 : S.testBit k = true ↔ o_key o ≤ o_key l := e.trans ⟨fun ⟨_, h1, h2⟩ => by cases h1; exact h2, fun h2 => ⟨l, rfl, h2⟩⟩
      by_cases c2 : S.testBit k = true
      · have := e2.mp c2
        simp [c2, show ¬ o_key l < o_key o by omega]
      · have : ¬ o_key o ≤ o_key l := fun q => c2 (e2.mpr q)
        simp [c2, show o_key l < o_key o by omega]
  · simp [c]
theorem o_key_inj {os : List gOd} (hos : r_os os) {k k2 : Nat} {o o2 : gOd} (hk : os[k]? = some o) (hk2 : os[k2]? = some o2) (h : o_key o = o_key o2) : k = k2 := by
  have := (List.getElem?_eq_some_iff.mp hk).1
  have := (List.getElem?_eq_some_iff.mp hk2).1
  have := hos.1
  unfold o_key at h
  rw [(hos.2 k o hk).2, (hos.2 k2 o2 hk2).2, nI_clamp (by omega), nI_clamp (by omega)] at h
  omega
theorem s_in.next {os os2 : List gOd} (hos : r_os os) {S : Nat} {last : Option gOd} (h : s_in os S last) {k : Nat} {o : gOd} (hk : os[k]? = some o) (hb : o_best (o_nx last) none os = some o) (h2 : ∀ (k2 : Nat) (o2 : gOd), os2[k2]? = some o2 → o_op o2 = true → os[k2]? = some o2) : s_in os2 (S ||| 2 ^ k) (some o) := by
  intro k2 o2 hk2 hop
  have hk3 := h2 k2 o2 hk2 hop
  obtain ⟨h3, -, h5⟩ := o_best_le _ _ _ _ hb
  have h4 : o_nx last o = true := by
    rcases h3 with q | q
    · cases q
    · exact q.2
  rw [s_or]
  have e := h k2 o2 hk3 hop
  constructor
  · intro q
    refine ⟨o, rfl, ?_⟩
    rw [Bool.or_eq_true] at q
    rcases q with q | q
    · obtain ⟨l, q1, q2⟩ := e.mp q
      subst q1
      unfold o_nx at h4
      simp at h4
      omega
    · have : k = k2 := by simpa using q
      subst this
      rw [hk] at hk3
      cases hk3
      exact Nat.le_refl _
  · rintro ⟨l, q1, q2⟩
    cases q1
    rw [Bool.or_eq_true]
    by_cases c : S.testBit k2 = true
    · exact Or.inl c
    · right
      have h6 := h5 o2 (List.mem_of_getElem? hk3) (by
        unfold o_nx
        cases last with
        | none => simp [hop]
        | some l2 =>
          have : ¬ o_key o2 ≤ o_key l2 := fun q => c (e.mpr ⟨l2, rfl, q⟩)
          simp [hop, show o_key l2 < o_key o2 by omega])
      have := o_key_inj hos hk hk3 (by omega)
      simp [this]
/-- how many are still to come falls -/
theorem s_fall {os os2 : List gOd} {last : Option gOd} {k : Nat} {o : gOd} (hk : os[k]? = some o) (hb : o_best (o_nx last) none os = some o) (hl : os2.length = os.length) (h2 : ∀ (k2 : Nat) (o2 : gOd), os2[k2]? = some o2 → o_op o2 = true → os[k2]? = some o2) : os2.countP (o_nx (some o)) < os.countP (o_nx last) := by
  obtain ⟨h3, -, -⟩ := o_best_le _ _ _ _ hb
  have h4 : o_nx last o = true := by
    rcases h3 with q | q
    · cases q
    · exact q.2
  have hkl : k < os2.length := by rw [hl]; exact (List.getElem?_eq_some_iff.mp hk).1
  refine cnt_lt os os2 hl (fun k2 o2 hk2 hq => ?_) ⟨k, o, os2[k], hk, h4, List.getElem?_eq_getElem hkl, fun q => ?_⟩
  · unfold o_nx at hq
    simp only [Bool.and_eq_true, decide_eq_true_eq] at hq
    refine ⟨o2, h2 k2 o2 hk2 (decide_eq_true hq.1), ?_⟩
    unfold o_nx at h4 ⊢
    cases last with
    | none => simp [hq.1]
    | some l =>
      simp only [Bool.and_eq_true, decide_eq_true_eq] at h4 ⊢
      exact ⟨hq.1, by have := h4.2; have := hq.2; omega⟩
  · unfold o_nx at q
    simp only [Bool.and_eq_true, decide_eq_true_eq] at q
    have := h2 k _ (List.getElem?_eq_getElem hkl) (decide_eq_true q.1)
    rw [hk] at this
    have e := Option.some.inj this
    rw [← e] at q
    omega
theorem m_steps (c : Int32) : ∀ (f n : Nat) (a : aSt) (M : gMo) (S : Nat) (last : Option gOd) (x : Int32), f < n → a.2.2.countP (o_nx last) ≤ f → a_ok a → r_m a (M.1 0) → S < 4096 → s_in a.2.2 S last → ∃ M2, f10_plans_11 n M c (nI S) x (m_nm (o_best (o_nx last) none a.2.2)) = some ((w_steps c f a (o_best (o_nx last) none a.2.2) x).1, M2) ∧ m_eq M M2 ∧ r_m (w_steps c f a (o_best (o_nx last) none a.2.2) x).2 (M2.1 0) := by
  intro f
  induction f with
  | zero =>
    intro n a M S last x hn hf ha hm hS hs
    obtain ⟨n, rfl⟩ : ∃ k, n = k + 1 := ⟨n - 1, by omega⟩
    have hno : o_best (o_nx last) none a.2.2 = none := by
      cases hb : o_best (o_nx last) none a.2.2 with
      | none => rfl
      | some o =>
        obtain ⟨h3, -, -⟩ := o_best_le _ _ _ _ hb
        rcases h3 with q | q
        · cases q
        · have := List.countP_pos_iff.mpr ⟨o, q.1, q.2⟩
          omega
    rw [hno, f10_plans_11, if_pos (show m_nm none = -5 from rfl)]
    exact ⟨M, rfl, m_eq.rf, hm⟩
  | succ f ih =>
    intro n a M S last x hn hf ha hm hS hs
    obtain ⟨n, rfl⟩ : ∃ k, n = k + 1 := ⟨n - 1, by omega⟩
    cases hb : o_best (o_nx last) none a.2.2 with
    | none =>
      rw [f10_plans_11, if_pos (show m_nm none = -5 from rfl)]
      exact ⟨M, rfl, m_eq.rf, hm⟩
    | some o =>
      obtain ⟨k, hk⟩ := o_best_at hb
      have hos := ha.2.2
      have hkl : k < 12 := by have := (List.getElem?_eq_some_iff.mp hk).1; have := hos.1; omega
      have ek := (hos.2 k o hk).2
      have en : m_nm (some o) = nI k := ek
      have ek2 : o.1.toNatClampNeg = k := by rw [ek, nI_clamp (by omega)]
      rw [en, f10_plans_11, if_neg (nI_m5 (by omega)), s_set S hkl, q_let, m_chosen ha hm hk c, q_b1_s]
      have hS2 := s_lt hS hkl
      cases hc : ch_at a o c with
      | none =>
        simp only [if_true]
        have hs2 : s_in a.2.2 (S ||| 2 ^ k) (some o) := hs.next hos hk hb (fun _ _ h _ => h)
        have hfall := s_fall hk hb rfl (fun _ _ h _ => h)
        rw [q_let, Int32.add_zero, m_first hos hm.2.2.2.2 hS2, q_b1_s, hs2.best hos]
        obtain ⟨M2, i1, i2, i3⟩ := ih n a M (S ||| 2 ^ k) (some o) x (by omega) (by omega) ha hm hS2 hs2
        rw [w_steps, hc]
        exact ⟨M2, i1, i2, i3⟩
      | some q =>
        obtain ⟨r, p, s⟩ := q
        obtain ⟨z2, w2, e2, -, -, hbb⟩ : ∃ (z2 : Unit) (w : Option gSh) (e : Int32), True ∧ True ∧ ch_b a o c 32 w e := by
          obtain ⟨m, hm2, hk4⟩ := ha.2.1
          have hle := hk4.1
          obtain ⟨w, -, e2⟩ := m_chosen_l ha hm hm2 hk4 hk c m 300 0 none (by omega) (by omega) (fun k x hk hf j hj => Nat.zero_le _)
          obtain ⟨e, h⟩ := e2.b hk4
          exact ⟨(), _, e, trivial, trivial, h⟩
        have hat : r < 4 ∧ (a.2.1 r)[p]? = some s := by
          obtain ⟨m, hm2, hk4⟩ := ha.2.1
          cases w2 with
          | none => rw [ch_at_n hbb] at hc; cases hc
          | some w =>
            obtain ⟨r2, p2, h1, h2, -, h4⟩ := ch_at_s hk4.2.2.1 hbb
            rw [h4] at hc
            cases hc
            exact ⟨h1, h2⟩
        obtain ⟨hr, hsx⟩ := hat
        obtain ⟨m, hm2, hk4⟩ := ha.2.1
        have hle := hk4.1
        obtain ⟨-, j, hj, ej⟩ := hk4.2.2.2 r p s hr hsx
        obtain ⟨M1, y1, y2, y3⟩ := m_cuts ha hm hr hsx hk
        have ha1 := t_cut_ok ha hr hsx hk
        obtain ⟨hl2, hop2⟩ := t_cut_op (a := a) (r := r) (p := p) (k := k) (s := s) (o := o)
        have hs2 : s_in (t_cut a r p k s o).2.2.2 (S ||| 2 ^ k) (some o) := hs.next hos hk hb hop2
        have hfall := s_fall hk hb hl2 hop2
        dsimp only
        rw [if_neg (by rw [ej]; exact nI_m5 (by omega)), y1, q_bd_s, w_steps, hc]
        show ∃ M2, _ = some ((w_steps c f (t_cut a r p o.1.toNatClampNeg s o).2 (o_best (o_nx (some o)) none (t_cut a r p o.1.toNatClampNeg s o).2.2.2) (if (t_cut a r p o.1.toNatClampNeg s o).1 = 10 then x else x + 1)).1, M2) ∧ m_eq M M2 ∧ r_m (w_steps c f (t_cut a r p o.1.toNatClampNeg s o).2 (o_best (o_nx (some o)) none (t_cut a r p o.1.toNatClampNeg s o).2.2.2) (if (t_cut a r p o.1.toNatClampNeg s o).1 = 10 then x else x + 1)).2 (M2.1 0)
        rw [ek2]
        have ifirst := m_first ha1.2.2 y3.2.2.2.2 hS2
        rw [hs2.best ha1.2.2] at ifirst
        by_cases c10 : (t_cut a r p k s o).1 = 10
        · rw [if_pos ((t_cut_10 _ _ _ _ _ _).mpr c10), q_let, Int32.add_zero, ifirst, q_b1_s, if_pos c10]
          obtain ⟨M2, i1, i2, i3⟩ := ih n (t_cut a r p k s o).2 M1 (S ||| 2 ^ k) (some o) x (by omega) (by omega) ha1 y3 hS2 hs2
          exact ⟨M2, i1, y2.tr i2, i3⟩
        · rw [if_neg (fun q => c10 ((t_cut_10 _ _ _ _ _ _).mp q)), q_let, ifirst, q_b1_s, if_neg c10]
          obtain ⟨M2, i1, i2, i3⟩ := ih n (t_cut a r p k s o).2 M1 (S ||| 2 ^ k) (some o) (x + 1) (by omega) (by omega) ha1 y3 hS2 hs2
          exact ⟨M2, i1, y2.tr i2, i3⟩
theorem s_in0 (os : List gOd) : s_in os 0 none := fun k o _ _ => by
  rw [Nat.zero_testBit]
  exact ⟨fun q => (by cases q), fun ⟨l, q, _⟩ => (by cases q)⟩
/-- a plan: what a plan does, when some order is open; else nothing, 0 -/
noncomputable def w_does (a : aSt) (c : Int32) : Int32 × aSt := w_steps c 12 a (o_best (o_nx none) none a.2.2) 0
theorem m_plans {a : aSt} (ha : a_ok a) {M : gMo} (hm : r_m a (M.1 0)) (c : Int32) : ∃ M2, f10_plans M c = some ((w_does a c).1, M2) ∧ m_eq M M2 ∧ r_m (w_does a c).2 (M2.1 0) := by
  unfold f10_plans w_does
  rw [← nI_0, m_first ha.2.2 hm.2.2.2.2 (S := 0) (by omega), q_b1_s, (s_in0 a.2.2).best ha.2.2]
  exact m_steps c 12 70 a M 0 none (nI 0) (by omega) (Nat.le_trans List.countP_le_length ha.2.2.1) ha hm (by omega) (s_in0 _)
theorem w_does_n {a : aSt} (c : Int32) (h : o_best (o_nx none) none a.2.2 = none) : w_does a c = (0, a) := by
  unfold w_does
  rw [h]
  rfl
theorem w_plan_e {a : aSt} (c : Int32) : w_plan a c = if 0 ≤ c ∧ c ≤ 2 then (if o_best (o_nx none) none a.2.2 = none then (-5, a) else w_does a c) else (-2, a) := by
  unfold w_plan w_does
  split
  · cases h : o_best (o_nx none) none a.2.2 with
    | none => simp
    | some o => simp
  · rfl
