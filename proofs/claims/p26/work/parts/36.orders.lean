/-! THE LAW: orders -/
theorem cnt_none {P Q : gOd → Bool} : ∀ (os : List gOd), (∀ (k : Nat) (o : gOd), os[k]? = some o → P o = true → Q o = true) → os.countP P ≤ os.countP Q
  | [], _ => Nat.le_refl _
  | x :: os, h => by
    have i1 := cnt_none os (fun k o hk => h (k + 1) o (by simpa using hk))
    have i2 := h 0 x rfl
    rw [List.countP_cons, List.countP_cons]
    by_cases c : P x = true
    · rw [if_pos c, if_pos (i2 c)]; omega
    · rw [if_neg c]; omega
theorem cnt_one {P Q : gOd → Bool} : ∀ (os : List gOd) (j : Nat), (∀ (k : Nat) (o : gOd), os[k]? = some o → P o = true → k = j ∨ Q o = true) → os.countP P ≤ os.countP Q + 1
  | [], _, _ => by simp
  | x :: os, 0, h => by
    have i1 := cnt_none (P := P) (Q := Q) os (fun k o hk hp => by
      rcases h (k + 1) o (by simpa using hk) hp with q | q
      · omega
      · exact q)
    rw [List.countP_cons, List.countP_cons]
    split <;> split <;> omega
  | x :: os, j + 1, h => by
    have i1 := cnt_one (P := P) (Q := Q) os j (fun k o hk hp => by
      rcases h (k + 1) o (by simpa using hk) hp with q | q
      · exact Or.inl (by omega)
      · exact Or.inr q)
    have i2 := h 0 x rfl
    rw [List.countP_cons, List.countP_cons]
    by_cases c : P x = true
    · have c2 : Q x = true := by
        rcases i2 c with q | q
        · omega
        · exact q
      rw [if_pos c, if_pos c2]; omega
    · rw [if_neg c]; omega
theorem w_rank_s (os : List gOd) : ∀ (k : Nat) (v : Option gOd), w_rank os (k + 1) v = match w_rank os k v with | none => none | some o => o_best (o_nx (some o)) none os
  | 0, none => rfl
  | 0, some o => rfl
  | k + 1, none => rfl
  | k + 1, some o => by
    show w_rank os (k + 1) (o_best (o_nx (some o)) none os) = _
    rw [w_rank_s os k]
    rfl
theorem o_nx_in {os : List gOd} {last : Option gOd} {o : gOd} (h : o_best (o_nx last) none os = some o) : o_op o = true ∧ (∀ l, last = some l → o_key l < o_key o) ∧ ∀ y ∈ os, o_nx last y = true → o_key o ≤ o_key y := by
  obtain ⟨h1, -, h3⟩ := o_best_le _ _ _ _ h
  rcases h1 with q | ⟨-, q⟩
  · cases q
  · unfold o_nx at q
    simp only [Bool.and_eq_true] at q
    refine ⟨q.1, fun l hl => ?_, h3⟩
    subst hl
    exact of_decide_eq_true q.2
/-- the count of those behind falls by one -/
theorem o_fall1 {os : List gOd} (hos : r_os os) {last : Option gOd} {j : Nat} {o : gOd} (hj : os[j]? = some o) (h : o_best (o_nx last) none os = some o) : os.countP (o_nx last) = os.countP (o_nx (some o)) + 1 := by
  have h1 := s_fall hj h rfl (fun _ _ q _ => q)
  have h2 := cnt_one (P := o_nx last) (Q := o_nx (some o)) os j (fun k x hk hp => by
    obtain ⟨g1, g2, g3⟩ := o_nx_in h
    have e := g3 x (List.mem_of_getElem? hk) hp
    by_cases c : o_key o = o_key x
    · exact Or.inl (o_key_inj hos hj hk c).symm
    · refine Or.inr ?_
      unfold o_nx at hp ⊢
      simp only [Bool.and_eq_true] at hp ⊢
      exact ⟨hp.1, decide_eq_true (show o_key o < o_key x by omega)⟩)
  omega
theorem o_key_lt {l o : gOd} (hl : o_ok l) (ho : o_ok o) {i j : Nat} (ei : l.1 = nI i) (ej : o.1 = nI j) (hi : i < 12) (hj : j < 12) (h : o_key l < o_key o) : ∃ d1 d2, d1 ≤ 999 ∧ d2 ≤ 999 ∧ l.2.2.2.2.1 = nI d1 ∧ o.2.2.2.2.1 = nI d2 ∧ (d1 < d2 ∨ (d1 = d2 ∧ (o_ar o < o_ar l ∨ (o_ar o = o_ar l ∧ i < j)))) := by
  have a1 := (o_ar_e hl).2
  have a2 := (o_ar_e ho).2
  obtain ⟨-, -, -, ⟨d1, b1, e1⟩, -⟩ := hl
  obtain ⟨-, -, -, ⟨d2, b2, e2⟩, -⟩ := ho
  refine ⟨d1, d2, b1, b2, e1, e2, ?_⟩
  unfold o_key at h
  rw [e1, e2, ei, ej, nI_clamp (by omega), nI_clamp (by omega), nI_clamp (by omega), nI_clamp (by omega)] at h
  generalize o_ar o = A at *
  generalize o_ar l = B at *
  omega
section ORD
variable {a : aSt} {μ : gMu}
/-- what the law keeps of the orders that it has seen -/
def o_seen (os : List gOd) (S : Nat) (last : Option gOd) (x6 x7 x8 : Int32) : Prop := S < 4096 ∧ (∀ (j : Nat) (o : gOd), os[j]? = some o → S.testBit j = true → ∃ l, last = some l ∧ o_key o ≤ o_key l) ∧ match last with
  | none => x6 = -1 ∧ x7 = 0 ∧ x8 = 0
  | some l => (∃ k : Nat, os[k]? = some l) ∧ x6 = l.2.2.2.2.1 ∧ x7 = nI (o_ar l) ∧ x8 = l.1
theorem orders_247 (ha : a_ok a) (hμ : r_c a (μ.1 0)) (hpn : a.1 7 = nI (n_pn a.2.2)) : ∀ (m n k S : Nat) (last : Option gOd) (x6 x7 x8 : Int32), k + m = a.2.2.countP o_op → m < n → a.2.2.countP (o_nx last) = m → w_rank a.2.2 k (o_best (o_nx none) none a.2.2) = o_best (o_nx last) none a.2.2 → o_seen a.2.2 S last x6 x7 x8 →
    fL_orders_247 n μ (nI a.2.2.length) (nI (a.2.2.countP o_op)) (nI (a.2.2.countP (o_lt (a.1 5)))) (nI (n_pn a.2.2)) (nI S) x6 x7 x8 (nI k) = some 1 := by
  have hos := ha.2.2
  have hle := hos.1
  have hop := List.countP_le_length (p := o_op) (l := a.2.2)
  intro m
  induction m with
  | zero =>
    intro n k S last x6 x7 x8 hk hn hc hw hs
    obtain ⟨n, rfl⟩ : ∃ k, n = k + 1 := ⟨n - 1, by omega⟩
    have hb : o_best (o_nx last) none a.2.2 = none := w_rank_no 0 last (by omega)
    have ek : k = a.2.2.countP o_op := by omega
    have e := k_next ha hμ (show k < 2 ^ 31 by omega)
    rw [hw, hb] at e
    rw [fL_orders_247, if_pos (by rw [nI_leI (by omega) (by omega)]; omega), ← ek, e, q_b1_s, if_neg (show ¬ ¬ m_nm none = -5 from not_not_intro rfl), k_c10 hμ, q_b1_s, if_neg (not_not_intro (congrArg nI ek)), k_c11 hμ, q_b1_s, if_neg (not_not_intro rfl), k_c4 hμ, q_b1_s, if_neg (not_not_intro hpn.symm), k_ordered_n ha hμ, q_b1_s, if_neg (not_not_intro rfl)]
  | succ m ih =>
    intro n k S last x6 x7 x8 hk hn hc hw hs
    obtain ⟨n, rfl⟩ : ∃ k, n = k + 1 := ⟨n - 1, by omega⟩
    have e := k_next ha hμ (show k < 2 ^ 31 by omega)
    rw [hw] at e
    cases hb : o_best (o_nx last) none a.2.2 with
    | none =>
      obtain ⟨-, h2⟩ := o_best_no _ _ _ hb
      have : a.2.2.countP (o_nx last) = 0 := List.countP_eq_zero.mpr (fun o ho q => h2 o ho q)
      omega
    | some o =>
      rw [hb] at e
      obtain ⟨j, hj⟩ := o_best_at hb
      have hjl := (List.getElem?_eq_some_iff.mp hj).1
      obtain ⟨hoo, ej⟩ := hos.2 j o hj
      obtain ⟨g1, g2, g3⟩ := o_nx_in hb
      have hf := o_fall1 hos hj hb
      have g1 : o.2.2.2.2.2.1 = 0 := of_decide_eq_true g1
      have en : m_nm (some o) = nI j := ej
      obtain ⟨s1, s2, s3⟩ := hs
      have bit : S.testBit j = false := by
        cases hbt : S.testBit j with
        | false => rfl
        | true =>
          obtain ⟨l, e1, e2⟩ := s2 j o hj hbt
          have := g2 l e1
          omega
      have t4 : t_od (a.1 5) o 4 = 0 := g1
      have t3 : t_od (a.1 5) o 3 = o.2.2.2.2.1 := rfl
      have t1 : t_od (a.1 5) o 1 = o.2.2.1 := rfl
      have t2 : t_od (a.1 5) o 2 = o.2.2.2.1 := rfl
      have step : fL_orders_247 n μ (nI a.2.2.length) (nI (a.2.2.countP o_op)) (nI (a.2.2.countP (o_lt (a.1 5)))) (nI (n_pn a.2.2)) (nI S ||| ((1 : Int32) <<< (nI j &&& 31))) o.2.2.2.2.1 (nI (o_ar o)) (nI j) (nI k + 1) = some 1 := by
        rw [s_set S (show j < 12 by omega), show nI k + 1 = nI (k + 1) from nI_add k 1]
        refine ih n (k + 1) (S ||| 2 ^ j) (some o) _ _ _ (by omega) (by omega) (by omega) ?_ ⟨s_lt s1 (by omega), fun j2 o2 h2 hbt => ⟨o, rfl, ?_⟩, ⟨j, hj⟩, rfl, rfl, ej.symm⟩
        · rw [w_rank_s, hw, hb]
        · rw [s_or, Bool.or_eq_true] at hbt
          rcases hbt with q | q
          · obtain ⟨l, e1, e2⟩ := s2 j2 o2 h2 q
            have := g2 l e1
            omega
          · have e3 : j = j2 := of_decide_eq_true q
            subst e3
            rw [hj] at h2
            cases h2
            exact Nat.le_refl _
      rw [fL_orders_247, if_neg (by rw [nI_leI (by omega) (by omega)]; omega), e, q_b1_s, en, if_neg (nI_pos (by omega)), if_neg (show ¬ ((nI S >>> (nI j &&& 31)) &&& (1 : Int32)) = 1 by rw [(s_bit s1 (show j < 12 by omega)).mpr bit]; decide), k_ordered ha hμ hj, q_b1_s, t4, if_pos rfl, k_ordered ha hμ hj, q_b1_s, t3, k_ordered ha hμ hj, q_b1_s, t1, k_ordered ha hμ hj, q_b1_s, t2, q_let, (o_ar_e hoo).1]
      cases last with
      | none =>
        obtain ⟨rfl, rfl, rfl⟩ := s3
        obtain ⟨-, -, -, ⟨dd, b2, e2⟩, -⟩ := hoo
        have n1 : ¬ nI dd < (-1 : Int32) := fun q => nI_pos (n := dd) (by omega) (Int32.lt_of_lt_of_le q (by decide))
        have n2 : ¬ nI dd = (-1 : Int32) := fun q => nI_pos (n := dd) (by omega) (by rw [q]; decide)
        rw [e2] at step ⊢
        rw [if_neg n1, if_pos n2, q_let]
        exact step
      | some l =>
        obtain ⟨⟨i, hi⟩, rfl, rfl, rfl⟩ := s3
        have hil := (List.getElem?_eq_some_iff.mp hi).1
        obtain ⟨hol, ei⟩ := hos.2 i l hi
        obtain ⟨d1, d2, b1, b2, e1, e2, hlt⟩ := o_key_lt hol hoo ei ej (by omega) (by omega) (g2 l rfl)
        have a1 := (o_ar_e hol).2
        have a2 := (o_ar_e hoo).2
        rw [e2] at step
        rw [e1, e2, ei, if_neg (by rw [nI_ltI (by omega) (by omega)]; omega)]
        by_cases c1 : nI d2 = nI d1
        · rw [if_neg (not_not_intro c1), if_neg (by
            rw [nI_ltI (by omega) (by omega)]
            have := (nI_eq (by omega) (by omega)).mp c1
            omega)]
          by_cases c2 : nI (o_ar o) = nI (o_ar l)
          · have q1 := (nI_eq (by omega) (by omega)).mp c1
            have q2 := (nI_eq (by omega) (by omega)).mp c2
            rw [if_neg (not_not_intro c2), if_pos (by rw [nI_leI (by omega) (by omega)]; omega), q_let]
            exact step
          · rw [if_pos c2, q_let]
            exact step
        · rw [if_pos c1, q_let]
          exact step
set_option maxRecDepth 100000 in
theorem orders_17 (ha : a_ok a) (hq : q_od a.2.2) (hμ : r_c a (μ.1 0)) : ∀ (m n k x y A : Nat), k + m = a.2.2.length → m < n → fL_orders_17 n μ (nI a.2.2.length) (nI x) (nI y) (nI A) (nI k) = fL_orders_247 70 μ (nI a.2.2.length) (nI (x + (a.2.2.drop k).countP o_op)) (nI (y + (a.2.2.drop k).countP (o_lt (a.1 5)))) (nI (A + n_pn (a.2.2.drop k))) 0 (-1) 0 0 0 := by
  have hos := ha.2.2
  have hle := hos.1
  intro m
  induction m with
  | zero =>
    intro n k x y A hk hn
    obtain ⟨n, rfl⟩ : ∃ k, n = k + 1 := ⟨n - 1, by omega⟩
    rw [fL_orders_17, if_pos (by rw [nI_leI (by omega) (by omega)]; omega), List.drop_eq_nil_of_le (by omega), List.countP_nil, List.countP_nil, show n_pn [] = 0 from rfl, Nat.add_zero, Nat.add_zero, Nat.add_zero]
  | succ m ih =>
    intro n k x y A hk hn
    obtain ⟨n, rfl⟩ : ∃ k, n = k + 1 := ⟨n - 1, by omega⟩
    have hj : a.2.2[k]? = some (a.2.2[k]'(by omega)) := List.getElem?_eq_getElem _
    generalize a.2.2[k]'(by omega) = o at hj
    obtain ⟨hoo, ej⟩ := hos.2 k o hj
    have t0 : ∀ v : Int32, f9_ordered μ (nI k) v = some (t_od (a.1 5) o v) := fun v => k_ordered ha hμ hj v
    have t1 : t_od (a.1 5) o 1 = o.2.2.1 := rfl
    have t2 : t_od (a.1 5) o 2 = o.2.2.2.1 := rfl
    have t3 : t_od (a.1 5) o 3 = o.2.2.2.2.1 := rfl
    have t4 : t_od (a.1 5) o 4 = o.2.2.2.2.2.1 := rfl
    have t5 : t_od (a.1 5) o 5 = o.2.2.2.2.2.2.1 := rfl
    have t6 : t_od (a.1 5) o 6 = o.2.2.2.2.2.2.2 := rfl
    have t7 : t_od (a.1 5) o 7 = if o_lt (a.1 5) o = true then 1 else 0 := rfl
    have ed : a.2.2.drop k = o :: a.2.2.drop (k + 1) := drop_at hj
    have en : n_pn (o :: a.2.2.drop (k + 1)) = (if o.2.2.2.2.2.1 = 1 then o_ar o else 0) + n_pn (a.2.2.drop (k + 1)) := rfl
    have ar := (o_ar_e hoo).1
    have hol := hq o (List.mem_of_getElem? hj)
    obtain ⟨-, -, -, -, st, sn⟩ := hoo
    have elt : o_lt (a.1 5) o = true ↔ (o.2.2.2.2.2.1 = 1 ∧ o.2.2.2.2.1 < o.2.2.2.2.2.2.2) ∨ (o.2.2.2.2.2.1 = 0 ∧ ¬ a.1 5 ≤ o.2.2.2.2.1) := decide_eq_true_iff
    have eop : o_op o = true ↔ o.2.2.2.2.2.1 = 0 := decide_eq_true_iff
    rw [fL_orders_17, if_neg (by rw [nI_leI (by omega) (by omega)]; omega), ed, List.countP_cons, List.countP_cons, en]
    have qb : ∀ (v : Int32) (f : Int32 → Option Int32), g_b1 (some v) f = f v := fun _ _ => rfl
    have ql : ∀ (v : Int32) (f : Int32 → Option Int32), g_let v f = f v := fun _ _ => rfl
    simp only [t0, qb, ql, t1, t2, t3, t4, t5, t6, t7]
    rw [show nI k + 1 = nI (k + 1) from nI_add k 1]
    have fin : ∀ {x1 y1 A1 x2 y2 A2 : Nat}, x1 = x2 → y1 = y2 → A1 = A2 → fL_orders_247 70 μ (nI a.2.2.length) (nI x1) (nI y1) (nI A1) 0 (-1) 0 0 0 = fL_orders_247 70 μ (nI a.2.2.length) (nI x2) (nI y2) (nI A2) 0 (-1) 0 0 0 := fun q1 q2 q3 => by rw [q1, q2, q3]
    rcases st with st | st | st
    · obtain ⟨s5, s6⟩ := sn (by rw [st]; decide)
      rw [st, s5, s6, if_neg (not_not_intro rfl), k_c0 hμ, q_b1_s, if_pos (eop.mpr st), if_neg (show ¬ (0 : Int32) = 1 by decide)]
      by_cases c : a.1 5 ≤ o.2.2.2.2.1
      · have nl : ¬ o_lt (a.1 5) o = true := fun q => (elt.mp q).elim (fun z => absurd (st.symm.trans z.1) (by decide)) (fun z => z.2 c)
        rw [if_pos c, if_neg nl, if_pos (show ¬ (0 : Int32) = 1 by decide), if_pos (by decide), if_pos (by decide), Int32.add_zero, Int32.add_zero, show nI x + 1 = nI (x + 1) from nI_add x 1, ih n (k + 1) (x + 1) y A (by omega) (by omega), if_neg nl]
        exact fin (by omega) (by omega) (by omega)
      · have yl : o_lt (a.1 5) o = true := elt.mpr (Or.inr ⟨st, c⟩)
        rw [if_neg c, if_pos yl, if_neg (not_not_intro rfl), if_pos (by decide), if_pos (by decide), Int32.add_zero, show nI x + 1 = nI (x + 1) from nI_add x 1, show nI y + 1 = nI (y + 1) from nI_add y 1, ih n (k + 1) (x + 1) (y + 1) A (by omega) (by omega), if_pos yl]
        exact fin (by omega) (by omega) (by omega)
    · obtain ⟨⟨j, hj2, ejj⟩, dd, hd, edd⟩ := hol st
      have nop : ¬ o_op o = true := fun q => absurd (st.symm.trans (eop.mp q)) (by decide)
      rw [st, if_pos (show ¬ (1 : Int32) = 0 by decide), if_neg (not_not_intro rfl), ar, if_neg nop, if_pos rfl]
      have p6 : ¬ o.2.2.2.2.2.2.2 < 0 := by rw [edd]; exact nI_pos (by omega)
      have p5 : ¬ o.2.2.2.2.2.2.1 < 0 := by rw [ejj]; exact nI_pos (by omega)
      by_cases c : o.2.2.2.2.2.2.2 ≤ o.2.2.2.2.1
      · have nl : ¬ o_lt (a.1 5) o = true := fun q => (elt.mp q).elim (fun z => Int32.not_lt.mpr c z.2) (fun z => absurd (st.symm.trans z.1) (by decide))
        rw [if_pos c, if_neg nl, if_pos (show ¬ (0 : Int32) = 1 by decide), if_neg p6, if_neg p5, Int32.add_zero, Int32.add_zero, nI_add, ih n (k + 1) x y (A + o_ar o) (by omega) (by omega), if_neg nl]
        exact fin (by omega) (by omega) (by omega)
      · have yl : o_lt (a.1 5) o = true := elt.mpr (Or.inl ⟨st, Int32.not_le.mp c⟩)
        rw [if_neg c, if_pos yl, if_neg (not_not_intro rfl), if_neg p6, if_neg p5, Int32.add_zero, nI_add, show nI y + 1 = nI (y + 1) from nI_add y 1, ih n (k + 1) x (y + 1) (A + o_ar o) (by omega) (by omega), if_pos yl]
        exact fin (by omega) (by omega) (by omega)
    · obtain ⟨s5, s6⟩ := sn (by rw [st]; decide)
      have nop : ¬ o_op o = true := fun q => absurd (st.symm.trans (eop.mp q)) (by decide)
      have nl : ¬ o_lt (a.1 5) o = true := fun q => (elt.mp q).elim (fun z => absurd (st.symm.trans z.1) (by decide)) (fun z => absurd (st.symm.trans z.1) (by decide))
      rw [st, s5, s6, if_pos (show ¬ (2 : Int32) = 0 by decide), if_pos (show ¬ (2 : Int32) = 1 by decide), if_neg nop, if_neg nl, if_pos (show ¬ (0 : Int32) = 1 by decide), if_pos (by decide), if_pos (by decide), if_neg (show ¬ (2 : Int32) = 1 by decide), Int32.add_zero, Int32.add_zero, Int32.add_zero, ih n (k + 1) x y A (by omega) (by omega), if_neg nl]
      exact fin (by omega) (by omega) (by omega)
theorem orders_all (ha : a_ok a) {T : Nat} (hb : b_ok a T) (hμ : r_c a (μ.1 0)) : fL_orders μ = some 1 := by
  obtain ⟨⟨P, S, B, Q, h6, h7, h8, h9, h10, hT, hP⟩, hg, hq⟩ := hb
  have hle := ha.2.2.1
  have hop := List.countP_le_length (p := o_op) (l := a.2.2)
  have enx : a.2.2.countP (o_nx none) = a.2.2.countP o_op := by
    congr 1
    funext o
    unfold o_nx
    exact Bool.and_true _
  unfold fL_orders
  have e := orders_17 ha hq hμ a.2.2.length 70 0 0 0 0 (by omega) (by omega)
  rw [nI_0, List.drop_zero, Nat.zero_add, Nat.zero_add, Nat.zero_add] at e
  rw [k_c9 hμ, q_b1_s, e]
  have e2 := orders_247 ha hμ (by rw [h7, hP]) (a.2.2.countP o_op) 70 0 0 none (-1) 0 0 (by omega) (by omega) enx rfl ⟨by omega, fun j o _ h => by simp at h, rfl, rfl, rfl⟩
  rw [nI_0] at e2
  exact e2
end ORD
