/-! THE LAW: what is done -/
theorem low_e (p : Int32) {n : Nat} (h0 : 0 < n) (hn : n < 2 ^ 31) : ∃ j, j < n ∧ fL_low p (nI n) = some (nI j) := by
  have h := Jvm.Kit.i32_mask p 2147483647 (k := 31) (by decide) (by decide)
  have hp : ¬ (p &&& 2147483647) < 0 := fun q => by
    rw [Int32.lt_iff_toInt_lt, h] at q
    have e : (0 : Int32).toInt = 0 := by decide
    have := Int.emod_nonneg p.toInt (show (2 : Int) ^ 31 ≠ 0 by decide)
    omega
  obtain ⟨k, hk, e⟩ := nI_of hp
  refine ⟨k % n, Nat.mod_lt _ h0, ?_⟩
  unfold fL_low
  rw [if_pos (nI_ne0 h0 hn), e, pk_rem hk h0 hn]
/-- an act of the law on a state: it answers true, and what is kept is kept -/
def ACT (a : aSt) (hs : List aSt) (T : Nat) (f : Option (Int32 × gMu)) : Prop := ∃ (μ2 : gMu) (a2 : aSt) (hs2 : List aSt) (T2 : Nat), f = some (1, μ2) ∧ JJ a2 hs2 μ2 ∧ b_ok a2 T2 ∧ T2 ≤ T + 9801 ∧ (hs2 = hs ∨ hs2 = h_push hs a)
theorem j_hs_or (hs : List aSt) (a : aSt) (x : Int32) : j_hs hs a x = hs ∨ j_hs hs a x = h_push hs a := by
  unfold j_hs
  split
  · exact Or.inl rfl
  · exact Or.inr rfl
theorem k_c23 {a : aSt} {μ : gMu} (hc : r_c a (μ.1 0)) : f9_count μ 23 = some (a.1 3) := k_c20 hc (show 3 < 5 by omega)
section ACTS2
variable {a : aSt} {hs : List aSt} {μ : gMu}
theorem w_buy_e (a : aSt) {r q w y : Nat} (hr : r < 4) (hq : q < 3) (hw : 1 ≤ w) (hw2 : w ≤ 99) (hy : 1 ≤ y) (hy2 : y ≤ 99) : w_buy a (nI r) (nI q) (nI w) (nI y) = if ¬ (200 : Int32) ≤ a.1 12 ∧ (a.2.1 r).length < 8 then (a.1 12, va_up (va_up a.1 6 (a.1 6 + nI w * nI y)) 12 (a.1 12 + 1), va_up a.2.1 r (a.2.1 r ++ [(a.1 12, nI q, nI w, nI y, -5)]), a.2.2) else (-3, a) := by
  unfold w_buy
  rw [if_pos (show 0 ≤ nI r ∧ nI r ≤ 3 from ⟨nI_pos' (by omega), (nI_leI (b := 3) (by omega) (by omega)).mpr (by omega)⟩), if_pos (show 0 ≤ nI q ∧ nI q ≤ 2 from ⟨nI_pos' (by omega), (nI_leI (b := 2) (by omega) (by omega)).mpr (by omega)⟩), if_pos (show 1 ≤ nI w ∧ nI w ≤ 99 from ⟨(nI_leI (a := 1) (by omega) (by omega)).mpr hw, (nI_leI (b := 99) (by omega) (by omega)).mpr hw2⟩), if_pos (show 1 ≤ nI y ∧ nI y ≤ 99 from ⟨(nI_leI (a := 1) (by omega) (by omega)).mpr hy, (nI_leI (b := 99) (by omega) (by omega)).mpr hy2⟩), nI_clamp (show r < 2 ^ 31 by omega)]
theorem buys_ok (h : JJ a hs μ) {T : Nat} (hb : b_ok a T) (p1 p2 : Int32) : ACT a hs T (fL_buys μ p1 p2) := by
  obtain ⟨hn, ⟨m, hm2, hk4⟩, hos⟩ := id h.1
  have hm := hk4.1
  obtain ⟨r, hr, e1⟩ : ∃ j, j < 4 ∧ fL_low p1 (4 : Int32) = some (nI j) := low_e p1 (n := 4) (by omega) (by omega)
  obtain ⟨q, hq, e2⟩ : ∃ j, j < 3 ∧ fL_low (p1 >>> ((3 : Int32) &&& 31)) (3 : Int32) = some (nI j) := low_e _ (n := 3) (by omega) (by omega)
  obtain ⟨w, hw, e3⟩ : ∃ j, j < 60 ∧ fL_low (p1 >>> ((6 : Int32) &&& 31)) (60 : Int32) = some (nI j) := low_e _ (n := 60) (by omega) (by omega)
  obtain ⟨y, hy, e4⟩ : ∃ j, j < 60 ∧ fL_low p2 (60 : Int32) = some (nI j) := low_e p2 (n := 60) (by omega) (by omega)
  have hl := hk4.2.1 r hr
  have e7 : f9_at μ (nI r) 7 = some (match (a.2.1 r).reverse[7]? with | none => -5 | some s => s.1) := k_at h.1 h.r hr (show 7 < 2 ^ 31 by omega)
  have e5 : (5 : Int32) + nI w = nI (5 + w) := nI_add 5 w
  have e6 : (5 : Int32) + nI y = nI (5 + y) := nI_add 5 y
  have eb := w_buy_e a hr hq (show 1 ≤ 5 + w by omega) (show 5 + w ≤ 99 by omega) (show 1 ≤ 5 + y by omega) (show 5 + y ≤ 99 by omega)
  obtain ⟨μ2, f1, f2⟩ := k_buy h (nI r) (nI q) (nI (5 + w)) (nI (5 + y))
  obtain ⟨T2, g1, g2, g3⟩ := w_buy_b hb (nI r) (nI q) (nI (5 + w)) (nI (5 + y))
  have fin : ∀ f, f = some ((1 : Int32), μ2) → ACT a hs T f := fun f hf => ⟨μ2, _, _, T2, hf, f2, g3, g2, j_hs_or _ _ _⟩
  unfold fL_buys
  rw [k_c12 h.r, q_b1_s, e1, q_b1_s, e7, q_b1_s, hm2, e2, e3, e4]
  simp only [q_b1_s]
  rw [e5, e6, f1]
  simp only [q_bd_s]
  by_cases c : (a.2.1 r).length = 8
  · have hx : (a.2.1 r).reverse[7]? = some ((a.2.1 r).reverse[7]'(by rw [List.length_reverse]; omega)) := List.getElem?_eq_getElem _
    obtain ⟨s, s1, s2⟩ := rev_at (L := a.2.1 r) (q := 7) (m := 0) (by omega)
    obtain ⟨-, i, hi, ei⟩ := hk4.2.2.2 r 0 s hr s2
    have e8 : (w_buy a (nI r) (nI q) (nI (5 + w)) (nI (5 + y))).1 = -3 := by rw [eb, if_neg (fun z => by have := z.2; omega)]
    rw [s1]
    show ACT a hs T (if 0 ≤ s.1 then _ else _)
    rw [ei, if_pos (nI_pos' (by omega)), e8]
    exact fin _ (if_neg (not_not_intro rfl))
  · rw [List.getElem?_eq_none (by rw [List.length_reverse]; omega)]
    show ACT a hs T (if (0 : Int32) ≤ -5 then _ else _)
    rw [if_neg (by decide)]
    by_cases c2 : m = 200
    · have e8 : (w_buy a (nI r) (nI q) (nI (5 + w)) (nI (5 + y))).1 = -3 := by rw [eb, if_neg (fun z => z.1 (by rw [hm2, c2]; decide))]
      rw [c2, if_neg (not_not_intro (show nI 200 = (200 : Int32) from rfl)), e8]
      exact fin _ (if_neg (not_not_intro rfl))
    · have cy : ¬ (200 : Int32) ≤ a.1 12 ∧ (a.2.1 r).length < 8 := ⟨by rw [hm2, l200, nI_leI (by omega) (by omega)]; omega, by omega⟩
      rw [if_pos cy] at eb
      have e8 : (w_buy a (nI r) (nI q) (nI (5 + w)) (nI (5 + y))).1 = nI m := by rw [eb]; exact hm2
      have er : (w_buy a (nI r) (nI q) (nI (5 + w)) (nI (5 + y))).2.2.1 r = a.2.1 r ++ [(nI m, nI q, nI (5 + w), nI (5 + y), -5)] := by
        rw [eb, ← hm2]
        exact va_up_at _ _ _
      have a0 := k_at f2.1 f2.r hr (show 0 < 2 ^ 31 by omega)
      rw [er, List.reverse_append] at a0
      have a1 := k_sheet f2.1 f2.r hr (p := (a.2.1 r).length) (s := (nI m, nI q, nI (5 + w), nI (5 + y), -5)) (by rw [er]; simp) 5
      have n200 : ¬ nI m = (200 : Int32) := fun z => c2 ((nI_eq (b := 200) (by omega) (by omega)).mp z)
      rw [if_pos n200, e8, if_neg (not_not_intro rfl)]
      refine fin _ ?_
      have a0' : f9_at μ2 (nI r) 0 = some (nI m) := a0
      have a1' : f9_sheet μ2 (nI m) 5 = some (-5) := a1
      rw [a0', q_b1_s, if_neg (not_not_intro rfl), a1', q_b1_s, if_neg (not_not_intro rfl)]
theorem passes_ok (h : JJ a hs μ) {T : Nat} (hb : b_ok a T) (p1 : Int32) : ACT a hs T (fL_passes μ p1) := by
  obtain ⟨j, hj, e1⟩ := low_e p1 (n := 9) (by omega) (by omega)
  obtain ⟨μ2, f1, f2⟩ := k_pass h (nI (1 + j))
  have g3 := w_pass_b hb (nI (1 + j))
  have fin : ∀ f, f = some ((1 : Int32), μ2) → ACT a hs T f := fun f hf => ⟨μ2, _, _, T, hf, f2, g3, by omega, j_hs_or _ _ _⟩
  have e2 : (1 : Int32) + nI j = nI (1 + j) := nI_add 1 j
  unfold fL_passes
  rw [show (9 : Int32) = nI 9 from rfl, e1, q_b1_s, e2, q_let, k_c0 h.r, q_b1_s, k_c11 h.r, q_b1_s, f1, q_bd_s]
  refine fin _ ?_
  have c0 : 1 ≤ nI (1 + j) ∧ nI (1 + j) ≤ 99 := ⟨(nI_leI (a := 1) (by omega) (by omega)).mpr (by omega), (nI_leI (b := 99) (by omega) (by omega)).mpr (by omega)⟩
  by_cases c : a.1 5 + nI (1 + j) ≤ 999
  · have ew : w_pass a (nI (1 + j)) = (nI (a.2.2.countP (o_lt (a.1 5 + nI (1 + j)))) - nI (a.2.2.countP (o_lt (a.1 5))), va_up a.1 5 (a.1 5 + nI (1 + j)), a.2) := by
      unfold w_pass
      rw [if_pos c0, if_pos c]
    have r0 := k_c0 f2.r
    have r1 := k_c11 f2.r
    rw [ew] at r0 r1
    have r0' : f9_count μ2 0 = some (a.1 5 + nI (1 + j)) := r0.trans (congrArg some (va_up_at a.1 5 _))
    have r1' : f9_count μ2 11 = some (nI (a.2.2.countP (o_lt (a.1 5 + nI (1 + j))))) := by
      refine r1.trans (congrArg some ?_)
      show nI (a.2.2.countP (o_lt (va_up a.1 5 (a.1 5 + nI (1 + j)) 5))) = _
      rw [va_up_at]
    rw [if_pos c, r0', q_b1_s, if_neg (not_not_intro rfl), r1', q_b1_s, if_neg (not_not_intro (by rw [ew]))]
  · have ew : (w_pass a (nI (1 + j))).1 = -3 := by
      unfold w_pass
      rw [if_pos c0, if_neg c]
    rw [if_neg c, ew, if_neg (not_not_intro rfl)]
/-! moves -/
theorem t_out_11 (a : aSt) {r p : Nat} (s : gSh) : (t_out a r p s).2.1 11 = a.1 11 + (nI ((a.2.1 r).length - 1 - p) + 1) := by
  have e : (t_out a r p s).2.1 11 = (t_lift (a.1 3) ((a.2.1 r).drop (p + 1)).reverse (a.1 11) (a.1 9) []).1 + 1 := by
    unfold t_out t_end
    dsimp only
    rw [va_up_ne _ _ (by omega), va_up_at]
  rw [e, t_lift_n, List.length_reverse, List.length_drop, Int32.add_assoc, show (a.2.1 r).length - (p + 1) = (a.2.1 r).length - 1 - p by omega]
theorem t_br_no {fr l : Int32} (h : fr ≤ 0) : ¬ t_br fr l = true := fun q => (of_decide_eq_true q).1 h
theorem t_out_whole {a : aSt} (h : a.1 3 ≤ 0) (r p : Nat) (s : gSh) : (t_out a r p s).1 = 1 := by
  unfold t_out
  rw [t_end_n (t_br_no h)]
def mv_end (z0 : gMu) (x3 x4 x5 x6 x7 x8 : Int32) : Option (Int32 × gMu) :=
  g_bd (f9_move z0 x3 x4) fun r23 z24 =>
    if 0 ≤ x5 then
      if x5 = x4 then
        fL_moves_126 z24 x3 x4 x6 x7 r23
      else
        if ¬ x8 = (8 : Int32) then
          fL_moves_126 z24 x3 x4 x6 x7 r23
        else
          if ¬ r23 = (-3 : Int32) then
            some ((0 : Int32), z24)
          else
            g_b1 (f9_count z24 (8 : Int32)) fun r52 =>
            if ¬ r52 = x7 then
              some ((0 : Int32), z24)
            else
              some ((1 : Int32), z24)
    else
      if ¬ r23 = (-1 : Int32) then
        some ((0 : Int32), z24)
      else
        some ((1 : Int32), z24)
theorem moves_45 (ha : a_ok a) (hμ : r_c a (μ.1 0)) {R : Nat} (hR : R < 4) (x3 x5 x6 x7 : Int32) : ∀ (m n q : Nat), q + m = (a.2.1 R).length → m < n → fL_moves_45 n μ x3 (nI R) x5 x6 x7 (nI q) = mv_end μ x3 (nI R) x5 x6 x7 (nI (a.2.1 R).length) := by
  obtain ⟨hn, ⟨M, hm2, hk4⟩, hos⟩ := id ha
  have hl := hk4.2.1 R hR
  have hM := hk4.1
  intro m
  induction m with
  | zero =>
    intro n q hk hn
    obtain ⟨n, rfl⟩ : ∃ k, n = k + 1 := ⟨n - 1, by omega⟩
    have e := k_at ha hμ hR (show q < 2 ^ 31 by omega)
    obtain rfl : q = (a.2.1 R).length := by omega
    rw [rev_end] at e
    rw [fL_moves_45, e, q_b1_s, if_pos (by decide)]
    rfl
  | succ m ih =>
    intro n q hk hn
    obtain ⟨n, rfl⟩ : ∃ k, n = k + 1 := ⟨n - 1, by omega⟩
    obtain ⟨s, s1, s2⟩ := rev_at hk
    obtain ⟨-, i, hi, ei⟩ := hk4.2.2.2 R m s hR s2
    have e := k_at ha hμ hR (show q < 2 ^ 31 by omega)
    rw [s1] at e
    rw [fL_moves_45, e, q_b1_s, if_neg (show ¬ s.1 < 0 by rw [ei]; exact nI_pos (by omega)), show nI q + 1 = nI (q + 1) from nI_add q 1]
    exact ih n (q + 1) (by omega) (by omega)
theorem moves_ok (h : JJ a hs μ) {T : Nat} (hb : b_ok a T) {m : Nat} (hm : a.1 12 = nI m) (hm0 : 0 < m) (hml : m ≤ 200) (p1 p2 : Int32) : ACT a hs T (fL_moves μ p1 p2) := by
  obtain ⟨hn, ⟨m', hm2, hk4⟩, hos⟩ := id h.1
  have hmm := hk4.1
  obtain ⟨i, hi, e1⟩ := low_e p1 (n := m) hm0 (by omega)
  obtain ⟨R, hR, e2⟩ := low_e p2 (n := 4) (by omega) (by omega)
  unfold fL_moves
  rw [k_c12 h.r, q_b1_s, hm, e1, q_b1_s, show (4 : Int32) = nI 4 from rfl, e2, q_b1_s, k_c8 h.r]
  have hl := hk4.2.1 R hR
  rcases k_find a.2.1 (nI i) with ⟨r, p, s, hr, hsx, es⟩ | hy
  · have hlr := hk4.2.1 r hr
    have hp := (List.getElem?_eq_some_iff.mp hsx).1
    have t3 := k_sheet h.1 h.r hr hsx 3
    have t4 := k_sheet h.1 h.r hr hsx (nI 4)
    have e45 := moves_45 h.1 h.r hR s.1 (nI r) (nI ((a.2.1 r).length - 1 - p)) (a.1 11) (a.2.1 R).length 70 0 (by omega) (by omega)
    rw [nI_0] at e45
    rw [← es, t3, q_b1_s, t4, q_b1_s, q_b1_s]
    show ACT a hs T (fL_moves_45 70 μ s.1 (nI R) (nI r) (nI ((a.2.1 r).length - 1 - p)) (a.1 11) 0)
    rw [e45]
    unfold mv_end
    obtain ⟨μ2, f1, f2⟩ := k_move h hr hsx (nI R)
    have g3 := w_move_b h.1 hb hr hsx (nI R)
    have fin : ∀ f, f = some ((1 : Int32), μ2) → ACT a hs T f := fun f hf => ⟨μ2, _, _, T, hf, f2, g3, by omega, j_hs_or _ _ _⟩
    rw [f1, q_bd_s, if_pos (nI_pos' (by omega))]
    have cR : 0 ≤ nI R ∧ nI R ≤ 3 := ⟨nI_pos' (by omega), (nI_leI (b := 3) (by omega) (by omega)).mpr (by omega)⟩
    have go : (nI r = nI R ∨ (a.2.1 R).length < 8) → ACT a hs T (fL_moves_126 μ2 s.1 (nI R) (nI ((a.2.1 r).length - 1 - p)) (a.1 11) (w_move a r p s (nI R)).1) := fun c => by
      refine fin _ ?_
      have ew : w_move a r p s (nI R) = (nI ((a.2.1 r).length - 1 - p) + 1, if (t_out a r p s).1 = 0 then (t_out a r p s).2 else ((t_out a r p s).2.1, va_up (t_out a r p s).2.2.1 R ((t_out a r p s).2.2.1 R ++ [s]), (t_out a r p s).2.2.2)) := by
        unfold w_move
        rw [if_pos cR, nI_clamp (show R < 2 ^ 31 by omega), if_pos c]
      have e11 : (w_move a r p s (nI R)).2.1 11 = a.1 11 + (nI ((a.2.1 r).length - 1 - p) + 1) := by
        rw [ew]
        show (if (t_out a r p s).1 = 0 then (t_out a r p s).2 else _).1 11 = _
        split
        · exact t_out_11 a s
        · exact t_out_11 a s
      have e3 : (w_move a r p s (nI R)).2.1 3 = a.1 3 := by
        rw [ew]
        show (if (t_out a r p s).1 = 0 then (t_out a r p s).2 else _).1 3 = _
        split
        · exact t_out_nu a r p s (k := 3) (by omega) (by omega)
        · exact t_out_nu a r p s (k := 3) (by omega) (by omega)
      have e1 : (w_move a r p s (nI R)).1 = nI ((a.2.1 r).length - 1 - p) + 1 := by rw [ew]
      unfold fL_moves_126
      rw [e1, if_neg (not_not_intro rfl), k_c8 f2.r, q_b1_s, e11, if_neg (not_not_intro rfl), k_c23 f2.r, q_b1_s, e3]
      by_cases cb : (t_out a r p s).1 = 0
      · have nf : ¬ a.1 3 ≤ 0 := fun z => by
          rw [t_out_whole z] at cb
          exact absurd cb (by decide)
        have gone := t_out_gone h.1 hr hsx
        have en : (w_move a r p s (nI R)).2.2.1 = (t_out a r p s).2.2.1 := by
          rw [ew]
          show (if (t_out a r p s).1 = 0 then (t_out a r p s).2 else _).2.1 = _
          rw [if_pos cb]
        have sn := k_sheet_n f2.1 f2.r (x := s.1) (fun r2 p2 v hr2 hv => by
          rw [en] at hv
          exact gone r2 hr2 v (List.mem_of_getElem? hv)) 3
        rw [if_neg nf, sn, q_b1_s, if_pos (by decide)]
      · have en : (w_move a r p s (nI R)).2.2.1 R = (t_out a r p s).2.2.1 R ++ [s] := by
          rw [ew]
          show (if (t_out a r p s).1 = 0 then (t_out a r p s).2 else _).2.1 R = _
          rw [if_neg cb]
          exact va_up_at _ _ _
        have a0 := k_at f2.1 f2.r hR (show 0 < 2 ^ 31 by omega)
        rw [en, List.reverse_append] at a0
        have a0' : f9_at μ2 (nI R) 0 = some s.1 := a0
        have a1 := k_sheet f2.1 f2.r hR (p := ((t_out a r p s).2.2.1 R).length) (s := s) (by rw [en]; simp) 3
        have a1' : f9_sheet μ2 s.1 3 = some (nI R) := a1
        rw [a0', q_b1_s, a1', q_b1_s, if_neg (not_not_intro rfl), if_neg (nI_pos (by omega)), ite_self]
    by_cases c1 : nI r = nI R
    · rw [if_pos c1]
      exact go (Or.inl c1)
    · rw [if_neg c1]
      by_cases c2 : (a.2.1 R).length = 8
      · have ew : w_move a r p s (nI R) = (-3, a) := by
          unfold w_move
          rw [if_pos cR, nI_clamp (show R < 2 ^ 31 by omega), if_neg (fun z => z.elim c1 (fun y => by omega))]
        rw [c2, if_neg (not_not_intro (show nI 8 = (8 : Int32) from rfl)), ew, if_neg (not_not_intro rfl)]
        refine fin _ ?_
        have r8 := k_c8 f2.r
        rw [ew] at r8
        rw [r8, q_b1_s, if_neg (not_not_intro rfl)]
      · rw [if_pos (show ¬ nI (a.2.1 R).length = (8 : Int32) from fun z => c2 ((nI_eq (b := 8) (by omega) (by omega)).mp z))]
        exact go (Or.inr (by omega))
  · have e45 := moves_45 h.1 h.r hR (nI i) (-1) (-1) (a.1 11) (a.2.1 R).length 70 0 (by omega) (by omega)
    rw [nI_0] at e45
    rw [k_sheet_n h.1 h.r hy, q_b1_s, k_sheet_n h.1 h.r hy, q_b1_s, q_b1_s, e45]
    unfold mv_end
    obtain ⟨μ2, f1, f2⟩ := k_move_n h hy (nI R)
    rw [f1, q_bd_s, if_neg (by decide), if_neg (not_not_intro rfl)]
    exact ⟨μ2, a, hs, T, rfl, f2, hb, by omega, Or.inl rfl⟩
end ACTS2
