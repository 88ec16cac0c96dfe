/-! WHAT EVERY ACT KEEPS: areas, of what a sheet is a piece, orders that are cut -/
def g_src (L : Nat → List gSh) : Prop := ∀ r, r < 4 → ∀ u ∈ L r, u.2.2.2.2 = -5 ∨ ∃ i j : Nat, u.1 = nI i ∧ u.2.2.2.2 = nI j ∧ j < i ∧ i < 200
def q_od (os : List gOd) : Prop := ∀ o ∈ os, o.2.2.2.2.2.1 = 1 → (∃ j, j < 200 ∧ o.2.2.2.2.2.2.1 = nI j) ∧ ∃ d, d ≤ 999 ∧ o.2.2.2.2.2.2.2 = nI d
def b_ok (a : aSt) (T : Nat) : Prop := v_ok a T 0 ∧ g_src a.2.1 ∧ q_od a.2.2
theorem t_out_in {a : aSt} {r p : Nat} {s : gSh} (hp : p < (a.2.1 r).length) {r2 : Nat} {u : gSh} (hu : u ∈ (t_out a r p s).2.2.1 r2) : u ∈ a.2.1 r2 := by
  by_cases e : r2 = r
  · subst e
    exact (List.eraseIdx_sublist _ _).subset ((t_out_sub a s hp).subset hu)
  · rw [t_out_ne a p s e] at hu
    exact hu
theorem t_out_src {a : aSt} (h : g_src a.2.1) {r p : Nat} {s : gSh} (hs : (a.2.1 r)[p]? = some s) : g_src (t_out a r p s).2.2.1 := fun r2 hr2 u hu => h r2 hr2 u (t_out_in (List.getElem?_eq_some_iff.mp hs).1 hu)
theorem t_keep_src {a : aSt} (h : g_src a.2.1) {m i r : Nat} (hm : a.1 12 = nI m) (hm2 : m ≤ 200) (w y : Int32) {s : gSh} (hi : s.1 = nI i) (him : i < m) : g_src (t_keep a r w y s).2.2.1 ∧ ∃ m2, m ≤ m2 ∧ m2 ≤ 200 ∧ (t_keep a r w y s).2.1 12 = nI m2 := by
  unfold t_keep
  by_cases c1 : w ≤ 0 ∨ ¬ 0 < y
  · rw [if_pos c1]
    exact ⟨h, m, Nat.le_refl _, hm2, hm⟩
  · rw [if_neg c1]
    by_cases c2 : a.1 1 ≤ w ∧ a.1 1 ≤ y ∧ ¬ (200 : Int32) ≤ a.1 12 ∧ (a.2.1 r).length < 8
    · rw [if_pos c2]
      have lt : m < 200 := by
        have := c2.2.2.1
        rw [hm, l200, nI_leI (by omega) (by omega)] at this
        omega
      refine ⟨fun r2 hr2 u hu => ?_, m + 1, by omega, by omega, ?_⟩
      · have hu : u ∈ va_up a.2.1 r (a.2.1 r ++ [(a.1 12, s.2.1, w, y, s.1)]) r2 := hu
        by_cases e : r2 = r
        · subst e
          rw [va_up_at] at hu
          rcases List.mem_append.mp hu with q | q
          · exact h r2 hr2 u q
          · rw [List.mem_singleton.mp q]
            exact Or.inr ⟨m, i, hm, hi, him, lt⟩
        · rw [va_up_ne _ _ e] at hu
          exact h r2 hr2 u hu
      · show va_up a.1 12 (a.1 12 + 1) 12 = _
        rw [va_up_at, hm]
        exact nI_add m 1
    · rw [if_neg c2]
      refine ⟨h, m, Nat.le_refl _, hm2, ?_⟩
      show va_up a.1 8 (a.1 8 + w * y) 12 = _
      rw [va_up_ne _ _ (by omega)]
      exact hm
theorem t_keep_od (a : aSt) (r : Nat) (w y : Int32) (s : gSh) : (t_keep a r w y s).2.2.2 = a.2.2 := by
  unfold t_keep
  repeat' split
  all_goals rfl
theorem t_keep_01 (a : aSt) (r : Nat) (w y : Int32) (s : gSh) : (t_keep a r w y s).1 = 0 ∨ (t_keep a r w y s).1 = 1 := by
  unfold t_keep
  repeat' split
  all_goals first | exact Or.inl rfl | exact Or.inr rfl
theorem t_end_01 (a : aSt) (r p : Nat) (s : gSh) : (t_out a r p s).1 = 0 ∨ (t_out a r p s).1 = 1 := by
  unfold t_out t_end
  show (if _ then (0 : Int32) else 1) = 0 ∨ (if _ then (0 : Int32) else 1) = 1
  split
  · exact Or.inl rfl
  · exact Or.inr rfl
/-- what a cut's number and orders are -/
theorem t_cut_b {a : aSt} {r p k : Nat} {s : gSh} {o : gOd} (h : (t_out a r p s).1 = 0) : t_cut a r p k s o = (10, (t_out a r p s).2) := if_pos h
theorem t_cut_w {a : aSt} {r p k : Nat} {s : gSh} {o : gOd} (h : ¬ (t_out a r p s).1 = 0) : (∃ j : Nat, j ≤ 2 ∧ (t_cut a r p k s o).1 = nI j) ∧ ¬ (t_cut a r p k s o).1 = 10 ∧ (t_cut a r p k s o).2.2.2 = a.2.2.set k (o_cut o s (a.1 5)) := by
  have e5 : (t_out a r p s).2.1 5 = a.1 5 := t_out_nu a r p s (by omega) (by omega)
  unfold t_cut
  rw [if_neg h]
  have h1 := t_keep_01 (t_done (t_out a r p s).2 a.1 k s o) r (c_bw a.1 o s) (c_bh a.1 o s) s
  have h2 := t_keep_01 (t_keep (t_done (t_out a r p s).2 a.1 k s o) r (c_bw a.1 o s) (c_bh a.1 o s) s).2 r (c_aw a.1 o s) (c_ah a.1 o s) s
  have h3 : (t_keep (t_keep (t_done (t_out a r p s).2 a.1 k s o) r (c_bw a.1 o s) (c_bh a.1 o s) s).2 r (c_aw a.1 o s) (c_ah a.1 o s) s).2.2.2 = a.2.2.set k (o_cut o s (a.1 5)) := by
    rw [t_keep_od, t_keep_od, ← e5]
    rfl
  refine ⟨?_, ?_, h3⟩
  · show ∃ j : Nat, j ≤ 2 ∧ (t_keep (t_done (t_out a r p s).2 a.1 k s o) r (c_bw a.1 o s) (c_bh a.1 o s) s).1 + (t_keep (t_keep (t_done (t_out a r p s).2 a.1 k s o) r (c_bw a.1 o s) (c_bh a.1 o s) s).2 r (c_aw a.1 o s) (c_ah a.1 o s) s).1 = nI j
    rcases h1 with h1 | h1 <;> rcases h2 with h2 | h2 <;> rw [h1, h2]
    · exact ⟨0, by omega, rfl⟩
    · exact ⟨1, by omega, rfl⟩
    · exact ⟨1, by omega, rfl⟩
    · exact ⟨2, by omega, rfl⟩
  · show ¬ (t_keep (t_done (t_out a r p s).2 a.1 k s o) r (c_bw a.1 o s) (c_bh a.1 o s) s).1 + (t_keep (t_keep (t_done (t_out a r p s).2 a.1 k s o) r (c_bw a.1 o s) (c_bh a.1 o s) s).2 r (c_aw a.1 o s) (c_ah a.1 o s) s).1 = 10
    rcases h1 with h1 | h1 <;> rcases h2 with h2 | h2 <;> rw [h1, h2] <;> decide
theorem t_cut_src {a : aSt} (ha : a_ok a) (h : g_src a.2.1) {r p k : Nat} {s : gSh} {o : gOd} (hr : r < 4) (hs : (a.2.1 r)[p]? = some s) : g_src (t_cut a r p k s o).2.2.1 := by
  have h1 := t_out_src h hs
  obtain ⟨hn, ⟨m, hm2, hk4⟩, hos⟩ := ha
  obtain ⟨-, i, him, ei⟩ := hk4.2.2.2 r p s hr hs
  have e12 : (t_out a r p s).2.1 12 = nI m := (t_out_nu a r p s (by omega) (by omega)).trans hm2
  unfold t_cut
  by_cases c : (t_out a r p s).1 = 0
  · rw [if_pos c]; exact h1
  · rw [if_neg c]
    have d12 : (t_done (t_out a r p s).2 a.1 k s o).1 12 = nI m := by
      show va_up (va_up (t_out a r p s).2.1 7 ((t_out a r p s).2.1 7 + o.2.2.1 * o.2.2.2.1)) 10 ((t_out a r p s).2.1 10 + c_lost a.1 o s) 12 = _
      rw [va_up_ne _ _ (by omega), va_up_ne _ _ (by omega)]
      exact e12
    obtain ⟨h2, m2, mm, mm2, em2⟩ := t_keep_src (a := t_done (t_out a r p s).2 a.1 k s o) (r := r) h1 d12 hk4.1 (c_bw a.1 o s) (c_bh a.1 o s) ei him
    exact (t_keep_src h2 em2 mm2 (c_aw a.1 o s) (c_ah a.1 o s) ei (by omega)).1
theorem q_od.set {os : List gOd} (h : q_od os) (k : Nat) {o2 : gOd} (h2 : o2.2.2.2.2.2.1 = 1 → (∃ j, j < 200 ∧ o2.2.2.2.2.2.2.1 = nI j) ∧ ∃ d, d ≤ 999 ∧ o2.2.2.2.2.2.2.2 = nI d) : q_od (os.set k o2) := fun o ho => by
  rcases List.mem_or_eq_of_mem_set ho with q | q
  · exact h o q
  · rw [q]; exact h2
theorem t_cut_b_ok {a : aSt} (ha : a_ok a) {T : Nat} (hb : b_ok a T) {r p k : Nat} {s : gSh} {o : gOd} (hr : r < 4) (hs : (a.2.1 r)[p]? = some s) (hk : a.2.2[k]? = some o) (hop : o_op o = true) (hf : ¬ c_lie a.1 o s = -1) : b_ok (t_cut a r p k s o).2 T := by
  refine ⟨t_cut_v ha hb.1 hr hs hk hop hf, t_cut_src ha hb.2.1 hr hs, ?_⟩
  by_cases c : (t_out a r p s).1 = 0
  · rw [t_cut_b c]; exact hb.2.2
  · rw [(t_cut_w c).2.2]
    obtain ⟨hn, ⟨m, hm2, hk4⟩, hos⟩ := ha
    obtain ⟨-, i, him, ei⟩ := hk4.2.2.2 r p s hr hs
    have := hk4.1
    obtain ⟨-, -, -, -, -, d, hd, ed⟩ := hn
    exact hb.2.2.set k (fun _ => ⟨⟨i, by omega, ei⟩, d, hd, ed⟩)
theorem w_move_src {a : aSt} (h : g_src a.2.1) {r p : Nat} {s : gSh} (hr : r < 4) (hs : (a.2.1 r)[p]? = some s) (x : Int32) : g_src (w_move a r p s x).2.2.1 := by
  have h1 := t_out_src h hs
  unfold w_move
  by_cases c1 : 0 ≤ x ∧ x ≤ 3
  · rw [if_pos c1]
    by_cases c2 : nI r = x ∨ (a.2.1 x.toNatClampNeg).length < 8
    · rw [if_pos c2]
      show g_src (if (t_out a r p s).1 = 0 then (t_out a r p s).2 else _).2.1
      by_cases c3 : (t_out a r p s).1 = 0
      · rw [if_pos c3]; exact h1
      · rw [if_neg c3]
        intro r2 hr2 u hu
        have hu : u ∈ va_up (t_out a r p s).2.2.1 x.toNatClampNeg ((t_out a r p s).2.2.1 x.toNatClampNeg ++ [s]) r2 := hu
        by_cases e : r2 = x.toNatClampNeg
        · rw [← e, va_up_at] at hu
          rcases List.mem_append.mp hu with q | q
          · exact h1 r2 hr2 u q
          · rw [List.mem_singleton.mp q]
            exact h r hr s (List.mem_of_getElem? hs)
        · rw [va_up_ne _ _ e] at hu
          exact h1 r2 hr2 u hu
    · rw [if_neg c2]; exact h
  · rw [if_neg c1]; exact h
theorem w_move_od (a : aSt) (r p : Nat) (s : gSh) (x : Int32) : (w_move a r p s x).2.2.2 = a.2.2 := by
  unfold w_move
  by_cases c1 : 0 ≤ x ∧ x ≤ 3
  · rw [if_pos c1]
    by_cases c2 : nI r = x ∨ (a.2.1 x.toNatClampNeg).length < 8
    · rw [if_pos c2]
      show (if (t_out a r p s).1 = 0 then (t_out a r p s).2 else _).2.2 = a.2.2
      by_cases c3 : (t_out a r p s).1 = 0
      · rw [if_pos c3]; rfl
      · rw [if_neg c3]; rfl
    · rw [if_neg c2]
  · rw [if_neg c1]
theorem w_move_b {a : aSt} (ha : a_ok a) {T : Nat} (hb : b_ok a T) {r p : Nat} {s : gSh} (hr : r < 4) (hs : (a.2.1 r)[p]? = some s) (x : Int32) : b_ok (w_move a r p s x).2 T := ⟨w_move_v ha hb.1 hr hs x, w_move_src hb.2.1 hr hs x, by rw [w_move_od]; exact hb.2.2⟩
theorem v_ok.num {a : aSt} {T h : Nat} (hv : v_ok a T h) {g : Nat → Int32} (e : ∀ k, 6 ≤ k → k ≤ 10 → g k = a.1 k) : v_ok (g, a.2) T h := by
  obtain ⟨P, S, B, Q, h6, h7, h8, h9, h10, hT, hP⟩ := hv
  exact ⟨P, S, B, Q, (e 6 (by omega) (by omega)).trans h6, (e 7 (by omega) (by omega)).trans h7, (e 8 (by omega) (by omega)).trans h8, (e 9 (by omega) (by omega)).trans h9, (e 10 (by omega) (by omega)).trans h10, hT, hP⟩
theorem w_set_b {a : aSt} {T : Nat} (hb : b_ok a T) (x v : Int32) : b_ok (w_set a x v).2 T := by
  unfold w_set
  by_cases c1 : s_al x v
  · rw [if_pos c1]
    by_cases c2 : a.1 x.toNatClampNeg = v
    · rw [if_pos c2]; exact hb
    · rw [if_neg c2]
      have hx : x.toNatClampNeg < 5 := by
        rcases c1 with ⟨rfl, -⟩ | ⟨rfl, -⟩ | ⟨rfl, -⟩ | ⟨rfl, -⟩ | ⟨rfl, -⟩ <;> decide
      exact ⟨hb.1.num (fun k h1 h2 => va_up_ne _ _ (by omega)), hb.2⟩
  · rw [if_neg c1]; exact hb
theorem w_pass_b {a : aSt} {T : Nat} (hb : b_ok a T) (n : Int32) : b_ok (w_pass a n).2 T := by
  unfold w_pass
  by_cases c1 : 1 ≤ n ∧ n ≤ 99
  · rw [if_pos c1]
    by_cases c2 : a.1 5 + n ≤ 999
    · rw [if_pos c2]
      exact ⟨hb.1.num (fun k h1 h2 => va_up_ne _ _ (by omega)), hb.2⟩
    · rw [if_neg c2]; exact hb
  · rw [if_neg c1]; exact hb
theorem w_order_b {a : aSt} {T : Nat} (hb : b_ok a T) (q w y d : Int32) : b_ok (w_order a q w y d).2 T := by
  unfold w_order
  repeat' split
  all_goals first | exact hb | skip
  obtain ⟨⟨P, S, B, Q, h6, h7, h8, h9, h10, hT, hP⟩, h2, h3⟩ := hb
  refine ⟨⟨P, S, B, Q, h6, h7, h8, h9, h10, hT, ?_⟩, h2, fun o ho => ?_⟩
  · show P = n_pn (a.2.2 ++ [_])
    rw [n_pn_app]
    show P = n_pn a.2.2 + 0
    omega
  · rcases List.mem_append.mp ho with z | z
    · exact h3 o z
    · rw [List.mem_singleton.mp z]
      intro z2
      exact absurd z2 (show ¬ (0 : Int32) = 1 by decide)
theorem w_cancel_b {a : aSt} {T : Nat} (hb : b_ok a T) {k : Nat} {o : gOd} (hk : a.2.2[k]? = some o) : b_ok (w_cancel a k o).2 T := by
  unfold w_cancel
  by_cases c : o_op o = true
  · rw [if_pos c]
    obtain ⟨⟨P, S, B, Q, h6, h7, h8, h9, h10, hT, hP⟩, h2, h3⟩ := hb
    have hop2 : o.2.2.2.2.2.1 = 0 := of_decide_eq_true c
    have st := n_pn_set a.2.2 k o (o_off o) hk
    rw [if_neg (by rw [hop2]; decide), if_neg (show ¬ (o_off o).2.2.2.2.2.1 = 1 from show ¬ (2 : Int32) = 1 by decide)] at st
    refine ⟨⟨P, S, B, Q, h6, h7, h8, h9, h10, hT, ?_⟩, h2, h3.set k (fun z => absurd z (show ¬ (2 : Int32) = 1 by decide))⟩
    show P = n_pn (a.2.2.set k (o_off o))
    omega
  · rw [if_neg c]; exact hb
theorem w_buy_b {a : aSt} {T : Nat} (hb : b_ok a T) (r q w y : Int32) : ∃ T2, T ≤ T2 ∧ T2 ≤ T + 9801 ∧ b_ok (w_buy a r q w y).2 T2 := by
  unfold w_buy
  by_cases c1 : 0 ≤ r ∧ r ≤ 3
  · rw [if_pos c1]
    by_cases c2 : 0 ≤ q ∧ q ≤ 2
    · rw [if_pos c2]
      by_cases c3 : 1 ≤ w ∧ w ≤ 99
      · rw [if_pos c3]
        by_cases c4 : 1 ≤ y ∧ y ≤ 99
        · rw [if_pos c4]
          by_cases c5 : ¬ (200 : Int32) ≤ a.1 12 ∧ (a.2.1 r.toNatClampNeg).length < 8
          · rw [if_pos c5]
            obtain ⟨⟨P, S, B, Q, h6, h7, h8, h9, h10, hT, hP⟩, h2, h3⟩ := hb
            obtain ⟨j, hj, rfl⟩ := i_nat (n := 3) (by omega) c1.1 c1.2
            obtain ⟨u, u1, u2, rfl⟩ := i_side c3
            obtain ⟨v, v1, v2, rfl⟩ := i_side c4
            rw [nI_clamp (show j < 2 ^ 31 by omega)]
            have up := n_aa_up a.2.1 (r := j) (by omega) (a.2.1 j ++ [(a.1 12, q, nI u, nI v, -5)])
            rw [n_al_app, n_al_one] at up
            have e2 : n_ar (a.1 12, q, nI u, nI v, -5) = u * v := by
              show (nI u).toNatClampNeg * (nI v).toNatClampNeg = u * v
              rw [nI_clamp (by omega), nI_clamp (by omega)]
            have b2 : u * v ≤ 99 * 99 := Nat.mul_le_mul u2 v2
            refine ⟨T + u * v, by omega, by omega, ⟨P, S, B, Q, ?_, ?_, ?_, ?_, ?_, ?_, hP⟩, fun r2 hr2 x hx => ?_, h3⟩
            · show va_up (va_up a.1 6 (a.1 6 + nI u * nI v)) 12 (a.1 12 + 1) 6 = _
              rw [va_up_ne _ _ (by omega), va_up_at, h6, pk_mul, nI_add]
            · show va_up (va_up a.1 6 (a.1 6 + nI u * nI v)) 12 (a.1 12 + 1) 7 = _
              rw [va_up_ne _ _ (by omega), va_up_ne _ _ (by omega)]; exact h7
            · show va_up (va_up a.1 6 (a.1 6 + nI u * nI v)) 12 (a.1 12 + 1) 8 = _
              rw [va_up_ne _ _ (by omega), va_up_ne _ _ (by omega)]; exact h8
            · show va_up (va_up a.1 6 (a.1 6 + nI u * nI v)) 12 (a.1 12 + 1) 9 = _
              rw [va_up_ne _ _ (by omega), va_up_ne _ _ (by omega)]; exact h9
            · show va_up (va_up a.1 6 (a.1 6 + nI u * nI v)) 12 (a.1 12 + 1) 10 = _
              rw [va_up_ne _ _ (by omega), va_up_ne _ _ (by omega)]; exact h10
            · show n_aa (va_up a.2.1 j _) + _ + _ + _ + _ + 0 = _
              omega
            · have hx : x ∈ va_up a.2.1 j (a.2.1 j ++ [(a.1 12, q, nI u, nI v, -5)]) r2 := hx
              by_cases e : r2 = j
              · subst e
                rw [va_up_at] at hx
                rcases List.mem_append.mp hx with z | z
                · exact h2 r2 hr2 x z
                · rw [List.mem_singleton.mp z]
                  exact Or.inl rfl
              · rw [va_up_ne _ _ e] at hx
                exact h2 r2 hr2 x hx
          · rw [if_neg c5]; exact ⟨T, Nat.le_refl _, by omega, hb⟩
        · rw [if_neg c4]; exact ⟨T, Nat.le_refl _, by omega, hb⟩
      · rw [if_neg c3]; exact ⟨T, Nat.le_refl _, by omega, hb⟩
    · rw [if_neg c2]; exact ⟨T, Nat.le_refl _, by omega, hb⟩
  · rw [if_neg c1]; exact ⟨T, Nat.le_refl _, by omega, hb⟩
/-! plans -/
theorem cnt_set (P : gOd → Bool) : ∀ (os : List gOd) (k : Nat) (o o2 : gOd), os[k]? = some o → (os.set k o2).countP P + (if P o = true then 1 else 0) = os.countP P + (if P o2 = true then 1 else 0)
  | [], k, o, o2, h => by simp at h
  | x :: os, 0, o, o2, h => by
    have e : x = o := by simpa using h
    subst e
    rw [List.set_cons_zero, List.countP_cons, List.countP_cons]
    omega
  | x :: os, k + 1, o, o2, h => by
    have h' : os[k]? = some o := by simpa using h
    have := cnt_set P os k o o2 h'
    rw [List.set_cons_succ, List.countP_cons, List.countP_cons]
    omega
theorem ch_at_in {a : aSt} {o : gOd} {c : Int32} {q : Nat × Nat × gSh} (h : ch_at a o c = some q) : q.1 < 4 ∧ (a.2.1 q.1)[q.2.1]? = some q.2.2 ∧ ¬ c_lie a.1 o q.2.2 = -1 := by
  unfold ch_at at h
  by_cases hp : ch_p a o c
  · simp only [dif_pos hp] at h
    have sp := Classical.choose_spec hp
    have e := Option.some.inj h
    rw [← e]
    exact ⟨by have := sp.1; show (Classical.choose hp).1 / 8 < 4; omega, sp.2.2.1, sp.2.2.2⟩
  · simp only [dif_neg hp] at h
    cases h
theorem w_steps_b {T : Nat} (c : Int32) : ∀ (f : Nat) (a : aSt) (v : Option gOd) (x : Nat), a_ok a → b_ok a T → (∀ o, v = some o → o_op o = true ∧ ∃ k : Nat, a.2.2[k]? = some o) → b_ok (w_steps c f a v (nI x)).2 T ∧ ∃ y, (w_steps c f a v (nI x)).1 = nI (x + y) ∧ (w_steps c f a v (nI x)).2.2.2.countP o_op + y = a.2.2.countP o_op := by
  intro f
  induction f with
  | zero => intro a v x ha hb hv; exact ⟨hb, 0, rfl, rfl⟩
  | succ f ih =>
    intro a v x ha hb hv
    cases v with
    | none => exact ⟨hb, 0, rfl, rfl⟩
    | some o =>
      obtain ⟨hop, k, hk⟩ := hv o rfl
      have nxt : ∀ (os : List gOd) (o2 : gOd), o_best (o_nx (some o)) none os = some o2 → o_op o2 = true ∧ ∃ k : Nat, os[k]? = some o2 := fun os o2 h => by
        refine ⟨?_, o_best_at h⟩
        rcases (o_best_le _ _ _ _ h).1 with q | q
        · cases q
        · have := q.2
          unfold o_nx at this
          simp only [Bool.and_eq_true] at this
          exact this.1
      rw [w_steps]
      cases hq : ch_at a o c with
      | none =>
        exact ih a (o_best (o_nx (some o)) none a.2.2) x ha hb (fun o2 h => nxt _ o2 h)
      | some q =>
        obtain ⟨q1, q2, q3⟩ := ch_at_in hq
        have ek : o.1.toNatClampNeg = k := by
          have := (List.getElem?_eq_some_iff.mp hk).1
          have := ha.2.2.1
          rw [(ha.2.2.2 k o hk).2, nI_clamp (by omega)]
        have a2 := t_cut_ok ha q1 q2 hk
        have b2 := t_cut_b_ok ha hb q1 q2 hk hop q3
        dsimp only
        rw [ek]
        by_cases cb : (t_out a q.1 q.2.1 q.2.2).1 = 0
        · obtain ⟨r1, y, r2, r3⟩ := ih (t_cut a q.1 q.2.1 k q.2.2 o).2 (o_best (o_nx (some o)) none (t_cut a q.1 q.2.1 k q.2.2 o).2.2.2) x a2 b2 (fun o2 h => nxt _ o2 h)
          rw [if_pos (show (t_cut a q.1 q.2.1 k q.2.2 o).1 = 10 by rw [t_cut_b cb])]
          refine ⟨r1, y, r2, ?_⟩
          rw [r3, t_cut_b cb]
          rfl
        · obtain ⟨-, w2, w3⟩ := t_cut_w (k := k) (o := o) cb
          obtain ⟨r1, y, r2, r3⟩ := ih (t_cut a q.1 q.2.1 k q.2.2 o).2 (o_best (o_nx (some o)) none (t_cut a q.1 q.2.1 k q.2.2 o).2.2.2) (x + 1) a2 b2 (fun o2 h => nxt _ o2 h)
          have ex : nI x + 1 = nI (x + 1) := nI_add x 1
          rw [if_neg w2, ex]
          refine ⟨r1, y + 1, ?_, ?_⟩
          · rw [r2]
            congr 1
            omega
          · have st := cnt_set o_op a.2.2 k o (o_cut o q.2.2 (a.1 5)) hk
            rw [if_pos hop, if_neg (show ¬ o_op (o_cut o q.2.2 (a.1 5)) = true from by show ¬ decide ((1 : Int32) = 0) = true; decide)] at st
            have e2 : (t_cut a q.1 q.2.1 k q.2.2 o).2.2.2.countP o_op = (a.2.2.set k (o_cut o q.2.2 (a.1 5))).countP o_op := by rw [w3]
            omega
theorem w_plan_b {a : aSt} (ha : a_ok a) {T : Nat} (hb : b_ok a T) {c : Int32} (hc : 0 ≤ c ∧ c ≤ 2) : b_ok (w_plan a c).2 T ∧ ((a.2.2.countP o_op = 0 ∧ w_plan a c = (-5, a)) ∨ (1 ≤ a.2.2.countP o_op ∧ ∃ y, (w_plan a c).1 = nI y ∧ y ≤ 12 ∧ (w_plan a c).2.2.2.countP o_op + y = a.2.2.countP o_op)) := by
  unfold w_plan
  rw [if_pos hc]
  cases h : o_best (o_nx none) none a.2.2 with
  | none => exact ⟨hb, Or.inl ⟨o_none.mp h, rfl⟩⟩
  | some o =>
    have hop : o_op o = true := by
      rcases (o_best_le _ _ _ _ h).1 with q | q
      · cases q
      · have := q.2
        unfold o_nx at this
        simp only [Bool.and_eq_true] at this
        exact this.1
    obtain ⟨r1, y, r2, r3⟩ := w_steps_b c 12 a (some o) 0 ha hb (fun o2 e => by cases e; exact ⟨hop, o_best_at h⟩)
    rw [nI_0] at r1 r2 r3
    refine ⟨r1, Or.inr ⟨?_, y, ?_, ?_, r3⟩⟩
    · obtain ⟨k, hk⟩ := o_best_at h
      exact List.countP_pos_iff.mpr ⟨o, List.mem_of_getElem? hk, hop⟩
    · show (w_steps c 12 a (some o) 0).1 = nI y
      rw [r2]; congr 1; omega
    · have := List.countP_le_length (p := o_op) (l := a.2.2)
      have := ha.2.2.1
      omega
