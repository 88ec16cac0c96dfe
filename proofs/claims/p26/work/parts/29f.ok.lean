/-! the acts keep a state well-formed -/
theorem r_os.set {os : List gOd} (h : r_os os) {k : Nat} {o o2 : gOd} (e : os[k]? = some o) (h2 : o_ok o2) (e2 : o2.1 = o.1) : r_os (os.set k o2) := by
  have hk : k < os.length := (List.getElem?_eq_some_iff.mp e).1
  refine ⟨by rw [List.length_set]; exact h.1, fun j x hx => ?_⟩
  rw [List.getElem?_set] at hx
  by_cases c : k = j
  · subst c
    rw [if_pos rfl, if_pos hk] at hx
    cases hx
    exact ⟨h2, e2.trans (h.2 k o e).2⟩
  · rw [if_neg c] at hx
    exact h.2 j x hx
theorem r_os.app {os : List gOd} (h : r_os os) (hl : os.length < 12) {o : gOd} (h2 : o_ok o) (e : o.1 = nI os.length) : r_os (os ++ [o]) := by
  refine ⟨by rw [List.length_append]; exact hl, fun j x hx => ?_⟩
  by_cases c : j < os.length
  · rw [List.getElem?_append_left c] at hx
    exact h.2 j x hx
  · rw [List.getElem?_append_right (by omega)] at hx
    have hj : j - os.length = 0 := by
      have := (List.getElem?_eq_some_iff.mp hx).1
      simp at this
      omega
    rw [hj] at hx
    cases hx
    exact ⟨h2, by rw [e]; congr 1; omega⟩
theorem o_off_ok {o : gOd} (h : o_ok o) : o_ok (o_off o) := ⟨h.1, h.2.1, h.2.2.1, h.2.2.2.1, Or.inr (Or.inr rfl), fun _ => ⟨rfl, rfl⟩⟩
theorem o_cut_ok {o : gOd} (h : o_ok o) (s : gSh) (d : Int32) : o_ok (o_cut o s d) := ⟨h.1, h.2.1, h.2.2.1, h.2.2.2.1, Or.inr (Or.inl rfl), fun q => absurd rfl q⟩
theorem t_out_ok {a : aSt} (ha : a_ok a) {r p : Nat} {s : gSh} (hr : r < 4) (hs : (a.2.1 r)[p]? = some s) : a_ok (t_out a r p s).2 := by
  obtain ⟨hn, ⟨m, hm, hk4⟩, hos⟩ := ha
  have hp : p < (a.2.1 r).length := (List.getElem?_eq_some_iff.mp hs).1
  refine ⟨n_ok_up (n_ok_up hn (by omega) _) (by omega) _, ⟨m, (t_out_nu a r p s (by omega) (by omega)).trans hm, hk4.sub (fun r2 _ => ?_)⟩, hos⟩
  by_cases c : r2 = r
  · subst c
    exact (t_out_sub a s hp).trans (List.eraseIdx_sublist _ _)
  · rw [t_out_ne a p s c]
    exact List.Sublist.refl _
theorem w_scrap_ok {a : aSt} (ha : a_ok a) {r p : Nat} {s : gSh} (hr : r < 4) (hs : (a.2.1 r)[p]? = some s) : a_ok (w_scrap a r p s) := by
  have h := t_out_ok ha hr hs
  unfold w_scrap
  split
  · exact h
  · obtain ⟨hn, ⟨m, hm, hk4⟩, hos⟩ := h
    exact ⟨n_ok_up hn (by omega) _, ⟨m, (va_up_ne (k := 8) (j := 12) (t_out a r p s).2.1 ((t_out a r p s).2.1 8 + s.2.2.1 * s.2.2.2.1) (by omega)).trans hm, hk4⟩, hos⟩
theorem w_cancel_ok {a : aSt} (ha : a_ok a) {k : Nat} {o : gOd} (hk : a.2.2[k]? = some o) : a_ok (w_cancel a k o).2 := by
  unfold w_cancel
  split
  · exact ⟨ha.1, ha.2.1, ha.2.2.set hk (o_off_ok (ha.2.2.2 k o hk).1) rfl⟩
  · exact ha
theorem w_order_ok {a : aSt} (ha : a_ok a) (q w y d : Int32) : a_ok (w_order a q w y d).2 := by
  unfold w_order
  split
  · next c1 =>
    split
    · next c2 =>
      split
      · next c3 =>
        split
        · next c4 =>
          split
          · next c5 =>
            obtain ⟨j, hj, e⟩ := i_nat (n := 2) (by omega) c1.1 c1.2
            obtain ⟨d2, hd, e2⟩ := i_nat (n := 999) (by omega) c4.1 c4.2
            exact ⟨ha.1, ha.2.1, ha.2.2.app c5 ⟨⟨j, by omega, e⟩, i_side c2, i_side c3, ⟨d2, hd, e2⟩, Or.inl rfl, fun _ => ⟨rfl, rfl⟩⟩ rfl⟩
          · exact ha
        · exact ha
      · exact ha
    · exact ha
  · exact ha
theorem w_buy_ok {a : aSt} (ha : a_ok a) (r q w y : Int32) : a_ok (w_buy a r q w y).2 := by
  unfold w_buy
  split
  · next c1 =>
    split
    · next c2 =>
      split
      · next c3 =>
        split
        · next c4 =>
          split
          · next c5 =>
            obtain ⟨hn, ⟨m, hm, hk4⟩, hos⟩ := ha
            obtain ⟨i, hi, e0⟩ := i_nat (n := 3) (by omega) c1.1 c1.2
            obtain ⟨j, hj, e⟩ := i_nat (n := 2) (by omega) c2.1 c2.2
            have e200 : (200 : Int32) ≤ a.1 12 ↔ 200 ≤ m := by
              have := hk4.1
              rw [hm, l200, nI_leI (by omega) (by omega)]
            have hm2 := Nat.lt_of_not_le (fun p => c5.1 (e200.mpr p))
            refine ⟨n_ok_up (n_ok_up hn (by omega) _) (by omega) _, ⟨m + 1, ?_, ?_⟩, hos⟩
            · show va_up (va_up a.1 6 (a.1 6 + w * y)) 12 (a.1 12 + 1) 12 = nI (m + 1)
              rw [va_up_at, hm]
              exact nI_add m 1
            · refine hk4.new hm2 (r := r.toNatClampNeg) ?_ c5.2 (v := (a.1 12, q, w, y, -5)) ⟨⟨j, by omega, e⟩, i_side c3, i_side c4⟩ hm
              rw [e0, nI_clamp (by omega)]
              omega
          · exact ha
        · exact ha
      · exact ha
    · exact ha
  · exact ha
theorem w_pass_ok {a : aSt} (ha : a_ok a) (n : Int32) : a_ok (w_pass a n).2 := by
  unfold w_pass
  split
  · next c1 =>
    split
    · next c2 =>
      obtain ⟨⟨h0, h1, h2, h3, h4, d, hd, e⟩, ⟨m, hm, hk4⟩, hos⟩ := ha
      obtain ⟨j, hj1, hj2, e2⟩ := i_side c1
      rw [e, e2, nI_add] at c2
      have c3 : d + j ≤ 999 := (nI_leI (b := 999) (by omega) (by omega)).mp c2
      exact ⟨⟨h0, h1, h2, h3, h4, d + j, c3, by show a.1 5 + n = _; rw [e, e2, nI_add]⟩, ⟨m, hm, hk4⟩, hos⟩
    · exact ha
  · exact ha
theorem i_sub3 {a b c : Nat} (ha : a ≤ 99) (hb : b ≤ 99) (hc : c ≤ 5) : (nI a - nI b - nI c).toInt = (a : Int) - b - c := by
  rw [Int32.toInt_sub, Int32.toInt_sub, nI_toInt (by omega), nI_toInt (by omega), nI_toInt (by omega), Int.bmod_eq_of_le (n := (a : Int) - b) (by omega) (by omega), Int.bmod_eq_of_le (by omega) (by omega)]
theorem i_le99 {x : Int32} (h : x.toInt ≤ 99) : x ≤ 99 := by
  rw [Int32.le_iff_toInt_le]
  have a : (99 : Int32).toInt = 99 := by decide
  omega
theorem c_in {g : Nat → Int32} (hn : n_ok g) {o : gOd} (ho : o_ok o) {s : gSh} (hs : s_ok s) : c_bw g o s ≤ 99 ∧ c_bh g o s ≤ 99 ∧ c_aw g o s ≤ 99 ∧ c_ah g o s ≤ 99 := by
  obtain ⟨⟨c, hc, ec⟩, -⟩ := hn
  obtain ⟨-, ⟨w, w1, w2, ew⟩, ⟨y, y1, y2, ey⟩, -⟩ := ho
  obtain ⟨-, ⟨w3, w4, w5, ew2⟩, ⟨y3, y4, y5, ey2⟩⟩ := hs
  have pw : ∃ b, b ≤ 99 ∧ c_pw g o s = nI b := by
    unfold c_pw
    split
    · exact ⟨y, y2, ey⟩
    · exact ⟨w, w2, ew⟩
  have ph : ∃ b, b ≤ 99 ∧ c_ph g o s = nI b := by
    unfold c_ph
    split
    · exact ⟨w, w2, ew⟩
    · exact ⟨y, y2, ey⟩
  obtain ⟨b, hb, eb⟩ := pw
  obtain ⟨d, hd, ed⟩ := ph
  have n99 : ∀ k, k ≤ 99 → nI k ≤ (99 : Int32) := fun k hk => (nI_leI (b := 99) (by omega) (by omega)).mpr hk
  refine ⟨?_, ?_, ?_, ?_⟩
  · unfold c_bw
    rw [ew2, eb, ec]
    exact i_le99 (by rw [i_sub3 w5 hb hc]; omega)
  · unfold c_bh
    rw [ey2, ed]
    split
    · exact n99 _ y5
    · exact n99 _ hd
  · unfold c_aw
    rw [ew2, eb]
    split
    · exact n99 _ hb
    · exact n99 _ w5
  · unfold c_ah
    rw [ey2, ed, ec]
    exact i_le99 (by rw [i_sub3 y5 hd hc]; omega)
theorem t_keep_ok {a : aSt} (ha : a_ok a) {r : Nat} (hr : r < 4) {s : gSh} (hs : s_ok s) {w y : Int32} (hw : w ≤ 99) (hy : y ≤ 99) : a_ok (t_keep a r w y s).2 := by
  unfold t_keep
  split
  · exact ha
  · split
    · next c5 =>
      obtain ⟨hn, ⟨m, hm, hk4⟩, hos⟩ := ha
      obtain ⟨l, l1', l2', el⟩ := hn.2.1
      have hl1 : (1 : Int32) ≤ a.1 1 := by
        rw [el]
        exact (nI_leI (a := 1) (by omega) (by omega)).mpr l1'
      have e200 : (200 : Int32) ≤ a.1 12 ↔ 200 ≤ m := by
        have := hk4.1
        rw [hm, l200, nI_leI (by omega) (by omega)]
      have hm2 := Nat.lt_of_not_le (fun p => c5.2.2.1 (e200.mpr p))
      refine ⟨n_ok_up hn (by omega) _, ⟨m + 1, ?_, ?_⟩, hos⟩
      · show va_up a.1 12 (a.1 12 + 1) 12 = nI (m + 1)
        rw [va_up_at, hm]
        exact nI_add m 1
      · exact hk4.new hm2 hr c5.2.2.2 (v := (a.1 12, s.2.1, w, y, s.1)) ⟨hs.1, i_side ⟨Int32.le_trans hl1 c5.1, hw⟩, i_side ⟨Int32.le_trans hl1 c5.2.1, hy⟩⟩ hm
    · obtain ⟨hn, ⟨m, hm, hk4⟩, hos⟩ := ha
      exact ⟨n_ok_up hn (by omega) _, ⟨m, (va_up_ne (k := 8) (j := 12) a.1 (a.1 8 + w * y) (by omega)).trans hm, hk4⟩, hos⟩
theorem t_cut_ok {a : aSt} (ha : a_ok a) {r p k : Nat} {s : gSh} {o : gOd} (hr : r < 4) (hs : (a.2.1 r)[p]? = some s) (hk : a.2.2[k]? = some o) : a_ok (t_cut a r p k s o).2 := by
  have h1 := t_out_ok ha hr hs
  have ho := (ha.2.2.2 k o hk).1
  obtain ⟨hn, ⟨m, hm, hk4⟩, hos⟩ := ha
  have hsk := (hk4.2.2.2 r p s hr hs).1
  obtain ⟨b1, b2, b3, b4⟩ := c_in hn ho hsk
  unfold t_cut
  split
  · exact h1
  · refine t_keep_ok (t_keep_ok ?_ hr hsk b1 b2) hr hsk b3 b4
    obtain ⟨gn, ⟨m2, gm, gk⟩, gos⟩ := h1
    refine ⟨n_ok_up (n_ok_up gn (by omega) _) (by omega) _, ⟨m2, ?_, gk⟩, gos.set hk (o_cut_ok ho s _) rfl⟩
    show va_up (va_up (t_out a r p s).2.1 7 ((t_out a r p s).2.1 7 + o.2.2.1 * o.2.2.2.1)) 10 ((t_out a r p s).2.1 10 + c_lost a.1 o s) 12 = _
    rw [va_up_ne _ _ (by omega), va_up_ne _ _ (by omega)]
    exact gm
theorem w_cut_ok {a : aSt} (ha : a_ok a) {r p k : Nat} {s : gSh} {o : gOd} (hr : r < 4) (hs : (a.2.1 r)[p]? = some s) (hk : a.2.2[k]? = some o) : a_ok (w_cut a r p k s o).2 := by
  unfold w_cut
  split
  · split
    · exact ha
    · exact t_cut_ok ha hr hs hk
  · exact ha
