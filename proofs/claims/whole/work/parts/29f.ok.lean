/-! the acts keep a state well-formed -/
theorem r_os.set {os : List gOd} (h : r_os os) {k : Nat} {o o2 : gOd} (e : os[k]? = some o) (h2 : o_ok o2) (e2 : o2.1 = o.1) : r_os (os.set k o2) := by
  have hk : k < os.length := (List.getElem?_eq_some_iff.mp e).1
  refine ⟨by rw [List.length_set]; exact h.1, fun j x hx => ?_⟩
  rw [List.getElem?_set] at hx
  by_cases c : k = j
  · subst c
    rw [if_pos rfl, if_pos hk] at hx
    cases hx
    exact ⟨h2, e2.trans (h.2 k o e).2⟩
  · rw [if_neg c] at hx
    exact h.2 j x hx
theorem r_os.app {os : List gOd} (h : r_os os) (hl : os.length < 12) {o : gOd} (h2 : o_ok o) (e : o.1 = nI os.length) : r_os (os ++ [o]) := by
  refine ⟨by rw [List.length_append]; exact hl, fun j x hx => ?_⟩
  by_cases c : j < os.length
  · rw [List.getElem?_append_left c] at hx
    exact h.2 j x hx
  · rw [List.getElem?_append_right (by omega)] at hx
    have hj : j - os.length = 0 := by
      have := (List.getElem?_eq_some_iff.mp hx).1
      simp at this
      omega
    rw [hj] at hx
    cases hx
    exact ⟨h2, by rw [e]; congr 1; omega⟩
theorem o_off_ok {o : gOd} (h : o_ok o) : o_ok (o_off o) := ⟨h.1, h.2.1, h.2.2.1, h.2.2.2.1, Or.inr (Or.inr rfl), fun _ => ⟨rfl, rfl⟩⟩
theorem o_cut_ok {o : gOd} (h : o_ok o) (s : gSh) (d : Int32) : o_ok (o_cut o s d) := ⟨h.1, h.2.1, h.2.2.1, h.2.2.2.1, Or.inr (Or.inl rfl), fun q => absurd rfl q⟩
theorem t_out_ok {a : aSt} (ha : a_ok a) {r p : Nat} {s : gSh} (hr : r < 4) (hs : (a.2.1 r)[p]? = some s) : a_ok (t_out a r p s).2 := by
  obtain ⟨hn, ⟨m, hm, hk4⟩, hos⟩ := ha
  have hp : p < (a.2.1 r).length := (List.getElem?_eq_some_iff.mp hs).1
  refine ⟨n_ok_up (n_ok_up hn (by omega) _) (by omega) _, ⟨m, (t_out_nu a r p s (by omega) (by omega)).trans hm, hk4.sub (fun r2 _ => ?_)⟩, hos⟩
  by_cases c : r2 = r
  · subst c
    exact (t_out_sub a s hp).trans (List.eraseIdx_sublist _ _)
  · rw [t_out_ne a p s c]
    exact List.Sublist.refl _
theorem w_scrap_ok {a : aSt} (ha : a_ok a) {r p : Nat} {s : gSh} (hr : r < 4) (hs : (a.2.1 r)[p]? = some s) : a_ok (w_scrap a r p s) := by
  have h := t_out_ok ha hr hs
  unfold w_scrap
  split
  · exact h
  · obtain ⟨hn, ⟨m, hm, hk4⟩, hos⟩ := h
    exact ⟨n_ok_up hn (by omega) _, ⟨m, (va_up_ne (k := 8) (j := 12) (t_out a r p s).2.1 ((t_out a r p s).2.1 8 + s.2.2.1 * s.2.2.2.1) (by omega)).trans hm, hk4⟩, hos⟩
theorem w_cancel_ok {a : aSt} (ha : a_ok a) {k : Nat} {o : gOd} (hk : a.2.2[k]? = some o) : a_ok (w_cancel a k o).2 := by
  unfold w_cancel
  split
  · exact ⟨ha.1, ha.2.1, ha.2.2.set hk (o_off_ok (ha.2.2.2 k o hk).1) rfl⟩
  · exact ha
theorem w_order_ok {a : aSt} (ha : a_ok a) (q w y d : Int32) : a_ok (w_order a q w y d).2 := by
  unfold w_order
  split
  · next c1 =>
    split
    · next c2 =>
      split
      · next c3 =>
        split
        · next c4 =>
          split
          · next c5 =>
            obtain ⟨j, hj, e⟩ := i_nat (n := 2) (by omega) c1.1 c1.2
            obtain ⟨d2, hd, e2⟩ := i_nat (n := 999) (by omega) c4.1 c4.2
            exact ⟨ha.1, ha.2.1, ha.2.2.app c5 ⟨⟨j, by omega, e⟩, i_side c2, i_side c3, ⟨d2, hd, e2⟩, Or.inl rfl, fun _ => ⟨rfl, rfl⟩⟩ rfl⟩
          · exact ha
        · exact ha
      · exact ha
    · exact ha
  · exact ha
theorem w_buy_ok {a : aSt} (ha : a_ok a) (r q w y : Int32) : a_ok (w_buy a r q w y).2 := by
  unfold w_buy
  split
  · next c1 =>
    split
    · next c2 =>
      split
      · next c3 =>
        split
        · next c4 =>
          split
          · next c5 =>
            obtain ⟨hn, ⟨m, hm, hk4⟩, hos⟩ := ha
            obtain ⟨i, hi, e0⟩ := i_nat (n := 3) (by omega) c1.1 c1.2
            obtain ⟨j, hj, e⟩ := i_nat (n := 2) (by omega) c2.1 c2.2
            have e200 : (200 : Int32) ≤ a.1 12 ↔ 200 ≤ m := by
              have := hk4.1
              rw [hm, l200, nI_leI (by omega) (by omega)]
            have hm2 := Nat.lt_of_not_le (fun p => c5.1 (e200.mpr p))
            refine ⟨n_ok_up (n_ok_up hn (by omega) _) (by omega) _, ⟨m + 1, ?_, ?_⟩, hos⟩
            · show va_up (va_up a.1 6 (a.1 6 + w * y)) 12 (a.1 12 + 1) 12 = nI (m + 1)
              rw [va_up_at, hm]
              exact nI_add m 1
            · refine hk4.new hm2 (r := r.toNatClampNeg) ?_ c5.2 (v := (a.1 12, q, w, y, -5)) ⟨⟨j, by omega, e⟩, i_side c3, i_side c4⟩ hm
              rw [e0, nI_clamp (by omega)]
              omega
          · exact ha
        · exact ha
      · exact ha
    · exact ha
  · exact ha
theorem w_pass_ok {a : aSt} (ha : a_ok a) (n : Int32) : a_ok (w_pass a n).2 := by
  unfold w_pass
  split
  · next c1 =>
    split
    · next c2 =>
      obtain ⟨⟨h0, h1, h2, h3, h4, d, hd, e⟩, ⟨m, hm, hk4⟩, hos⟩ := ha
      obtain ⟨j, hj1, hj2, e2⟩ := i_side c1
      rw [e, e2, nI_add] at c2
      have c3 : d + j ≤ 999 := (nI_leI (b := 999) (by omega) (by omega)).mp c2
      exact ⟨⟨h0, h1, h2, h3, h4, d + j, c3, by show a.1 5 + n = _; rw [e, e2, nI_add]⟩, ⟨m, hm, hk4⟩, hos⟩
    · exact ha
  · exact ha
theorem i_sub3 {a b c : Nat} (ha : a ≤ 99) (hb : b ≤ 99) (hc : c ≤ 5) : (nI a - nI b - nI c).toInt = (a : Int) - b - c := by
  rw [Int32.toInt_sub, Int32.toInt_sub, nI_toInt (by omega), nI_toInt (by omega), nI_toInt (by omega), Int.bmod_eq_of_le (x := (a : Int) - b) (by omega) (by omega), Int.bmod_eq_of_le (by omega) (by omega)]
