/-! the acts, class -/
theorem q_b0 (P : Prop) [Decidable P] : ((if P then (1 : Int32) else 0) = 0) = ¬ P := by
  by_cases c : P
  · rw [if_pos c]
    exact propext ⟨fun q => absurd q (by decide), fun q => absurd c q⟩
  · rw [if_neg c]
    exact propext ⟨fun _ => c, fun _ => rfl⟩
theorem i_ge4 (x : Int32) : (4 : Int32) ≤ x ↔ ¬ x ≤ 3 := by
  rw [Int32.le_iff_toInt_le, Int32.le_iff_toInt_le]
  have a : (4 : Int32).toInt = 4 := by decide
  have b : (3 : Int32).toInt = 3 := by decide
  omega
theorem i_ge3 (x : Int32) : (3 : Int32) ≤ x ↔ ¬ x ≤ 2 := by
  rw [Int32.le_iff_toInt_le, Int32.le_iff_toInt_le]
  have a : (3 : Int32).toInt = 3 := by decide
  have b : (2 : Int32).toInt = 2 := by decide
  omega
theorem i_nlt (a b : Int32) : a < b ↔ ¬ b ≤ a := Int32.not_le.symm
theorem f9_rack_e (x : Int32) : f9_isRack x = some (if 0 ≤ x ∧ x ≤ 3 then 1 else 0) := by
  unfold f9_isRack
  simp only [i_nlt]
  by_cases c1 : 0 ≤ x
  · rw [if_neg (fun q => q c1)]
    by_cases c2 : x ≤ 3
    · rw [if_neg (fun q => (i_ge4 x).mp q c2), if_pos ⟨c1, c2⟩]
    · rw [if_pos ((i_ge4 x).mpr c2), if_neg (fun q => c2 q.2)]
  · rw [if_pos c1, if_neg (fun q => c1 q.1)]
theorem f9_sort_e (x : Int32) : f9_isSort x = some (if 0 ≤ x ∧ x ≤ 2 then 1 else 0) := by
  unfold f9_isSort
  simp only [i_nlt]
  by_cases c1 : 0 ≤ x
  · rw [if_neg (fun q => q c1)]
    by_cases c2 : x ≤ 2
    · rw [if_neg (fun q => (i_ge3 x).mp q c2), if_pos ⟨c1, c2⟩]
    · rw [if_pos ((i_ge3 x).mpr c2), if_neg (fun q => c2 q.2)]
  · rw [if_pos c1, if_neg (fun q => c1 q.1)]
theorem f9_choice_e (x : Int32) : f9_isChoice x = some (if 0 ≤ x ∧ x ≤ 2 then 1 else 0) := f9_sort_e x
theorem f9_side_e (x : Int32) : f9_isSide x = some (if 1 ≤ x ∧ x ≤ 99 then 1 else 0) := by
  unfold f9_isSide
  simp only [i_nlt]
  by_cases c1 : 1 ≤ x
  · rw [if_neg (fun q => q c1)]
    by_cases c2 : x ≤ 99
    · rw [if_neg (fun q => q c2), if_pos ⟨c1, c2⟩]
    · rw [if_pos c2, if_neg (fun q => c2 q.2)]
  · rw [if_pos c1, if_neg (fun q => c1 q.1)]
theorem i_nat {x : Int32} {n : Nat} (hn : n < 2 ^ 31) (h0 : 0 ≤ x) (h : x ≤ nI n) : ∃ j, j ≤ n ∧ x = nI j := by
  obtain ⟨j, hj, rfl⟩ := nI_of (Int32.not_lt.mpr h0)
  exact ⟨j, (nI_leI hj hn).mp h, rfl⟩
theorem i_side {x : Int32} (h : 1 ≤ x ∧ x ≤ 99) : ∃ w, 1 ≤ w ∧ w ≤ 99 ∧ x = nI w := by
  obtain ⟨j, hj, rfl⟩ := i_nat (n := 99) (by omega) (Int32.le_trans (by decide) h.1) h.2
  exact ⟨j, (nI_leI (a := 1) (by omega) (by omega)).mp h.1, hj, rfl⟩
def w_buy (a : aSt) (r q w y : Int32) : Int32 × aSt :=
  if 0 ≤ r ∧ r ≤ 3 then if 0 ≤ q ∧ q ≤ 2 then if 1 ≤ w ∧ w ≤ 99 then if 1 ≤ y ∧ y ≤ 99 then
    if ¬ (200 : Int32) ≤ a.1 12 ∧ (a.2.1 r.toNatClampNeg).length < 8 then (a.1 12, va_up (va_up a.1 6 (a.1 6 + w * y)) 12 (a.1 12 + 1), va_up a.2.1 r.toNatClampNeg (a.2.1 r.toNatClampNeg ++ [(a.1 12, q, w, y, -5)]), a.2.2)
    else (-3, a) else (-2, a) else (-2, a) else (-1, a) else (-1, a)
theorem r_buy {a : aSt} (ha : a_ok a) {z : gSt} (h : r_c a z) (r q w y : Int32) : ∃ z2, f8_buySheet z r q w y = some ((w_buy a r q w y).1, z2) ∧ r_c (w_buy a r q w y).2 z2 := by
  obtain ⟨hn, ⟨m, hm, hk4⟩, hos⟩ := ha
  unfold f8_buySheet w_buy
  simp only [f9_rack_e, f9_sort_e, f9_side_e, q_b1_s, q_b0, ite_not]
  by_cases c1 : 0 ≤ r ∧ r ≤ 3
  · by_cases c2 : 0 ≤ q ∧ q ≤ 2
    · by_cases c3 : 1 ≤ w ∧ w ≤ 99
      · by_cases c4 : 1 ≤ y ∧ y ≤ 99
        · simp only [if_pos c1, if_pos c2, if_pos c3, if_pos c4]
          obtain ⟨j, hj, rfl⟩ := i_nat (n := 3) (by omega) c1.1 c1.2
          rw [nI_clamp (by omega), r_room h.2.2.1 (r := j) (by omega) (hk4.2.1 j (by omega)) ((h.1 12 (by omega)).trans hm) hk4.1, q_b1_s]
          simp only [q_b0, ite_not]
          have e200 : (200 : Int32) ≤ a.1 12 ↔ 200 ≤ m := by
            have := hk4.1
            rw [hm, l200, nI_leI (by omega) (by omega)]
          by_cases c5 : m < 200 ∧ (a.2.1 j).length < 8
          · have d5 : ¬ (200 : Int32) ≤ a.1 12 ∧ (a.2.1 j).length < 8 := ⟨fun q => by have := e200.mp q; omega, c5.2⟩
            rw [if_pos c5, if_pos d5, q_let, h.1 6 (by omega)]
            have h6 := h.si (k := 6) (by omega) (a.1 6 + w * y)
            have hm6 : (va_up a.1 6 (a.1 6 + w * y)) 12 = nI m := (va_up_ne (k := 6) (j := 12) a.1 (a.1 6 + w * y) (by omega)).trans hm
            obtain ⟨z2, e1, e2⟩ := h6.news hm6 (r := j) (by omega) c5.2 q w y (-5)
            rw [e1, q_bd_s, hm, show nI m + (1 : Int32) = nI (m + 1) from nI_add m 1]
            exact ⟨z2, rfl, e2⟩
          · have d5 : ¬ (¬ (200 : Int32) ≤ a.1 12 ∧ (a.2.1 j).length < 8) := fun q => c5 ⟨Nat.lt_of_not_le (fun p => q.1 (e200.mpr p)), q.2⟩
            rw [if_neg c5, if_neg d5]
            exact ⟨z, rfl, h⟩
        · simp only [if_pos c1, if_pos c2, if_pos c3, if_neg c4]
          exact ⟨z, rfl, h⟩
      · simp only [if_pos c1, if_pos c2, if_neg c3]
        exact ⟨z, rfl, h⟩
    · simp only [if_pos c1, if_neg c2]
      exact ⟨z, rfl, h⟩
  · simp only [if_neg c1]
    exact ⟨z, rfl, h⟩
def w_order (a : aSt) (q w y d : Int32) : Int32 × aSt :=
  if 0 ≤ q ∧ q ≤ 2 then if 1 ≤ w ∧ w ≤ 99 then if 1 ≤ y ∧ y ≤ 99 then if 0 ≤ d ∧ d ≤ 999 then
    if a.2.2.length < 12 then (nI a.2.2.length, a.1, a.2.1, a.2.2 ++ [(nI a.2.2.length, q, w, y, d, 0, -5, -5)])
    else (-3, a) else (-2, a) else (-2, a) else (-2, a) else (-1, a)
theorem r_order {a : aSt} {z : gSt} (h : r_c a z) (q w y d : Int32) : ∃ z2, f8_takeOrder z q w y d = some ((w_order a q w y d).1, z2) ∧ r_c (w_order a q w y d).2 z2 := by
  unfold f8_takeOrder w_order
  simp only [f9_sort_e, f9_side_e, q_b1_s, q_b0, ite_not, i_nlt d 0, r_isfull h]
  by_cases c2 : 0 ≤ q ∧ q ≤ 2
  · by_cases c3 : 1 ≤ w ∧ w ≤ 99
    · by_cases c4 : 1 ≤ y ∧ y ≤ 99
      · simp only [if_pos c2, if_pos c3, if_pos c4]
        by_cases c5 : 0 ≤ d
        · by_cases c6 : d ≤ 999
          · have c56 : 0 ≤ d ∧ d ≤ 999 := ⟨c5, c6⟩
            simp only [if_pos c5, if_pos c6, if_pos c56]
            by_cases c7 : a.2.2.length < 12
            · simp only [c7, if_true]
              obtain ⟨z2, e1, e2⟩ := h.newo c7 q w y d
              rw [e1, q_bd_s]
              exact ⟨z2, rfl, e2⟩
            · simp only [c7, if_false, show ¬ (1 : Int32) = 0 by decide]
              exact ⟨z, rfl, h⟩
          · have c56 : ¬ (0 ≤ d ∧ d ≤ 999) := fun q => c6 q.2
            simp only [if_pos c5, if_neg c6, if_neg c56]
            exact ⟨z, rfl, h⟩
        · have c56 : ¬ (0 ≤ d ∧ d ≤ 999) := fun q => c5 q.1
          simp only [if_neg c5, if_neg c56]
          exact ⟨z, rfl, h⟩
      · simp only [if_pos c2, if_pos c3, if_neg c4]
        exact ⟨z, rfl, h⟩
    · simp only [if_pos c2, if_neg c3]
      exact ⟨z, rfl, h⟩
  · simp only [if_neg c2]
    exact ⟨z, rfl, h⟩
def w_pass (a : aSt) (n : Int32) : Int32 × aSt :=
  if 1 ≤ n ∧ n ≤ 99 then if a.1 5 + n ≤ 999 then (nI (a.2.2.countP (o_lt (a.1 5 + n))) - nI (a.2.2.countP (o_lt (a.1 5))), va_up a.1 5 (a.1 5 + n), a.2) else (-3, a) else (-2, a)
theorem r_pass {a : aSt} {z : gSt} (h : r_c a z) (n : Int32) : ∃ z2, f8_passDays z n = some ((w_pass a n).1, z2) ∧ r_c (w_pass a n).2 z2 := by
  unfold f8_passDays w_pass
  simp only [i_nlt, ite_not]
  rw [h.1 5 (by omega)]
  by_cases c1 : 1 ≤ n
  · rw [if_pos c1]
    by_cases c2 : n ≤ 99
    · have c12 : 1 ≤ n ∧ n ≤ 99 := ⟨c1, c2⟩
      rw [if_pos c2, if_pos c12]
      by_cases c3 : a.1 5 + n ≤ 999
      · have h5 := h.si (k := 5) (by omega) (a.1 5 + n)
        rw [if_pos c3, if_pos c3, r_late h.2.2.2, q_b1_s, q_let]
        rw [show (g_si z 5 (a.1 5 + n)).1 5 = a.1 5 + n from va_up_at z.1 5 (a.1 5 + n), r_late h5.2.2.2, q_b1_s]
        exact ⟨_, rfl, h5⟩
      · rw [if_neg c3, if_neg c3]
        exact ⟨z, rfl, h⟩
    · have c12 : ¬ (1 ≤ n ∧ n ≤ 99) := fun q => c2 q.2
      rw [if_neg c2, if_neg c12]
      exact ⟨z, rfl, h⟩
  · have c12 : ¬ (1 ≤ n ∧ n ≤ 99) := fun q => c1 q.1
    rw [if_neg c1, if_neg c12]
    exact ⟨z, rfl, h⟩
