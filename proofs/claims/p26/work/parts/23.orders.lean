/-! orders as a list -/
def r_ol (os : List gOd) (f : Nat → Option gOd) : Prop := os.length ≤ 12 ∧ ∀ k, k < 12 → f k = os[k]?
abbrev o_op (o : gOd) : Bool := o.2.2.2.2.2.1 = 0
abbrev o_lt (d : Int32) (o : gOd) : Bool := (o.2.2.2.2.2.1 = 1 ∧ o.2.2.2.2.1 < o.2.2.2.2.2.2.2) ∨ (o.2.2.2.2.2.1 = 0 ∧ ¬ d ≤ o.2.2.2.2.1)
theorem f3_isOpen_e (o : gOd) : f3_isOpen o = some (if o_op o then 1 else 0) := by
  unfold f3_isOpen o_op
  by_cases c : o.2.2.2.2.2.1 = 0 <;> simp [c]
theorem f3_isLate_e (o : gOd) (d : Int32) : f3_isLate o d = some (if o_lt d o then 1 else 0) := by
  unfold f3_isLate f3_isLate_19 o_lt
  by_cases c1 : o.2.2.2.2.2.1 = 1
  · have c0 : ¬ o.2.2.2.2.2.1 = 0 := by rw [c1]; decide
    by_cases c2 : o.2.2.2.2.1 < o.2.2.2.2.2.2.2 <;> simp [c1, c2]
  · by_cases c0 : o.2.2.2.2.2.1 = 0
    · by_cases c2 : d ≤ o.2.2.2.2.1 <;> simp [c0, c2]
    · simp [c0, c1]
theorem drop_at {α : Type} {l : List α} {k : Nat} {x : α} (h : l[k]? = some x) : l.drop k = x :: l.drop (k + 1) := by
  obtain ⟨hk, he⟩ := List.getElem?_eq_some_iff.mp h
  rw [List.drop_eq_getElem_cons hk, he]
theorem f4_open_l {os : List gOd} {z : gSt} (h : r_ol os z.2.2) : ∀ (m n k acc : Nat), k + m = 12 → m < n → acc ≤ k → f4_openOnes_4 n z (nI acc) (nI k) = some (nI (acc + (os.drop k).countP o_op)) := by
  intro m
  induction m with
  | zero =>
    intro n k acc hk hn _
    obtain ⟨n, rfl⟩ : ∃ k, n = k + 1 := ⟨n - 1, by omega⟩
    rw [f4_openOnes_4]
    simp (disch := omega) only [l12, nI_leI]
    rw [if_pos (by omega), List.drop_eq_nil_of_le (by have := h.1; omega)]
    rfl
  | succ m ih =>
    intro n k acc hk hn ha
    obtain ⟨n, rfl⟩ : ∃ k, n = k + 1 := ⟨n - 1, by omega⟩
    rw [f4_openOnes_4]
    simp (disch := omega) only [l12, l1, nI_leI, nI_clamp, q_in, nI_add]
    rw [if_neg (by omega), if_pos (by omega), h.2 k (by omega)]
    cases e : os[k]? with
    | none =>
      rw [q_oc_n, ih n (k + 1) acc (by omega) (by omega) (by omega)]
      have hl : os.length ≤ k := by simpa using e
      rw [List.drop_eq_nil_of_le hl, List.drop_eq_nil_of_le (by omega)]
    | some o =>
      have hl : k < os.length := (List.getElem?_eq_some_iff.mp e).1
      have hle := h.1
      rw [q_oc_s, f3_isOpen_e, q_b1_s, drop_at e, List.countP_cons]
      by_cases c : o_op o = true
      · rw [if_pos c, if_neg (by decide), ih n (k + 1) (acc + 1) (by omega) (by omega) (by omega), if_pos c]
        congr 2
        omega
      · rw [if_neg c, if_pos rfl, ih n (k + 1) acc (by omega) (by omega) (by omega), if_neg c]
        rfl
theorem r_open {os : List gOd} {z : gSt} (h : r_ol os z.2.2) : f4_openOnes z = some (nI (os.countP o_op)) := by
  have e := f4_open_l h 12 70 0 0 (by omega) (by omega) (by omega)
  unfold f4_openOnes
  rw [← nI_0, e, Nat.zero_add]
  rfl
theorem f4_late_l {os : List gOd} {z : gSt} (h : r_ol os z.2.2) (d : Int32) : ∀ (m n k acc : Nat), k + m = 12 → m < n → acc ≤ k → f4_lateOnes_4 n z d (nI acc) (nI k) = some (nI (acc + (os.drop k).countP (o_lt d))) := by
  intro m
  induction m with
  | zero =>
    intro n k acc hk hn _
    obtain ⟨n, rfl⟩ : ∃ k, n = k + 1 := ⟨n - 1, by omega⟩
    rw [f4_lateOnes_4]
    simp (disch := omega) only [l12, nI_leI]
    rw [if_pos (by omega), List.drop_eq_nil_of_le (by have := h.1; omega)]
    rfl
  | succ m ih =>
    intro n k acc hk hn ha
    obtain ⟨n, rfl⟩ : ∃ k, n = k + 1 := ⟨n - 1, by omega⟩
    rw [f4_lateOnes_4]
    simp (disch := omega) only [l12, l1, nI_leI, nI_clamp, q_in, nI_add]
    rw [if_neg (by omega), if_pos (by omega), h.2 k (by omega)]
    cases e : os[k]? with
    | none =>
      rw [q_oc_n, ih n (k + 1) acc (by omega) (by omega) (by omega)]
      have hl : os.length ≤ k := by simpa using e
      rw [List.drop_eq_nil_of_le hl, List.drop_eq_nil_of_le (by omega)]
    | some o =>
      have hl : k < os.length := (List.getElem?_eq_some_iff.mp e).1
      have hle := h.1
      rw [q_oc_s, f3_isLate_e, q_b1_s, drop_at e, List.countP_cons]
      by_cases c : o_lt d o = true
      · rw [if_pos c, if_neg (by decide), ih n (k + 1) (acc + 1) (by omega) (by omega) (by omega), if_pos c]
        congr 2
        omega
      · rw [if_neg c, if_pos rfl, ih n (k + 1) acc (by omega) (by omega) (by omega), if_neg c]
        rfl
theorem r_late {os : List gOd} {z : gSt} (h : r_ol os z.2.2) (d : Int32) : f4_lateOnes z d = some (nI (os.countP (o_lt d))) := by
  have e := f4_late_l h d 12 70 0 0 (by omega) (by omega) (by omega)
  unfold f4_lateOnes
  rw [← nI_0, e, Nat.zero_add]
  rfl
/-! what an order is, and the order of orders -/
def o_ok (o : gOd) : Prop := (∃ s, s < 3 ∧ o.2.1 = nI s) ∧ (∃ w, 1 ≤ w ∧ w ≤ 99 ∧ o.2.2.1 = nI w) ∧ (∃ h, 1 ≤ h ∧ h ≤ 99 ∧ o.2.2.2.1 = nI h) ∧ (∃ d, d ≤ 999 ∧ o.2.2.2.2.1 = nI d) ∧ (o.2.2.2.2.2.1 = 0 ∨ o.2.2.2.2.2.1 = 1 ∨ o.2.2.2.2.2.1 = 2) ∧ (o.2.2.2.2.2.1 ≠ 1 → o.2.2.2.2.2.2.1 = -5 ∧ o.2.2.2.2.2.2.2 = -5)
/-- a plan's key of an order: days first, then the greater area, then the number -/
def o_ar (o : gOd) : Nat := o.2.2.1.toNatClampNeg * o.2.2.2.1.toNatClampNeg
def o_key (o : gOd) : Nat := (o.2.2.2.2.1.toNatClampNeg * 10000 + (9999 - o_ar o)) * 20 + o.1.toNatClampNeg
theorem o_ar_e {o : gOd} (h : o_ok o) : o.2.2.1 * o.2.2.2.1 = nI (o_ar o) ∧ 1 ≤ o_ar o ∧ o_ar o ≤ 9801 := by
  obtain ⟨-, ⟨w, w1, w2, ew⟩, ⟨y, y1, y2, ey⟩, -⟩ := h
  unfold o_ar
  rw [ew, ey, nI_clamp (by omega), nI_clamp (by omega), pk_mul]
  refine ⟨rfl, Nat.mul_pos w1 y1, Nat.mul_le_mul w2 y2⟩
theorem f3_goes_e {o o2 : gOd} (h : o_ok o) (h2 : o_ok o2) {k k2 : Nat} (hk : o.1 = nI k) (hk2 : o2.1 = nI k2) (b1 : k < 12) (b2 : k2 < 12) : f3_goesBefore o o2 = some (if o_key o < o_key o2 then 1 else 0) := by
  obtain ⟨ea, la, ua⟩ := o_ar_e h
  obtain ⟨eb, lb, ub⟩ := o_ar_e h2
  obtain ⟨-, -, -, ⟨d, ud, ed⟩, -⟩ := h
  obtain ⟨-, -, -, ⟨d2, ud2, ed2⟩, -⟩ := h2
  unfold f3_goesBefore f3_area o_key
  rw [ea, eb, hk, hk2, ed, ed2]
  simp (disch := omega) only [q_b1_s, nI_eq, nI_leI, nI_clamp]
  by_cases c1 : d = d2
  · rw [if_pos c1]
    by_cases c2 : o_ar o = o_ar o2
    · rw [if_pos c2]
      by_cases c3 : k2 ≤ k
      · rw [if_pos c3, if_neg (by omega)]
      · rw [if_neg c3, if_pos (by omega)]
    · rw [if_neg c2]
      by_cases c3 : o_ar o ≤ o_ar o2
      · rw [if_pos c3, if_neg (by omega)]
      · rw [if_neg c3, if_pos (by omega)]
  · rw [if_neg c1]
    by_cases c3 : d2 ≤ d
    · rw [if_pos c3, if_neg (by omega)]
    · rw [if_neg c3, if_pos (by omega)]
