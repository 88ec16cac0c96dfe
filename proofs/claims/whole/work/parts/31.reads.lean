/-! THE REFERENCE: what it reads, by the state's words -/
theorem i_nle (a b : Int32) : ¬ a < b ↔ b ≤ a := Int32.not_lt
/-- of an order x, a sheet y and the settings -/
def m_rd (M : gMo) (x y : Int32) (g : Nat → Int32) (o : gOd) (s : gSh) : Prop :=
  f10_of M x 0 = some o.2.1 ∧ f10_of M x 1 = some o.2.2.1 ∧ f10_of M x 2 = some o.2.2.2.1 ∧ f10_its M y 0 = some s.2.1 ∧ f10_its M y 1 = some s.2.2.1 ∧ f10_its M y 2 = some s.2.2.2.1 ∧
  f10_setting M 0 = some (g 0) ∧ f10_setting M 1 = some (g 1) ∧ f10_setting M 2 = some (g 2) ∧ f10_setting M 4 = some (g 4)
theorem m_lies {M : gMo} {x y : Int32} {g : Nat → Int32} {o : gOd} {s : gSh} (h : m_rd M x y g o s) : f10_lies M x y = some (c_lie g o s) := by
  obtain ⟨h0, h1, h2, h3, h4, h5, h6, h7, h8, h9⟩ := h
  unfold f10_lies f10_lies_63 c_lie
  simp only [h0, h1, h2, h3, h4, h5, h9, q_b1_s]
  by_cases c0 : o.2.1 = s.2.1
  · rw [if_pos c0, if_neg (not_not_intro c0)]
    have turn : ¬ (o.2.2.1 ≤ s.2.2.1 ∧ o.2.2.2.1 ≤ s.2.2.2.1) → (if ¬ g 4 = 1 then some (-1 : Int32) else if s.2.2.1 < o.2.2.2.1 then some (-1) else if s.2.2.2.1 < o.2.2.1 then some (-1) else some 1) = some (if o.2.2.1 ≤ s.2.2.1 ∧ o.2.2.2.1 ≤ s.2.2.2.1 then 0 else if g 4 = 1 ∧ o.2.2.2.1 ≤ s.2.2.1 ∧ o.2.2.1 ≤ s.2.2.2.1 then 1 else -1) := by
      intro hn
      rw [if_neg hn]
      by_cases d1 : g 4 = 1
      · rw [if_neg (fun q => q d1)]
        by_cases d2 : s.2.2.1 < o.2.2.2.1
        · rw [if_pos d2, if_neg (fun q => (i_nle _ _).mpr q.2.1 d2)]
        · rw [if_neg d2]
          by_cases d3 : s.2.2.2.1 < o.2.2.1
          · rw [if_pos d3, if_neg (fun q => (i_nle _ _).mpr q.2.2 d3)]
          · rw [if_neg d3, if_pos ⟨d1, (i_nle _ _).mp d2, (i_nle _ _).mp d3⟩]
      · rw [if_pos d1, if_neg (fun q => d1 q.1)]
    by_cases c1 : s.2.2.1 < o.2.2.1
    · rw [if_pos c1]
      exact turn (fun q => (i_nle _ _).mpr q.1 c1)
    · rw [if_neg c1]
      by_cases c2 : s.2.2.2.1 < o.2.2.2.1
      · rw [if_pos c2]
        exact turn (fun q => (i_nle _ _).mpr q.2 c2)
      · rw [if_neg c2, if_pos ⟨(i_nle _ _).mp c1, (i_nle _ _).mp c2⟩]
  · rw [if_neg c0, if_pos c0]
theorem m_piece {M : gMo} {x y : Int32} {g : Nat → Int32} {o : gOd} {s : gSh} (h : m_rd M x y g o s) : f10_piece M x y 0 0 = some (c_bw g o s) ∧ f10_piece M x y 0 1 = some (c_bh g o s) ∧ f10_piece M x y 1 0 = some (c_aw g o s) ∧ f10_piece M x y 1 1 = some (c_ah g o s) := by
  have hl := m_lies h
  obtain ⟨h0, h1, h2, h3, h4, h5, h6, h7, h8, h9⟩ := h
  have e1 : ¬ (1 : Int32) = 0 := by decide
  unfold f10_piece f10_piece_15 f10_piece_29 f10_piece_46 f10_piece_81 c_bw c_bh c_aw c_ah c_pw c_ph
  simp only [hl, h0, h1, h2, h3, h4, h5, h6, h7, h8, h9, q_b1_s]
  by_cases c1 : c_lie g o s = 1
  · by_cases c2 : g 2 = 1
    · simp only [c1, c2, e1, not_true, not_false_iff, if_true, if_false, h1, h2, q_b1_s, and_self]
    · simp only [c1, c2, e1, not_true, not_false_iff, if_true, if_false, h1, h2, q_b1_s, and_self]
  · by_cases c2 : g 2 = 1
    · simp only [c1, c2, e1, not_true, not_false_iff, if_true, if_false, h1, h2, q_b1_s, and_self]
    · simp only [c1, c2, e1, not_true, not_false_iff, if_true, if_false, h1, h2, q_b1_s, and_self]
theorem m_keep2 (l u v : Int32) : (if u < l then some (0 : Int32) else if v < l then some (0 : Int32) else some 1) = some (if l ≤ u ∧ l ≤ v then 1 else 0) := by
  by_cases c1 : u < l
  · rw [if_pos c1, if_neg (fun q => (i_nle _ _).mpr q.1 c1)]
  · rw [if_neg c1]
    by_cases c2 : v < l
    · rw [if_pos c2, if_neg (fun q => (i_nle _ _).mpr q.2 c2)]
    · rw [if_neg c2, if_pos ⟨(i_nle _ _).mp c1, (i_nle _ _).mp c2⟩]
theorem m_keeps {M : gMo} {x y : Int32} {g : Nat → Int32} {o : gOd} {s : gSh} (h : m_rd M x y g o s) : f10_keeps M x y 0 = some (if g 1 ≤ c_bw g o s ∧ g 1 ≤ c_bh g o s then 1 else 0) ∧ f10_keeps M x y 1 = some (if g 1 ≤ c_aw g o s ∧ g 1 ≤ c_ah g o s then 1 else 0) := by
  obtain ⟨p1, p2, p3, p4⟩ := m_piece h
  obtain ⟨h0, h1, h2, h3, h4, h5, h6, h7, h8, h9⟩ := h
  unfold f10_keeps
  simp only [p1, p2, p3, p4, h7, q_b1_s, m_keep2, and_self]
theorem m_ar2 (u v : Int32) : (if u ≤ 0 then some (0 : Int32) else if v ≤ 0 then some (0 : Int32) else some (u * v)) = some (c_ar u v) := by
  unfold c_ar
  simp only [i_nlt]
  by_cases c1 : u ≤ 0
  · rw [if_pos c1, if_neg (fun q => q.1 c1)]
  · rw [if_neg c1]
    by_cases c2 : v ≤ 0
    · rw [if_pos c2, if_neg (fun q => q.2 c2)]
    · rw [if_neg c2, if_pos ⟨c1, c2⟩]
theorem m_area {M : gMo} {x y : Int32} {g : Nat → Int32} {o : gOd} {s : gSh} (h : m_rd M x y g o s) : f10_pieceArea M x y 0 = some (c_ba g o s) ∧ f10_pieceArea M x y 1 = some (c_aa g o s) := by
  obtain ⟨p1, p2, p3, p4⟩ := m_piece h
  unfold f10_pieceArea c_ba c_aa
  simp only [p1, p2, p3, p4, q_b1_s, m_ar2, and_self]
theorem m_kept {M : gMo} {x y : Int32} {g : Nat → Int32} {o : gOd} {s : gSh} (h : m_rd M x y g o s) : f10_keptArea M x y = some (c_kept g o s) := by
  obtain ⟨p1, p2⟩ := m_keeps h
  obtain ⟨a1, a2⟩ := m_area h
  unfold f10_keptArea f10_keptArea_21 c_kept
  simp only [p1, p2, a1, a2, q_b1_s, q_b0]
  by_cases c1 : g 1 ≤ c_bw g o s ∧ g 1 ≤ c_bh g o s
  · by_cases c2 : g 1 ≤ c_aw g o s ∧ g 1 ≤ c_ah g o s
    · simp only [c1, c2, and_self, not_true, if_false, if_true]
    · simp only [c1, c2, and_self, not_true, not_false_iff, if_false, if_true]
  · by_cases c2 : g 1 ≤ c_aw g o s ∧ g 1 ≤ c_ah g o s
    · simp only [c1, c2, and_self, not_true, not_false_iff, if_false, if_true]
    · simp only [c1, c2, and_self, not_true, not_false_iff, if_false, if_true]
theorem m_scr {M : gMo} {x y : Int32} {g : Nat → Int32} {o : gOd} {s : gSh} (h : m_rd M x y g o s) : f10_scrapArea M x y = some (c_scr g o s) := by
  obtain ⟨a1, a2⟩ := m_area h
  unfold f10_scrapArea c_scr
  simp only [a1, a2, m_kept h, q_b1_s]
/-! sheets and orders of the row -/
theorem m_its {a : aSt} {M : gMo} (ha : a_ok a) (hm : r_m a (M.1 0)) {r p : Nat} {s : gSh} (hr : r < 4) (hs : (a.2.1 r)[p]? = some s) : f10_its M s.1 0 = some s.2.1 ∧ f10_its M s.1 1 = some s.2.2.1 ∧ f10_its M s.1 2 = some s.2.2.2.1 ∧ f10_its M s.1 3 = some (nI r) ∧ f10_its M s.1 4 = some s.2.2.2.2 ∧ f10_area M s.1 = some (s.2.2.1 * s.2.2.2.1) := by
  obtain ⟨hn, ⟨m, hm2, hk4⟩, hos⟩ := ha
  obtain ⟨hsk, k, hk, e⟩ := hk4.2.2.2 r p s hr hs
  have hk2 : k < 200 := by have := hk4.1; omega
  obtain ⟨c0, c1, c2, c3, c4⟩ := hm.2.2.1 r p s hr hs k e hk2
  rw [e, l1, l2, l3, l4, ← nI_0, f10_its_e M (by omega), f10_its_e M (by omega), f10_its_e M (by omega), f10_its_e M (by omega), f10_its_e M (by omega), f10_area_e M hk2, c1, c2, c3, c4]
  exact ⟨congrArg some c0, rfl, rfl, rfl, rfl, rfl⟩
theorem m_of {os : List gOd} {M : gMo} (hos : r_os os) (hm : m_od os (M.1 0)) {k : Nat} {o : gOd} (hk : os[k]? = some o) : f10_of M (nI k) 0 = some o.2.1 ∧ f10_of M (nI k) 1 = some o.2.2.1 ∧ f10_of M (nI k) 2 = some o.2.2.2.1 ∧ f10_of M (nI k) 3 = some o.2.2.2.2.1 ∧ f10_of M (nI k) 4 = some o.2.2.2.2.2.1 ∧ (o.2.2.2.2.2.1 = 1 → f10_of M (nI k) 5 = some o.2.2.2.2.2.2.1 ∧ f10_of M (nI k) 6 = some o.2.2.2.2.2.2.2) := by
  have hk2 : k < 12 := by have := (List.getElem?_eq_some_iff.mp hk).1; have := hos.1; omega
  obtain ⟨c0, c1, c2, c3, c4, c5⟩ := hm.2.1 k o hk
  rw [l1, l2, l3, l4, l5, l6, ← nI_0, f10_of_e M (by omega), f10_of_e M (by omega), f10_of_e M (by omega), f10_of_e M (by omega), f10_of_e M (by omega), f10_of_e M (by omega), f10_of_e M (by omega), c1, c2, c3, c4]
  exact ⟨congrArg some c0, rfl, rfl, rfl, rfl, fun q => ⟨congrArg some (c5 q).1, congrArg some (c5 q).2⟩⟩
theorem m_set {g : Nat → Int32} {M : gMo} (h : m_nu g (M.1 0)) {k : Nat} (hk : k < 5) : f10_setting M (nI k) = some (g k) := by
  rw [f10_set_e M hk, h.2.2.2.2.2.2.2.2 k hk]
theorem m_rd_of {a : aSt} {M : gMo} (ha : a_ok a) (hm : r_m a (M.1 0)) {r p k : Nat} {s : gSh} {o : gOd} (hr : r < 4) (hs : (a.2.1 r)[p]? = some s) (hk : a.2.2[k]? = some o) : m_rd M (nI k) s.1 a.1 o s := by
  obtain ⟨a0, a1, a2, -⟩ := m_its ha hm hr hs
  obtain ⟨b0, b1, b2, -⟩ := m_of ha.2.2 hm.2.2.2.2 hk
  exact ⟨b0, b1, b2, a0, a1, a2, m_set (k := 0) hm.1 (by omega), m_set (k := 1) hm.1 (by omega), m_set (k := 2) hm.1 (by omega), m_set (k := 4) hm.1 (by omega)⟩
theorem m_rk.fr {L : Nat → List gSh} {f : Nat → Int32} (h : m_rk L f) {r : Nat} (hr : r < 4) {i : Nat} {x : gSh} (hx : (L r).reverse[i]? = some x) : f (14 + 9 * r + 1 + i) = x.1 := by
  have hi : i < (L r).length := by have := (List.getElem?_eq_some_iff.mp hx).1; rwa [List.length_reverse] at this
  rw [List.getElem?_reverse hi] at hx
  have := (h r hr).2 _ x hx
  rw [show (L r).length - 1 - ((L r).length - 1 - i) = i by omega] at this
  exact this
theorem m_rk_mk {L : Nat → List gSh} {f : Nat → Int32} (h : ∀ r, r < 4 → f (14 + 9 * r) = nI (L r).length ∧ ∀ i x, (L r).reverse[i]? = some x → f (14 + 9 * r + 1 + i) = x.1) : m_rk L f := by
  intro r hr
  refine ⟨(h r hr).1, fun p s hs => (h r hr).2 _ s ?_⟩
  have hp : p < (L r).length := (List.getElem?_eq_some_iff.mp hs).1
  rw [List.getElem?_reverse (by omega), show (L r).length - 1 - ((L r).length - 1 - p) = p by omega]
  exact hs
theorem m_before_l {M : gMo} {x : Int32} {r : Nat} (hr : r < 4) (hw : f10_its M x 3 = some (nI r)) {q : Nat} (hq : q < 8) (he : M.1 0 (14 + 9 * r + 1 + q) = x) (hb : ∀ i, i < q → M.1 0 (14 + 9 * r + 1 + i) ≠ x) : ∀ (m n i : Nat), i + m = q → m < n → f10_before_2 n M x (nI i) = some (nI q) := by
  intro m
  induction m with
  | zero =>
    intro n i hi hn
    obtain ⟨n, rfl⟩ : ∃ k, n = k + 1 := ⟨n - 1, by omega⟩
    obtain rfl : i = q := by omega
    rw [f10_before_2, hw, q_b1_s, f10_stand_e M hr (by omega), q_b1_s, if_pos he]
  | succ m ih =>
    intro n i hi hn
    obtain ⟨n, rfl⟩ : ∃ k, n = k + 1 := ⟨n - 1, by omega⟩
    rw [f10_before_2, hw, q_b1_s, f10_stand_e M hr (by omega), q_b1_s, if_neg (hb i (by omega)), show nI i + 1 = nI (i + 1) from nI_add i 1]
    exact ih n (i + 1) (by omega) (by omega)
theorem m_before {a : aSt} {M : gMo} (ha : a_ok a) (hm : r_m a (M.1 0)) {r p : Nat} {s : gSh} (hr : r < 4) (hs : (a.2.1 r)[p]? = some s) : f10_before M s.1 = some (nI ((a.2.1 r).length - 1 - p)) := by
  have hi := (m_its ha hm hr hs).2.2.2.1
  have hfr : ∀ {i : Nat} {x : gSh}, (a.2.1 r).reverse[i]? = some x → M.1 0 (14 + 9 * r + 1 + i) = x.1 := fun h => m_rk.fr hm.2.1 hr h
  obtain ⟨hn, ⟨m, hm2, hk4⟩, hos⟩ := ha
  have hp : p < (a.2.1 r).length := (List.getElem?_eq_some_iff.mp hs).1
  have hl := hk4.2.1 r hr
  unfold f10_before
  rw [← nI_0]
  refine m_before_l hr hi (by omega) ((hm.2.1 r hr).2 p s hs) (fun i hi2 q => ?_) _ 300 0 (Nat.zero_add _) (by omega)
  have hx : (a.2.1 r).reverse[i]? = some ((a.2.1 r)[(a.2.1 r).length - 1 - i]) := by
    rw [List.getElem?_reverse (by omega)]
    exact List.getElem?_eq_getElem (by omega)
  rw [hfr hx] at q
  have := (hk4.2.2.1 r r _ _ _ _ hr hr (List.getElem?_eq_getElem (by omega)) hs q).2
  omega
theorem m_isSheet_y {a : aSt} {M : gMo} (ha : a_ok a) (hm : r_m a (M.1 0)) {r p : Nat} {s : gSh} (hr : r < 4) (hs : (a.2.1 r)[p]? = some s) : f10_isSheet M s.1 = some 1 := by
  have hi := (m_its ha hm hr hs).2.2.2.1
  have h8 : M.1 0 8 = a.1 12 := hm.1.2.2.2.2.2.2.2.1
  obtain ⟨hn, ⟨m, hm2, hk4⟩, hos⟩ := ha
  obtain ⟨hsk, k, hk, e⟩ := hk4.2.2.2 r p s hr hs
  have := hk4.1
  unfold f10_isSheet
  rw [f10_in_e, q_b1_s, hi, show M.1 0 (8 : Int32).toNatClampNeg = nI m from h8.trans hm2, show nI m - (1 : Int32) = nI (m - 1) from pk_sub (b := 1) (by omega), e, if_pos (show 0 ≤ nI k ∧ nI k ≤ nI (m - 1) from ⟨nI_pos' (by omega), (nI_leI (by omega) (by omega)).mpr (by omega)⟩), if_neg (by decide), q_b1_s, if_neg (nI_pos (by omega))]
theorem m_isSheet_n {a : aSt} {M : gMo} (ha : a_ok a) (hm : r_m a (M.1 0)) {x : Int32} (hx : ∀ (r p : Nat) (v : gSh), r < 4 → (a.2.1 r)[p]? = some v → v.1 ≠ x) : f10_isSheet M x = some 0 := by
  have h8 : M.1 0 8 = a.1 12 := hm.1.2.2.2.2.2.2.2.1
  obtain ⟨hn, ⟨m, hm2, hk4⟩, hos⟩ := ha
  obtain ⟨m3, hm3, hno⟩ := hm.2.2.2.1
  have hle := hk4.1
  unfold f10_isSheet
  rw [f10_in_e, q_b1_s, show M.1 0 (8 : Int32).toNatClampNeg = nI m from h8.trans hm2]
  by_cases c : 0 ≤ x ∧ x ≤ nI m - 1
  · rw [if_pos c, if_neg (by decide)]
    obtain ⟨j, hj, rfl⟩ := nI_of (Int32.not_lt.mpr c.1)
    have hjm : j < m := by
      have c2 := c.2
      by_cases m0 : m = 0
      · subst m0
        exact absurd (Int32.le_trans c.1 c2) (by decide)
      · rw [l1, pk_sub (by omega), nI_leI (by omega) (by omega)] at c2
        omega
    rw [l3, f10_its_e M (by omega), q_b1_s, hno j (by
      rw [hm2] at hm3
      have := hm3
      by_cases hb : m3 < 2 ^ 31
      · rw [nI_eq (by omega) hb] at this; omega
      · omega) (fun r p v hr e => hx r p v hr e), if_pos (by decide)]
  · rw [if_neg c, if_pos rfl]
