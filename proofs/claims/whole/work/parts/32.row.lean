/-! THE REFERENCE'S ROW: what a change of a cell leaves -/
theorem g_ma_z (M : gMo) (k : Nat) (x : Int32) : (g_ma M 0 k x).1 0 = va_up (M.1 0) k x := rfl
def nc (k : Nat) : Nat := if k < 5 then 9 + k else if k < 12 then k - 5 else 8
theorem nc_inj {k j : Nat} (hk : k < 13) (hj : j < 13) (h : nc k = nc j) : k = j := by
  unfold nc at h
  split at h <;> split at h <;> (try split at h) <;> (try split at h) <;> omega
theorem nc_lt {k : Nat} (hk : k < 13) : nc k < 14 ∧ nc k ≠ 7 := by
  unfold nc
  split
  · omega
  · split <;> omega
theorem m_nu_iff {g f : Nat → Int32} : m_nu g f ↔ ∀ k, k < 13 → f (nc k) = g k := by
  constructor
  · rintro ⟨h0, h1, h2, h3, h4, h5, h6, h7, h8⟩ k hk
    unfold nc
    by_cases c : k < 5
    · rw [if_pos c]; exact h8 k c
    · rw [if_neg c]
      by_cases c2 : k < 12
      · rw [if_pos c2]
        have : k = 5 ∨ k = 6 ∨ k = 7 ∨ k = 8 ∨ k = 9 ∨ k = 10 ∨ k = 11 := by omega
        rcases this with rfl | rfl | rfl | rfl | rfl | rfl | rfl
        · exact h0
        · exact h1
        · exact h2
        · exact h3
        · exact h4
        · exact h5
        · exact h6
      · rw [if_neg c2]
        obtain rfl : k = 12 := by omega
        exact h7
  · intro h
    refine ⟨h 5 (by omega), h 6 (by omega), h 7 (by omega), h 8 (by omega), h 9 (by omega), h 10 (by omega), h 11 (by omega), h 12 (by omega), fun k hk => ?_⟩
    have := h k (by omega)
    unfold nc at this
    rw [if_pos hk] at this
    exact this
theorem m_nu.up {g f : Nat → Int32} (h : m_nu g f) {k : Nat} (hk : k < 13) (v : Int32) : m_nu (va_up g k v) (va_up f (nc k) v) := by
  rw [m_nu_iff] at h ⊢
  intro j hj
  rw [q_up, q_up]
  by_cases c : j = k
  · subst c; rw [if_pos rfl, if_pos rfl]
  · rw [if_neg c, if_neg (fun q => c (nc_inj hj hk q))]
    exact h j hj
theorem m_nu.cg {g f f2 : Nat → Int32} (h : m_nu g f) (e : ∀ k, k < 14 → k ≠ 7 → f2 k = f k) : m_nu g f2 := by
  rw [m_nu_iff] at h ⊢
  intro k hk
  rw [e _ (nc_lt hk).1 (nc_lt hk).2]
  exact h k hk
theorem m_nu.cu {g f : Nat → Int32} (h : m_nu g f) {c : Nat} (v : Int32) (hc : 14 ≤ c ∨ c = 7) : m_nu g (va_up f c v) := h.cg (fun k h1 h2 => va_up_ne _ _ (by omega))
/-- one rack's cells -/
def m_r1 (l : List gSh) (f : Nat → Int32) (r : Nat) : Prop := f (14 + 9 * r) = nI l.length ∧ ∀ i x, l.reverse[i]? = some x → f (14 + 9 * r + 1 + i) = x.1
theorem m_rk_iff {L : Nat → List gSh} {f : Nat → Int32} : m_rk L f ↔ ∀ r, r < 4 → m_r1 (L r) f r := ⟨fun h r hr => ⟨(h r hr).1, fun i x hx => h.fr hr hx⟩, fun h => m_rk_mk h⟩
theorem m_r1.cg {l : List gSh} {f f2 : Nat → Int32} {r : Nat} (hr : r < 4) (hl : l.length ≤ 8) (h : m_r1 l f r) (e : ∀ k, 14 + 9 * r ≤ k → k < 14 + 9 * r + 9 → f2 k = f k) : m_r1 l f2 r := by
  refine ⟨(e _ (by omega) (by omega)).trans h.1, fun i x hx => ?_⟩
  have : i < l.length := by have := (List.getElem?_eq_some_iff.mp hx).1; rwa [List.length_reverse] at this
  rw [e _ (by omega) (by omega)]
  exact h.2 i x hx
/-- the sheets' cells: those in the racks, and that all others are gone -/
def m_w (m : Nat) (L : Nat → List gSh) (f : Nat → Int32) : Prop := m_sh L f ∧ m_no m L f
theorem m_w.cg {m : Nat} {L : Nat → List gSh} {f f2 : Nat → Int32} (hm : m ≤ 200) (h : m_w m L f) (e : ∀ k, 50 ≤ k → k < 1050 → f2 k = f k) : m_w m L f2 := by
  refine ⟨fun r p s hr hs k ek hk => ?_, fun k hk hn => ?_⟩
  · rw [e _ (by omega) (by omega), e _ (by omega) (by omega), e _ (by omega) (by omega), e _ (by omega) (by omega), e _ (by omega) (by omega)]
    exact h.1 r p s hr hs k ek hk
  · rw [e _ (by omega) (by omega)]
    exact h.2 k hk hn
theorem m_w.cu {m : Nat} {L : Nat → List gSh} {f : Nat → Int32} (hm : m ≤ 200) (h : m_w m L f) {c : Nat} (v : Int32) (hc : c < 50 ∨ 1050 ≤ c) : m_w m L (va_up f c v) := h.cg hm (fun k h1 h2 => va_up_ne _ _ (by omega))
/-- one sheet is gone -/
theorem m_w.rem {m : Nat} {L L2 : Nat → List gSh} {f : Nat → Int32} (hm : m ≤ 200) (h : m_w m L f) {j : Nat} (hj : j < 200) (h1 : ∀ r s, r < 4 → s ∈ L2 r → s ∈ L r ∧ s.1 ≠ nI j) (h2 : ∀ r s, r < 4 → s ∈ L r → s.1 ≠ nI j → s ∈ L2 r) : m_w m L2 (va_up f (50 + 5 * j + 3) (-1)) := by
  refine ⟨fun r p s hr hs k ek hk => ?_, fun k hk hn => ?_⟩
  · obtain ⟨g1, g2⟩ := h1 r s hr (List.mem_of_getElem? hs)
    have hkj : k ≠ j := fun q => g2 (by rw [ek, q])
    obtain ⟨p2, hp2⟩ := List.getElem?_of_mem g1
    rw [va_up_ne _ _ (by omega), va_up_ne _ _ (by omega), va_up_ne _ _ (by omega), va_up_ne _ _ (by omega), va_up_ne _ _ (by omega)]
    exact h.1 r p2 s hr hp2 k ek hk
  · by_cases c : k = j
    · subst c; rw [va_up_at]
    · rw [va_up_ne _ _ (by omega)]
      refine h.2 k hk (fun r p s hr hs q => ?_)
      have hne : s.1 ≠ nI j := by rw [q]; exact fun w => c ((nI_eq (by omega) (by omega)).mp w)
      obtain ⟨p2, hp2⟩ := List.getElem?_of_mem (h2 r s hr (List.mem_of_getElem? hs) hne)
      exact hn r p2 s hr hp2 q
theorem m_od.cg {os : List gOd} {f f2 : Nat → Int32} (hl : os.length ≤ 12) (h : m_od os f) (e : ∀ k, k = 7 ∨ (1050 ≤ k ∧ k < 1134) → f2 k = f k) : m_od os f2 := by
  refine ⟨(e 7 (Or.inl rfl)).trans h.1, fun k o hk => ?_, fun k h1 h2 => (e _ (Or.inr (by omega))).trans (h.2.2 k h1 h2)⟩
  have := (List.getElem?_eq_some_iff.mp hk).1
  rw [e _ (Or.inr (by omega)), e _ (Or.inr (by omega)), e _ (Or.inr (by omega)), e _ (Or.inr (by omega)), e _ (Or.inr (by omega)), e _ (Or.inr (by omega)), e _ (Or.inr (by omega))]
  exact h.2.1 k o hk
theorem m_od.cu {os : List gOd} {f : Nat → Int32} (hl : os.length ≤ 12) (h : m_od os f) {c : Nat} (v : Int32) (hc : c ≠ 7 ∧ (c < 1050)) : m_od os (va_up f c v) := h.cg hl (fun k h1 => va_up_ne _ _ (by omega))
/-- all but rack r -/
def m_t (a : aSt) (r : Nat) (f : Nat → Int32) : Prop := m_nu a.1 f ∧ (∀ r2, r2 < 4 → r2 ≠ r → m_r1 (a.2.1 r2) f r2) ∧ (∃ m, a.1 12 = nI m ∧ m ≤ 200 ∧ m_w m a.2.1 f) ∧ m_od a.2.2 f
theorem m_t_iff {a : aSt} {f : Nat → Int32} {r : Nat} (hr : r < 4) (ha : ∃ m, a.1 12 = nI m ∧ m ≤ 200) : r_m a f ↔ m_t a r f ∧ m_r1 (a.2.1 r) f r := by
  constructor
  · rintro ⟨h1, h2, h3, ⟨m, h4, h5⟩, h6⟩
    obtain ⟨m2, e2, e3⟩ := ha
    rw [m_rk_iff] at h2
    refine ⟨⟨h1, fun r2 h _ => h2 r2 h, ⟨m2, e2, e3, h3, ?_⟩, h6⟩, h2 r hr⟩
    intro k hk hn
    refine h5 k ?_ hn
    rw [h4] at e2
    by_cases hb : m < 2 ^ 31
    · have := (nI_eq hb (by omega)).mp e2
      omega
    · omega
  · rintro ⟨⟨h1, h2, ⟨m, h3, h4, h5⟩, h6⟩, h7⟩
    refine ⟨h1, m_rk_iff.mpr (fun r2 hr2 => ?_), h5.1, ⟨m, h3, h5.2⟩, h6⟩
    by_cases c : r2 = r
    · subst c; exact h7
    · exact h2 r2 hr2 c
/-- a cell of rack r has changed -/
theorem m_t.cr {a : aSt} {r : Nat} (hr : r < 4) (hl : ∀ r, r < 4 → (a.2.1 r).length ≤ 8) (ho : a.2.2.length ≤ 12) {f : Nat → Int32} (h : m_t a r f) {c : Nat} (v : Int32) (hc : 14 + 9 * r ≤ c ∧ c < 14 + 9 * r + 9) : m_t a r (va_up f c v) := by
  obtain ⟨h1, h2, ⟨m, h3, h4, h5⟩, h6⟩ := h
  exact ⟨h1.cu v (by omega), fun r2 hr2 hne => (h2 r2 hr2 hne).cg hr2 (hl r2 hr2) (fun k k1 k2 => va_up_ne _ _ (by omega)), ⟨m, h3, h4, h5.cu h4 v (by omega)⟩, h6.cu ho v (by omega)⟩
/-- a number has changed (but 12) -/
theorem m_t.nu {a : aSt} {r : Nat} (hl : ∀ r, r < 4 → (a.2.1 r).length ≤ 8) (ho : a.2.2.length ≤ 12) {f : Nat → Int32} (h : m_t a r f) {k : Nat} (hk : k < 12) (v : Int32) : m_t (va_up a.1 k v, a.2) r (va_up f (nc k) v) := by
  obtain ⟨h1, h2, ⟨m, h3, h4, h5⟩, h6⟩ := h
  have := nc_lt (k := k) (by omega)
  exact ⟨h1.up (by omega) v, fun r2 hr2 hne => (h2 r2 hr2 hne).cg hr2 (hl r2 hr2) (fun k k1 k2 => va_up_ne _ _ (by omega)), ⟨m, (va_up_ne _ _ (by omega)).trans h3, h4, h5.cu h4 v (by omega)⟩, h6.cu ho v (by omega)⟩
/-- a sheet of rack r is gone -/
theorem m_t.rem {a : aSt} {r : Nat} (hl : ∀ r, r < 4 → (a.2.1 r).length ≤ 8) (ho : a.2.2.length ≤ 12) {f : Nat → Int32} (h : m_t a r f) {j : Nat} (hj : j < 200) (l2 : List gSh) (h1 : ∀ s, s ∈ l2 → s ∈ a.2.1 r ∧ s.1 ≠ nI j) (h2 : ∀ s, s ∈ a.2.1 r → s.1 ≠ nI j → s ∈ l2) (h3 : ∀ r2 s, r2 < 4 → r2 ≠ r → s ∈ a.2.1 r2 → s.1 ≠ nI j) : m_t (a.1, va_up a.2.1 r l2, a.2.2) r (va_up f (50 + 5 * j + 3) (-1)) := by
  obtain ⟨g1, g2, ⟨m, g3, g4, g5⟩, g6⟩ := h
  refine ⟨g1.cu _ (by omega), fun r2 hr2 hne => ?_, ⟨m, g3, g4, ?_⟩, g6.cg ho (fun k hk => va_up_ne _ _ (by omega))⟩
  · show m_r1 (va_up a.2.1 r l2 r2) _ r2
    rw [va_up_ne _ _ hne]
    exact (g2 r2 hr2 hne).cg hr2 (hl r2 hr2) (fun k k1 k2 => va_up_ne _ _ (by omega))
  · refine g5.rem g4 hj (fun r2 s hr2 hs => ?_) (fun r2 s hr2 hs hne => ?_)
    · change s ∈ va_up a.2.1 r l2 r2 at hs
      by_cases c : r2 = r
      · subst c; rw [va_up_at] at hs; exact h1 s hs
      · rw [va_up_ne _ _ c] at hs; exact ⟨hs, h3 r2 s hr2 c hs⟩
    · show s ∈ va_up a.2.1 r l2 r2
      by_cases c : r2 = r
      · subst c; rw [va_up_at]; exact h2 s hs hne
      · rw [va_up_ne _ _ c]; exact hs
theorem m_t.cg {a : aSt} {r : Nat} (hr : r < 4) (hl : ∀ r, r < 4 → (a.2.1 r).length ≤ 8) (ho : a.2.2.length ≤ 12) {f f2 : Nat → Int32} (h : m_t a r f) (e : ∀ c, c < 14 + 9 * r ∨ 14 + 9 * r + 9 ≤ c → f2 c = f c) : m_t a r f2 := by
  obtain ⟨h1, h2, ⟨m, h3, h4, h5⟩, h6⟩ := h
  exact ⟨h1.cg (fun k _ _ => e k (by omega)), fun r2 hr2 hne => (h2 r2 hr2 hne).cg hr2 (hl r2 hr2) (fun k k1 k2 => e k (by omega)), ⟨m, h3, h4, h5.cg h4 (fun k _ _ => e k (by omega))⟩, h6.cg ho (fun k _ => e k (by omega))⟩
theorem n0 : (0 : Int32).toNatClampNeg = 0 := by decide
theorem n1 : (1 : Int32).toNatClampNeg = 1 := by decide
theorem n2 : (2 : Int32).toNatClampNeg = 2 := by decide
theorem n3 : (3 : Int32).toNatClampNeg = 3 := by decide
theorem n4 : (4 : Int32).toNatClampNeg = 4 := by decide
theorem n5 : (5 : Int32).toNatClampNeg = 5 := by decide
theorem n6 : (6 : Int32).toNatClampNeg = 6 := by decide
theorem n7 : (7 : Int32).toNatClampNeg = 7 := by decide
theorem n8 : (8 : Int32).toNatClampNeg = 8 := by decide
