/-! racks as lists, the rearmost sheet first -/
def r_sl (L : Nat → List gSh) (s : Nat → Option gSh) : Prop := ∀ r p, r < 4 → p < 8 → s (8 * r + p) = (L r)[p]?
theorem r_sl.at {L : Nat → List gSh} {s : Nat → Option gSh} (h : r_sl L s) {k : Nat} (hk : k < 32) : s k = (L (k / 8))[k % 8]? := by
  have := h (k / 8) (k % 8) (by omega) (by omega)
  rw [← this]
  congr 1
  omega
theorem r_cnt {L : Nat → List gSh} {s : Nat → Option gSh} (h : r_sl L s) {r : Nat} (hr : r < 4) (hl : (L r).length ≤ 8) : ∀ m, m ≤ 32 → a_cnt s r m = (L r).length - ((32 - m) - 8 * r) := by
  intro m
  induction m with
  | zero => intro _; rw [a_cnt]; omega
  | succ m ih =>
    intro hm
    rw [a_cnt, ih (by omega)]
    by_cases c : (31 - m) / 8 = r
    · have e := h r (31 - m - 8 * r) hr (by omega)
      rw [show 8 * r + (31 - m - 8 * r) = 31 - m by omega] at e
      rw [e]
      by_cases c2 : 31 - m - 8 * r < (L r).length
      · rw [if_pos ⟨c, by simp [c2]⟩]
        omega
      · rw [if_neg (fun q => by
          have := q.2
          rw [List.getElem?_eq_none (by omega)] at this
          cases this)]
        omega
    · rw [if_neg (fun q => c q.1)]
      omega
theorem r_filled {L : Nat → List gSh} {z : gSt} (h : r_sl L z.2.1) {r : Nat} (hr : r < 4) (hl : (L r).length ≤ 8) : f5_filled z (nI r) = some (nI (L r).length) := by
  have e := f5_filled_l z r hr 32 70 0 (by omega) (by omega) (by omega)
  rw [r_cnt h hr hl 32 (by omega)] at e
  unfold f5_filled
  rw [← nI_0]
  simp only [Nat.sub_self, Nat.zero_add] at e
  rw [e]
  congr 2
  omega
theorem r_before {L : Nat → List gSh} {z : gSt} (h : r_sl L z.2.1) {r p : Nat} (hr : r < 4) (hl : (L r).length ≤ 8) (hp : p < (L r).length) : f5_sheetsBefore z (nI (8 * r + p)) = some (nI ((L r).length - 1 - p)) := by
  unfold f5_sheetsBefore
  simp (disch := omega) only [l8, l1, pk_div, pk_rem, show (8 * r + p) / 8 = r by omega, show (8 * r + p) % 8 = p by omega]
  rw [r_filled h hr hl, q_b1_s]
  simp (disch := omega) only [pk_mul, pk_sub]
  congr 2
  omega
theorem r_full {L : Nat → List gSh} {z : gSt} (h : r_sl L z.2.1) {r : Nat} (hr : r < 4) (hl : (L r).length ≤ 8) : f5_isFull z (nI r) = some (if (L r).length < 8 then 0 else 1) := by
  unfold f5_isFull
  rw [r_filled h hr hl, q_b1_s]
  simp (disch := omega) only [l8, nI_ltI]
  split <;> rfl
theorem r_room {L : Nat → List gSh} {z : gSt} (h : r_sl L z.2.1) {r m : Nat} (hr : r < 4) (hl : (L r).length ≤ 8) (hm : z.1 12 = nI m) (hm2 : m ≤ 200) : f5_hasRoom z (nI r) = some (if m < 200 ∧ (L r).length < 8 then 1 else 0) := by
  unfold f5_hasRoom
  rw [hm, r_filled h hr hl, q_b1_s]
  simp (disch := omega) only [l8, l200, nI_leI]
  by_cases c1 : 200 ≤ m
  · rw [if_pos c1, if_neg (by omega)]
  · rw [if_neg c1]
    by_cases c2 : 8 ≤ (L r).length
    · rw [if_pos c2, if_neg (by omega)]
    · rw [if_neg c2, if_pos (by omega)]
theorem r_inslot (z : gSt) {k : Nat} (hk : k < 32) : f5_inSlot z (nI k) = some (z.2.1 k) := by
  unfold f5_inSlot
  simp (disch := omega) only [l32, nI_leI, q_lt0, q_in, nI_clamp, if_false]
  rw [if_neg (by omega), if_pos hk]
  cases z.2.1 k <;> rfl
theorem r_inslot_m (z : gSt) : f5_inSlot z (-5) = some none := by
  unfold f5_inSlot
  rw [if_pos (by decide)]
/-- the slot of a sheet, by its number -/
def a_find (s : Nat → Option gSh) (x : Int32) : Nat → Option Nat
  | 0 => none
  | m + 1 => match s (31 - m) with
    | none => a_find s x m
    | some v => if v.1 = x then some (31 - m) else a_find s x m
theorem f5_slotOf_l (z : gSt) (x : Int32) : ∀ (m n : Nat), m ≤ 32 → m < n → f5_slotOf_2 n z x (nI (32 - m)) = some (match a_find z.2.1 x m with | none => -5 | some k => nI k) := by
  intro m
  induction m with
  | zero =>
    intro n _ hn
    obtain ⟨n, rfl⟩ : ∃ k, n = k + 1 := ⟨n - 1, by omega⟩
    rw [f5_slotOf_2]
    simp (disch := omega) only [l32, nI_leI, Nat.sub_zero, Nat.le_refl, if_true]
    rfl
  | succ m ih =>
    intro n hm hn
    obtain ⟨n, rfl⟩ : ∃ k, n = k + 1 := ⟨n - 1, by omega⟩
    rw [f5_slotOf_2]
    have hk : 32 - (m + 1) = 31 - m := by omega
    have hk2 : 31 - m + 1 = 32 - m := by omega
    rw [hk]
    simp (disch := omega) only [l32, l1, nI_leI, nI_clamp, q_in, nI_add, hk2]
    have i1 := ih n (by omega) (by omega)
    rw [if_neg (by omega), if_pos (by omega), a_find]
    cases hs : z.2.1 (31 - m) with
    | none => rw [q_oc_n, i1]
    | some v =>
      rw [q_oc_s]
      by_cases c : v.1 = x
      · simp only [c, not_true, if_false, if_true]
      · simp only [c, not_false_iff, if_true, if_false, i1]
theorem a_find_some {s : Nat → Option gSh} {x : Int32} : ∀ {m k : Nat}, m ≤ 32 → a_find s x m = some k → 32 - m ≤ k ∧ k < 32 ∧ ∃ v, s k = some v ∧ v.1 = x := by
  intro m
  induction m with
  | zero => intro k _ h; cases h
  | succ m ih =>
    intro k hm h
    rw [a_find] at h
    cases hs : s (31 - m) with
    | none =>
      rw [hs] at h
      have := ih (by omega) h
      exact ⟨by omega, this.2⟩
    | some v =>
      rw [hs] at h
      by_cases c : v.1 = x
      · simp only [c, if_true] at h
        cases h
        exact ⟨by omega, by omega, v, hs, c⟩
      · simp only [c, if_false] at h
        have := ih (by omega) h
        exact ⟨by omega, this.2⟩
theorem a_find_none {s : Nat → Option gSh} {x : Int32} : ∀ {m : Nat}, m ≤ 32 → a_find s x m = none → ∀ k v, 32 - m ≤ k → k < 32 → s k = some v → v.1 ≠ x := by
  intro m
  induction m with
  | zero => intro _ _ k v h1 h2; omega
  | succ m ih =>
    intro hm h k v h1 h2 hs
    rw [a_find] at h
    by_cases e : k = 31 - m
    · subst e
      rw [hs] at h
      intro c
      simp only [c, if_true] at h
      cases h
    · cases hs2 : s (31 - m) with
      | none =>
        rw [hs2] at h
        exact ih (by omega) h k v (by omega) h2 hs
      | some v2 =>
        rw [hs2] at h
        by_cases c : v2.1 = x
        · simp only [c, if_true] at h
          cases h
        · simp only [c, if_false] at h
          exact ih (by omega) h k v (by omega) h2 hs
/-- numbers tell sheets apart -/
def r_un (L : Nat → List gSh) : Prop := ∀ (r r' p p' : Nat) (x x' : gSh), r < 4 → r' < 4 → (L r)[p]? = some x → (L r')[p']? = some x' → x.1 = x'.1 → r = r' ∧ p = p'
theorem r_slot {L : Nat → List gSh} {z : gSt} (h : r_sl L z.2.1) (hu : r_un L) {r p : Nat} {x : gSh} (hr : r < 4) (hl : (L r).length ≤ 8) (hx : (L r)[p]? = some x) : f5_slotOf z x.1 = some (nI (8 * r + p)) := by
  have hp : p < (L r).length := (List.getElem?_eq_some_iff.mp hx).1
  have hs : z.2.1 (8 * r + p) = some x := (h r p hr (by omega)).trans hx
  have e := f5_slotOf_l z x.1 32 70 (by omega) (by omega)
  unfold f5_slotOf
  rw [← nI_0]
  rw [Nat.sub_self] at e
  rw [e]
  cases hf : a_find z.2.1 x.1 32 with
  | none => exact absurd rfl (a_find_none (by omega) hf _ _ (by omega) (by omega) hs)
  | some k =>
    obtain ⟨-, hk, v, hv, hvx⟩ := a_find_some (by omega) hf
    rw [h.at hk] at hv
    obtain ⟨e1, e2⟩ := hu _ _ _ _ _ _ (by omega) hr hv hx hvx
    show some (nI k) = _
    congr 2
    omega
theorem r_slot_none {L : Nat → List gSh} {z : gSt} (h : r_sl L z.2.1) (hl : ∀ r, r < 4 → (L r).length ≤ 8) {x : Int32} (hx : ∀ (r p : Nat) (v : gSh), r < 4 → (L r)[p]? = some v → v.1 ≠ x) : f5_slotOf z x = some (-5) := by
  have e := f5_slotOf_l z x 32 70 (by omega) (by omega)
  unfold f5_slotOf
  rw [← nI_0]
  rw [Nat.sub_self] at e
  rw [e]
  cases hf : a_find z.2.1 x 32 with
  | none => rfl
  | some k =>
    obtain ⟨-, hk, v, hv, hvx⟩ := a_find_some (by omega) hf
    rw [h.at hk] at hv
    exact absurd hvx (hx _ _ _ (by omega) hv)
