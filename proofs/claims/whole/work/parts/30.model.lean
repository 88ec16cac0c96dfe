/-! THE REFERENCE: its reads, by places of the row -/
theorem m_lit (M : gMo) (k : Nat) (hk : k < 2 ^ 31) : M.1 0 (nI k).toNatClampNeg = M.1 0 k := by rw [nI_clamp hk]
theorem f10_its_e (M : gMo) {s w : Nat} (h : 50 + 5 * s + w < 1134) : f10_its M (nI s) (nI w) = some (M.1 0 (50 + 5 * s + w)) := by
  unfold f10_its
  simp (disch := omega) only [l50, l5, pk_mul, nI_add, q_in, nI_clamp]
  rw [if_pos h]
theorem f10_of_e (M : gMo) {k w : Nat} (h : 1050 + 7 * k + w < 1134) : f10_of M (nI k) (nI w) = some (M.1 0 (1050 + 7 * k + w)) := by
  unfold f10_of
  simp (disch := omega) only [l1050, l7, pk_mul, nI_add, q_in, nI_clamp]
  rw [if_pos h]
theorem f10_many_e (M : gMo) {r : Nat} (h : r < 4) : f10_many M (nI r) = some (M.1 0 (14 + 9 * r)) := by
  unfold f10_many
  simp (disch := omega) only [l14, l9, pk_mul, nI_add, q_in, nI_clamp]
  rw [if_pos (by omega)]
theorem f10_stand_e (M : gMo) {r p : Nat} (h : r < 4) (hp : p < 9) : f10_standing M (nI r) (nI p) = some (M.1 0 (14 + 9 * r + 1 + p)) := by
  unfold f10_standing
  simp (disch := omega) only [l14, l9, l1, pk_mul, nI_add, q_in, nI_clamp]
  rw [if_pos (by omega)]
theorem f10_set_e (M : gMo) {k : Nat} (h : k < 5) : f10_setting M (nI k) = some (M.1 0 (9 + k)) := by
  unfold f10_setting
  simp (disch := omega) only [l9, nI_add, q_in, nI_clamp]
  rw [if_pos (by omega)]
theorem f10_area_e (M : gMo) {s : Nat} (h : s < 200) : f10_area M (nI s) = some (M.1 0 (50 + 5 * s + 1) * M.1 0 (50 + 5 * s + 2)) := by
  unfold f10_area
  rw [l1, l2, f10_its_e M (by omega), q_b1_s, f10_its_e M (by omega), q_b1_s]
theorem f10_in_e (x : Int32) (a b : Int32) : f10_in x a b = some (if a ≤ x ∧ x ≤ b then 1 else 0) := by
  have nl : ∀ a b : Int32, ¬ a < b ↔ b ≤ a := fun a b => Int32.not_lt
  unfold f10_in
  by_cases c1 : x < a
  · rw [if_pos c1, if_neg (fun q => (nl _ _).mpr q.1 c1)]
  · rw [if_neg c1]
    by_cases c2 : b < x
    · rw [if_pos c2, if_neg (fun q => (nl _ _).mpr q.2 c2)]
    · rw [if_neg c2, if_pos ⟨(nl _ _).mp c1, (nl _ _).mp c2⟩]
theorem g_ma_0 (M : gMo) (k j : Nat) (x : Int32) : (g_ma M 0 k x).1 0 j = if j = k then x else M.1 0 j := by
  simp [g_ma, va_up]
theorem g_ma_2 (M : gMo) (a k : Nat) (x : Int32) : (g_ma M a k x).2 = M.2 := rfl
/-- only the row 'now' differs -/
def m_eq (M M2 : gMo) : Prop := M2.2 = M.2 ∧ ∀ a, a ≠ 0 → M2.1 a = M.1 a
theorem m_eq.rf {M : gMo} : m_eq M M := ⟨rfl, fun _ _ => rfl⟩
theorem m_eq.tr {M M2 M3 : gMo} (h : m_eq M M2) (h2 : m_eq M2 M3) : m_eq M M3 := ⟨h2.1.trans h.1, fun a ha => (h2.2 a ha).trans (h.2 a ha)⟩
theorem m_eq.ma {M M2 : gMo} (h : m_eq M M2) (k : Nat) (x : Int32) : m_eq M (g_ma M2 0 k x) := ⟨h.1, fun a ha => by
  show va_up M2.1 0 _ a = _
  rw [va_up_ne _ _ ha]; exact h.2 a ha⟩
/-! what the row holds of a state -/
def m_rk (L : Nat → List gSh) (f : Nat → Int32) : Prop := ∀ r, r < 4 → f (14 + 9 * r) = nI (L r).length ∧ ∀ p s, (L r)[p]? = some s → f (14 + 9 * r + 1 + ((L r).length - 1 - p)) = s.1
def m_sh (L : Nat → List gSh) (f : Nat → Int32) : Prop := ∀ (r p : Nat) (s : gSh), r < 4 → (L r)[p]? = some s → ∀ k, s.1 = nI k → k < 200 → f (50 + 5 * k) = s.2.1 ∧ f (50 + 5 * k + 1) = s.2.2.1 ∧ f (50 + 5 * k + 2) = s.2.2.2.1 ∧ f (50 + 5 * k + 3) = nI r ∧ f (50 + 5 * k + 4) = s.2.2.2.2
def m_no (m : Nat) (L : Nat → List gSh) (f : Nat → Int32) : Prop := ∀ k, k < m → (∀ (r p : Nat) (s : gSh), r < 4 → (L r)[p]? = some s → s.1 ≠ nI k) → f (50 + 5 * k + 3) = -1
def m_od (os : List gOd) (f : Nat → Int32) : Prop := f 7 = nI os.length ∧ (∀ k o, os[k]? = some o → f (1050 + 7 * k) = o.2.1 ∧ f (1050 + 7 * k + 1) = o.2.2.1 ∧ f (1050 + 7 * k + 2) = o.2.2.2.1 ∧ f (1050 + 7 * k + 3) = o.2.2.2.2.1 ∧ f (1050 + 7 * k + 4) = o.2.2.2.2.2.1 ∧ (o.2.2.2.2.2.1 = 1 → f (1050 + 7 * k + 5) = o.2.2.2.2.2.2.1 ∧ f (1050 + 7 * k + 6) = o.2.2.2.2.2.2.2)) ∧ ∀ k, os.length ≤ k → k < 12 → f (1050 + 7 * k + 4) = 0
def m_nu (g : Nat → Int32) (f : Nat → Int32) : Prop := f 0 = g 5 ∧ f 1 = g 6 ∧ f 2 = g 7 ∧ f 3 = g 8 ∧ f 4 = g 9 ∧ f 5 = g 10 ∧ f 6 = g 11 ∧ f 8 = g 12 ∧ ∀ k, k < 5 → f (9 + k) = g k
def r_m (a : aSt) (f : Nat → Int32) : Prop := m_nu a.1 f ∧ m_rk a.2.1 f ∧ m_sh a.2.1 f ∧ (∃ m, a.1 12 = nI m ∧ m_no m a.2.1 f) ∧ m_od a.2.2 f
