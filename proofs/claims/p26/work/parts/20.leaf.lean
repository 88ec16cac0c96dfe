/-! THE PURE PART: numbers -/
theorem l1 : (1 : Int32) = nI 1 := rfl
theorem l2 : (2 : Int32) = nI 2 := rfl
theorem l3 : (3 : Int32) = nI 3 := rfl
theorem l4 : (4 : Int32) = nI 4 := rfl
theorem l5 : (5 : Int32) = nI 5 := rfl
theorem l6 : (6 : Int32) = nI 6 := rfl
theorem l7 : (7 : Int32) = nI 7 := rfl
theorem l8 : (8 : Int32) = nI 8 := rfl
theorem l9 : (9 : Int32) = nI 9 := rfl
theorem l10 : (10 : Int32) = nI 10 := rfl
theorem l12 : (12 : Int32) = nI 12 := rfl
theorem l14 : (14 : Int32) = nI 14 := rfl
theorem l31 : (31 : Int32) = nI 31 := rfl
theorem l32 : (32 : Int32) = nI 32 := rfl
theorem l50 : (50 : Int32) = nI 50 := rfl
theorem l60 : (60 : Int32) = nI 60 := rfl
theorem l99 : (99 : Int32) = nI 99 := rfl
theorem l200 : (200 : Int32) = nI 200 := rfl
theorem l999 : (999 : Int32) = nI 999 := rfl
theorem l1050 : (1050 : Int32) = nI 1050 := rfl
theorem l1134 : (1134 : Int32) = nI 1134 := rfl
theorem q_in {k N : Nat} (hk : k < 2 ^ 31) : g_in (nI k) N ↔ k < N := by
  unfold g_in
  rw [nI_clamp hk]
  exact ⟨fun h => h.2, fun h => ⟨nI_pos hk, h⟩⟩
theorem q_up {α : Type} (f : Nat → α) (k j : Nat) (x : α) : va_up f k x j = if j = k then x else f j := rfl
theorem q_0le {k : Nat} (hk : k < 2 ^ 31) : (0 : Int32) ≤ nI k ↔ True := iff_true_intro (nI_pos' hk)
theorem q_lt0 {k : Nat} (hk : k < 2 ^ 31) : nI k < (0 : Int32) ↔ False := iff_false_intro (nI_pos hk)
theorem q_oc_n {α β : Type} (a : β) (f : α → β) : g_oc none a f = a := rfl
theorem q_oc_s {α β : Type} (v : α) (a : β) (f : α → β) : g_oc (some v) a f = f v := rfl
theorem q_b1_s {α γ : Type} (v : α) (f : α → Option γ) : g_b1 (some v) f = f v := rfl
theorem q_bd_s {α β γ : Type} (v : α) (w : β) (f : α → β → Option γ) : g_bd (some (v, w)) f = f v w := rfl
theorem q_let {α β : Type} (v : α) (f : α → β) : g_let v f = f v := rfl
/-! slots -/
def a_cnt (s : Nat → Option gSh) (r : Nat) : Nat → Nat
  | 0 => 0
  | m + 1 => (if (31 - m) / 8 = r ∧ (s (31 - m)).isSome = true then 1 else 0) + a_cnt s r m
theorem f5_filled_l (z : gSt) (r : Nat) (hr : r < 4) : ∀ (m n acc : Nat), m ≤ 32 → m < n → acc + m ≤ 32 → f5_filled_4 n z (nI r) (nI acc) (nI (32 - m)) = some (nI (acc + a_cnt z.2.1 r m)) := by
  intro m
  induction m with
  | zero =>
    intro n acc _ hn _
    obtain ⟨n, rfl⟩ : ∃ k, n = k + 1 := ⟨n - 1, by omega⟩
    rw [f5_filled_4]
    simp (disch := omega) only [l32, nI_leI, Nat.sub_zero, Nat.le_refl, if_true]
    rfl
  | succ m ih =>
    intro n acc hm hn ha
    obtain ⟨n, rfl⟩ : ∃ k, n = k + 1 := ⟨n - 1, by omega⟩
    rw [f5_filled_4]
    have hk : 32 - (m + 1) = 31 - m := by omega
    have hk2 : 31 - m + 1 = 32 - m := by omega
    rw [hk]
    simp (disch := omega) only [l32, l8, l1, nI_leI, pk_div, nI_eq, nI_clamp, q_in, nI_add, hk2]
    have i1 := ih n acc (by omega) (by omega) (by omega)
    have c1 : ¬ 32 ≤ 31 - m := by omega
    rw [if_neg c1, a_cnt]
    by_cases c2 : (31 - m) / 8 = r
    · rw [if_neg (fun q => q c2)]
      rw [if_pos (show 31 - m < 32 by omega)]
      cases hs : z.2.1 (31 - m) with
      | none =>
        rw [q_oc_n, i1, if_neg (by simp), Nat.zero_add]
      | some v =>
        have i2 := ih n (acc + 1) (by omega) (by omega) (by omega)
        rw [q_oc_s, i2, if_pos (by simp [c2]), Nat.add_assoc]
    · rw [if_pos c2, i1, if_neg (fun q => c2 q.1), Nat.zero_add]
