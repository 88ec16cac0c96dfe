/-! pieces kept or scrapped; a cut -/
def t_keep (a : aSt) (r : Nat) (w y : Int32) (s : gSh) : Int32 × aSt :=
  if w ≤ 0 ∨ ¬ 0 < y then (0, a)
  else if a.1 1 ≤ w ∧ a.1 1 ≤ y ∧ ¬ (200 : Int32) ≤ a.1 12 ∧ (a.2.1 r).length < 8 then (1, va_up a.1 12 (a.1 12 + 1), va_up a.2.1 r (a.2.1 r ++ [(a.1 12, s.2.1, w, y, s.1)]), a.2.2)
  else (0, va_up a.1 8 (a.1 8 + w * y), a.2)
theorem r_keep {a : aSt} {z : gSt} (h : r_c a z) {m r : Nat} (hm : a.1 12 = nI m) (hm2 : m ≤ 200) (hr : r < 4) (hl : (a.2.1 r).length ≤ 8) (w y : Int32) (s : gSh) : ∃ z2, f8_keepOrScrap z w y s (nI r) = some ((t_keep a r w y s).1, z2) ∧ r_c (t_keep a r w y s).2 z2 ∧ ∀ k, 14 ≤ k → z2.1 k = z.1 k := by
  have nl : ∀ a b : Int32, ¬ a < b ↔ b ≤ a := fun a b => Int32.not_lt
  have h8 : r_c (va_up a.1 8 (a.1 8 + w * y), a.2) (g_si z 8 (z.1 8 + w * y)) := by
    rw [h.1 8 (by omega)]
    exact h.si (by omega) _
  have b8 : ∀ k, 14 ≤ k → (g_si z 8 (z.1 8 + w * y)).1 k = z.1 k := fun k hk => by
    show (if k = 8 then _ else z.1 k) = _
    rw [if_neg (by omega)]
  unfold f8_keepOrScrap t_keep
  rw [h.1 1 (by omega)]
  by_cases c1 : w ≤ 0
  · rw [if_pos c1, if_pos (Or.inl c1)]
    exact ⟨z, rfl, h, fun _ _ => rfl⟩
  · rw [if_neg c1]
    by_cases c2 : 0 < y
    · have cc : ¬ (w ≤ 0 ∨ ¬ 0 < y) := fun q => q.elim c1 (fun q => q c2)
      rw [if_pos c2, if_neg cc]
      by_cases c3 : w < a.1 1
      · rw [if_pos c3, if_neg (fun q => (nl _ _).mpr q.1 c3), q_let]
        exact ⟨_, rfl, h8, b8⟩
      · rw [if_neg c3]
        by_cases c4 : y < a.1 1
        · rw [if_pos c4, if_neg (fun q => (nl _ _).mpr q.2.1 c4), q_let]
          exact ⟨_, rfl, h8, b8⟩
        · rw [if_neg c4, r_room h.2.2.1 hr hl ((h.1 12 (by omega)).trans hm) hm2, q_b1_s]
          have e200 : (200 : Int32) ≤ a.1 12 ↔ 200 ≤ m := by
            rw [hm, l200, nI_leI (by omega) (by omega)]
          by_cases c5 : m < 200 ∧ (a.2.1 r).length < 8
          · rw [if_pos c5, if_neg (by decide), if_pos ⟨(nl _ _).mp c3, (nl _ _).mp c4, fun q => by have := e200.mp q; omega, c5.2⟩]
            obtain ⟨z2, e1, e2⟩ := h.news hm hr c5.2 s.2.1 w y s.1
            rw [e1, q_bd_s, hm, l1, nI_add]
            refine ⟨z2, rfl, e2, ?_⟩
            unfold f5_addNew at e1
            simp only [q_let] at e1
            rw [h.1 12 (by omega), hm, l1, nI_add, r_put (z := g_si z 12 (nI (m + 1))) h.2.2.1 hr c5.2, q_b1_s] at e1
            cases e1
            intro k hk
            show (if k = 12 then _ else z.1 k) = _
            rw [if_neg (by omega)]
          · rw [if_neg c5, if_pos rfl, if_neg (fun q => c5 ⟨Nat.lt_of_not_le (fun p => q.2.2.1 (e200.mpr p)), q.2.2.2⟩), q_let]
            exact ⟨_, rfl, h8, b8⟩
    · rw [if_neg c2, if_pos (Or.inr c2)]
      exact ⟨z, rfl, h, fun _ _ => rfl⟩
theorem t_lift_sub (fr : Int32) : ∀ (Fs : List gSh) (l b : Int32) (K : List gSh), (t_lift fr Fs l b K).2.2.Sublist (Fs.reverse ++ K) := by
  intro Fs
  induction Fs with
  | nil => intro l b K; exact List.Sublist.refl _
  | cons y ys ih =>
    intro l b K
    rw [t_lift, List.reverse_cons, List.append_assoc]
    by_cases c : t_br fr (l + 1) = true
    · rw [if_pos c]
      exact (ih _ _ _).trans (List.Sublist.append (List.Sublist.refl _) (List.sublist_append_right _ _))
    · rw [if_neg c]
      exact ih _ _ _
theorem t_out_sub (a : aSt) {r p : Nat} (x : gSh) (hp : p < (a.2.1 r).length) : ((t_out a r p x).2.2.1 r).Sublist ((a.2.1 r).eraseIdx p) := by
  unfold t_out t_end
  show (va_up a.2.1 r _ r).Sublist _
  rw [va_up_at, List.eraseIdx_eq_take_drop_succ]
  refine List.Sublist.append (List.Sublist.refl _) ?_
  have := t_lift_sub (a.1 3) ((a.2.1 r).drop (p + 1)).reverse (a.1 11) (a.1 9) []
  rwa [List.reverse_reverse, List.append_nil] at this
theorem t_out_ne (a : aSt) {r r2 : Nat} (p : Nat) (x : gSh) (h : r2 ≠ r) : (t_out a r p x).2.2.1 r2 = a.2.1 r2 := va_up_ne _ _ h
theorem t_out_od (a : aSt) (r p : Nat) (x : gSh) : (t_out a r p x).2.2.2 = a.2.2 := rfl
theorem t_out_nu (a : aSt) (r p : Nat) (x : gSh) {k : Nat} (h9 : k ≠ 9) (h11 : k ≠ 11) : (t_out a r p x).2.1 k = a.1 k := (va_up_ne _ _ h9).trans (va_up_ne _ _ h11)
/-- numbers tell sheets apart: without places -/
theorem r_un_iff {L : Nat → List gSh} : r_un L ↔ (∀ r, r < 4 → (L r).Pairwise (fun x y => x.1 ≠ y.1)) ∧ ∀ r r2, r < 4 → r2 < 4 → r ≠ r2 → ∀ x ∈ L r, ∀ y ∈ L r2, x.1 ≠ y.1 := by
  constructor
  · intro h
    refine ⟨fun r hr => List.pairwise_iff_getElem.mpr (fun i j hi hj hij e => ?_), fun r r2 hr hr2 hne x hx y hy e => ?_⟩
    · have := (h r r i j _ _ hr hr (List.getElem?_eq_getElem hi) (List.getElem?_eq_getElem hj) e).2
      omega
    · obtain ⟨i, hi⟩ := List.getElem?_of_mem hx
      obtain ⟨j, hj⟩ := List.getElem?_of_mem hy
      exact hne (h r r2 i j _ _ hr hr2 hi hj e).1
  · rintro ⟨h1, h2⟩ r r2 p p2 x y hr hr2 e1 e2 q
    by_cases c : r = r2
    · subst c
      refine ⟨rfl, ?_⟩
      obtain ⟨b1, g1⟩ := List.getElem?_eq_some_iff.mp e1
      obtain ⟨b2, g2⟩ := List.getElem?_eq_some_iff.mp e2
      have hp := List.pairwise_iff_getElem.mp (h1 r hr)
      rcases Nat.lt_trichotomy p p2 with t | t | t
      · exact absurd (by rw [g1, g2]; exact q) (hp p p2 b1 b2 t)
      · exact t
      · exact absurd (by rw [g1, g2]; exact q.symm) (hp p2 p b2 b1 t)
    · exact absurd q (h2 r r2 hr hr2 c x (List.mem_of_getElem? e1) y (List.mem_of_getElem? e2))
theorem k_ok_iff {m : Nat} {L : Nat → List gSh} : k_ok m L ↔ m ≤ 200 ∧ (∀ r, r < 4 → (L r).length ≤ 8) ∧ r_un L ∧ ∀ r, r < 4 → ∀ s ∈ L r, s_ok s ∧ ∃ k, k < m ∧ s.1 = nI k := by
  constructor
  · rintro ⟨h1, h2, h3, h4⟩
    exact ⟨h1, h2, h3, fun r hr s hs => by obtain ⟨i, hi⟩ := List.getElem?_of_mem hs; exact h4 r i s hr hi⟩
  · rintro ⟨h1, h2, h3, h4⟩
    exact ⟨h1, h2, h3, fun r p s hr e => h4 r hr s (List.mem_of_getElem? e)⟩
theorem k_ok.sub {m : Nat} {L L2 : Nat → List gSh} (h : k_ok m L) (hs : ∀ r, r < 4 → (L2 r).Sublist (L r)) : k_ok m L2 := by
  rw [k_ok_iff] at h ⊢
  obtain ⟨h1, h2, h3, h4⟩ := h
  rw [r_un_iff] at h3 ⊢
  exact ⟨h1, fun r hr => Nat.le_trans (hs r hr).length_le (h2 r hr), ⟨fun r hr => (h3.1 r hr).sublist (hs r hr), fun r r2 hr hr2 hne x hx y hy => h3.2 r r2 hr hr2 hne x ((hs r hr).subset hx) y ((hs r2 hr2).subset hy)⟩, fun r hr s hx => h4 r hr s ((hs r hr).subset hx)⟩
theorem k_ok.new {m : Nat} {L : Nat → List gSh} (h : k_ok m L) (hm : m < 200) {r : Nat} (hr : r < 4) (hl : (L r).length < 8) {v : gSh} (hv : s_ok v) (e : v.1 = nI m) : k_ok (m + 1) (va_up L r (L r ++ [v])) := by
  rw [k_ok_iff] at h ⊢
  obtain ⟨h1, h2, h3, h4⟩ := h
  rw [r_un_iff] at h3 ⊢
  have old : ∀ r2, r2 < 4 → ∀ s ∈ L r2, s.1 ≠ v.1 := by
    intro r2 hr2 s hs q
    obtain ⟨-, k, hk, ek⟩ := h4 r2 hr2 s hs
    rw [ek, e, nI_eq (by omega) (by omega)] at q
    omega
  refine ⟨by omega, fun r2 hr2 => ?_, ⟨fun r2 hr2 => ?_, fun r2 r3 hr2 hr3 hne x hx y hy => ?_⟩, fun r2 hr2 s hs => ?_⟩
  · by_cases c : r2 = r
    · subst c; rw [va_up_at, List.length_append]; exact hl
    · rw [va_up_ne _ _ c]; exact h2 r2 hr2
  · by_cases c : r2 = r
    · subst c
      rw [va_up_at, List.pairwise_append]
      refine ⟨h3.1 r2 hr2, List.pairwise_singleton _ _, fun x hx y hy => ?_⟩
      rw [List.mem_singleton] at hy
      subst hy
      exact old r2 hr2 x hx
    · rw [va_up_ne _ _ c]; exact h3.1 r2 hr2
  · have sp : ∀ (r4 : Nat) (u : gSh), u ∈ va_up L r (L r ++ [v]) r4 → u ∈ L r4 ∨ (u = v ∧ r4 = r) := by
      intro r4 u hu
      by_cases c : r4 = r
      · subst c
        rw [va_up_at, List.mem_append, List.mem_singleton] at hu
        exact hu.imp_right (fun q => ⟨q, rfl⟩)
      · rw [va_up_ne _ _ c] at hu
        exact Or.inl hu
    rcases sp r2 x hx with p | p <;> rcases sp r3 y hy with q | q
    · exact h3.2 r2 r3 hr2 hr3 hne x p y q
    · rw [q.1]; exact old r2 hr2 x p
    · rw [p.1]; exact fun t => old r3 hr3 y q t.symm
    · exact absurd (p.2.trans q.2.symm) hne
  · by_cases c : r2 = r
    · subst c
      rw [va_up_at, List.mem_append, List.mem_singleton] at hs
      rcases hs with hs | hs
      · obtain ⟨g1, k, g2, g3⟩ := h4 r2 hr2 s hs
        exact ⟨g1, k, by omega, g3⟩
      · subst hs
        exact ⟨hv, m, by omega, e⟩
    · rw [va_up_ne _ _ c] at hs
      obtain ⟨g1, k, g2, g3⟩ := h4 r2 hr2 s hs
      exact ⟨g1, k, by omega, g3⟩
