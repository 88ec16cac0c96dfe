/-! AREAS: what was bought is somewhere -/
def n_ar (s : gSh) : Nat := s.2.2.1.toNatClampNeg * s.2.2.2.1.toNatClampNeg
def n_al : List gSh → Nat
  | [] => 0
  | s :: F => n_ar s + n_al F
theorem n_al_app : ∀ (F G : List gSh), n_al (F ++ G) = n_al F + n_al G
  | [], G => by show n_al G = 0 + n_al G; omega
  | s :: F, G => by
    show n_ar s + n_al (F ++ G) = n_ar s + n_al F + n_al G
    rw [n_al_app F G]
    omega
theorem n_al_one (s : gSh) : n_al [s] = n_ar s := rfl
theorem n_al_rev : ∀ F : List gSh, n_al F.reverse = n_al F
  | [] => rfl
  | s :: F => by
    rw [List.reverse_cons, n_al_app, n_al_rev F, n_al_one]
    show _ = n_ar s + n_al F
    omega
def n_aa (L : Nat → List gSh) : Nat := n_al (L 0) + (n_al (L 1) + (n_al (L 2) + n_al (L 3)))
theorem n_aa_up (L : Nat → List gSh) {r : Nat} (hr : r < 4) (F : List gSh) : n_aa (va_up L r F) + n_al (L r) = n_aa L + n_al F := by
  have : r = 0 ∨ r = 1 ∨ r = 2 ∨ r = 3 := by omega
  unfold n_aa
  rcases this with rfl | rfl | rfl | rfl
  · rw [va_up_at, va_up_ne _ _ (by omega), va_up_ne _ _ (by omega), va_up_ne _ _ (by omega)]; omega
  · rw [va_up_at, va_up_ne _ _ (by omega), va_up_ne _ _ (by omega), va_up_ne _ _ (by omega)]; omega
  · rw [va_up_at, va_up_ne _ _ (by omega), va_up_ne _ _ (by omega), va_up_ne _ _ (by omega)]; omega
  · rw [va_up_at, va_up_ne _ _ (by omega), va_up_ne _ _ (by omega), va_up_ne _ _ (by omega)]; omega
theorem n_ar_e {s : gSh} (h : s_ok s) : s.2.2.1 * s.2.2.2.1 = nI (n_ar s) ∧ 1 ≤ n_ar s ∧ n_ar s ≤ 9801 := by
  obtain ⟨-, ⟨w, w1, w2, ew⟩, ⟨y, y1, y2, ey⟩⟩ := h
  unfold n_ar
  rw [ew, ey, nI_clamp (by omega), nI_clamp (by omega), pk_mul]
  have a1 : 1 * 1 ≤ w * y := Nat.mul_le_mul w1 y1
  have a2 : w * y ≤ 99 * 99 := Nat.mul_le_mul w2 y2
  exact ⟨rfl, by omega, by omega⟩
theorem n_al_e : ∀ F : List gSh, (∀ s ∈ F, s_ok s) → a_sa F = nI (n_al F)
  | [], _ => rfl
  | s :: F, h => by
    show s.2.2.1 * s.2.2.2.1 + a_sa F = nI (n_ar s + n_al F)
    rw [n_al_e F (fun u hu => h u (List.mem_cons_of_mem _ hu)), (n_ar_e (h s List.mem_cons_self)).1, nI_add]
theorem n_aa_e (L : Nat → List gSh) : n_al (a_all L) = n_aa L := by
  unfold a_all n_aa
  rw [n_al_app, n_al_app, n_al_app]
def n_pn : List gOd → Nat
  | [] => 0
  | o :: os => (if o.2.2.2.2.2.1 = 1 then o_ar o else 0) + n_pn os
theorem n_pn_app : ∀ (F G : List gOd), n_pn (F ++ G) = n_pn F + n_pn G
  | [], G => by show n_pn G = 0 + n_pn G; omega
  | s :: F, G => by
    show _ + n_pn (F ++ G) = _ + n_pn F + n_pn G
    rw [n_pn_app F G]
    omega
theorem n_pn_set : ∀ (os : List gOd) (k : Nat) (o o2 : gOd), os[k]? = some o → n_pn (os.set k o2) + (if o.2.2.2.2.2.1 = 1 then o_ar o else 0) = n_pn os + (if o2.2.2.2.2.2.1 = 1 then o_ar o2 else 0)
  | [], k, o, o2, h => by simp at h
  | x :: os, 0, o, o2, h => by
    have e : x = o := by simpa using h
    subst e
    show _ + n_pn os + _ = _ + n_pn os + _
    omega
  | x :: os, k + 1, o, o2, h => by
    have h' : os[k]? = some o := by simpa using h
    have := n_pn_set os k o o2 h'
    show _ + n_pn (os.set k o2) + _ = _ + n_pn os + _
    omega
/-- T was bought; h is in the hand -/
def v_ok (a : aSt) (T h : Nat) : Prop := ∃ P S B Q : Nat, a.1 6 = nI T ∧ a.1 7 = nI P ∧ a.1 8 = nI S ∧ a.1 9 = nI B ∧ a.1 10 = nI Q ∧ n_aa a.2.1 + P + S + B + Q + h = T ∧ P = n_pn a.2.2
theorem t_lift_v (fr : Int32) : ∀ (Fs : List gSh) (l b : Int32) (K : List gSh) (B : Nat), (∀ s ∈ Fs, s_ok s) → b = nI B → ∃ B2, (t_lift fr Fs l b K).2.1 = nI B2 ∧ n_al (t_lift fr Fs l b K).2.2 + B2 = n_al Fs + n_al K + B := by
  intro Fs
  induction Fs with
  | nil => intro l b K B _ hb; exact ⟨B, hb, by show n_al K + B = 0 + n_al K + B; omega⟩
  | cons y ys ih =>
    intro l b K B hs hb
    have e : n_al (y :: ys) = n_ar y + n_al ys := rfl
    rw [t_lift]
    by_cases c : t_br fr (l + 1) = true
    · rw [if_pos c]
      obtain ⟨B2, h1, h2⟩ := ih (l + 1) (b + y.2.2.1 * y.2.2.2.1) K (B + n_ar y) (fun s h => hs s (List.mem_cons_of_mem _ h)) (by rw [hb, (n_ar_e (hs y List.mem_cons_self)).1, nI_add])
      exact ⟨B2, h1, by omega⟩
    · rw [if_neg c]
      obtain ⟨B2, h1, h2⟩ := ih (l + 1) b (y :: K) B (fun s h => hs s (List.mem_cons_of_mem _ h)) hb
      have e2 : n_al (y :: K) = n_ar y + n_al K := rfl
      exact ⟨B2, h1, by omega⟩
theorem l_parts {L : List gSh} {p : Nat} {x : gSh} (h : L[p]? = some x) : n_al L = n_al (L.take p) + n_ar x + n_al (L.drop (p + 1)) := by
  have e : L = L.take p ++ (x :: L.drop (p + 1)) := by
    rw [← drop_at h]
    exact (List.take_append_drop p L).symm
  have e2 := congrArg n_al e
  rw [n_al_app] at e2
  have e3 : n_al (x :: L.drop (p + 1)) = n_ar x + n_al (L.drop (p + 1)) := rfl
  omega
theorem t_out_v {a : aSt} (ha : a_ok a) {T : Nat} (hv : v_ok a T 0) {r p : Nat} {s : gSh} (hr : r < 4) (hs : (a.2.1 r)[p]? = some s) : v_ok (t_out a r p s).2 T (if (t_out a r p s).1 = 0 then 0 else n_ar s) := by
  obtain ⟨P, S, B, Q, h6, h7, h8, h9, h10, hT, hP⟩ := hv
  obtain ⟨hn, ⟨m, hm2, hk4⟩, hos⟩ := ha
  have hso : ∀ u ∈ a.2.1 r, s_ok u := fun u hu => by
    obtain ⟨q, hq⟩ := List.getElem?_of_mem hu
    exact (hk4.2.2.2 r q u hr hq).1
  obtain ⟨B2, b1, b2⟩ := t_lift_v (a.1 3) ((a.2.1 r).drop (p + 1)).reverse (a.1 11) (a.1 9) [] B (fun u hu => hso u (List.mem_of_mem_drop (List.mem_reverse.mp hu))) h9
  have n0 : n_al [] = 0 := rfl
  rw [n_al_rev, n0] at b2
  have lp := l_parts hs
  have e6 : (t_out a r p s).2.1 6 = a.1 6 := t_out_nu a r p s (by omega) (by omega)
  have e7 : (t_out a r p s).2.1 7 = a.1 7 := t_out_nu a r p s (by omega) (by omega)
  have e8 : (t_out a r p s).2.1 8 = a.1 8 := t_out_nu a r p s (by omega) (by omega)
  have e10 : (t_out a r p s).2.1 10 = a.1 10 := t_out_nu a r p s (by omega) (by omega)
  have up := n_aa_up a.2.1 hr ((a.2.1 r).take p ++ (t_lift (a.1 3) ((a.2.1 r).drop (p + 1)).reverse (a.1 11) (a.1 9) []).2.2)
  rw [n_al_app] at up
  have eL : (t_out a r p s).2.2.1 = va_up a.2.1 r ((a.2.1 r).take p ++ (t_lift (a.1 3) ((a.2.1 r).drop (p + 1)).reverse (a.1 11) (a.1 9) []).2.2) := rfl
  rw [← eL] at up
  by_cases c : t_br (a.1 3) ((t_lift (a.1 3) ((a.2.1 r).drop (p + 1)).reverse (a.1 11) (a.1 9) []).1 + 1) = true
  · have et : t_out a r p s = _ := t_end_y c
    have c0 : (t_out a r p s).1 = 0 := by rw [et]
    have e9 : (t_out a r p s).2.1 9 = (t_lift (a.1 3) ((a.2.1 r).drop (p + 1)).reverse (a.1 11) (a.1 9) []).2.1 + s.2.2.1 * s.2.2.2.1 := by
      rw [et]
      dsimp only
      exact va_up_at _ _ _
    rw [if_pos c0]
    refine ⟨P, S, B2 + n_ar s, Q, e6.trans h6, e7.trans h7, e8.trans h8, ?_, e10.trans h10, ?_, hP⟩
    · rw [e9, b1, (n_ar_e (hso s (List.mem_of_getElem? hs))).1, nI_add]
    · omega
  · have et : t_out a r p s = _ := t_end_n c
    have c0 : ¬ (t_out a r p s).1 = 0 := by rw [et]; exact (show ¬ (1 : Int32) = 0 by decide)
    have e9 : (t_out a r p s).2.1 9 = (t_lift (a.1 3) ((a.2.1 r).drop (p + 1)).reverse (a.1 11) (a.1 9) []).2.1 := by
      rw [et]
      dsimp only
      exact va_up_at _ _ _
    rw [if_neg c0]
    refine ⟨P, S, B2, Q, e6.trans h6, e7.trans h7, e8.trans h8, e9.trans b1, e10.trans h10, ?_, hP⟩
    omega
theorem w_move_v {a : aSt} (ha : a_ok a) {T : Nat} (hv : v_ok a T 0) {r p : Nat} {s : gSh} (hr : r < 4) (hs : (a.2.1 r)[p]? = some s) (x : Int32) : v_ok (w_move a r p s x).2 T 0 := by
  have h := t_out_v ha hv hr hs
  unfold w_move
  by_cases c1 : 0 ≤ x ∧ x ≤ 3
  · rw [if_pos c1]
    by_cases c2 : nI r = x ∨ (a.2.1 x.toNatClampNeg).length < 8
    · rw [if_pos c2]
      show v_ok (if (t_out a r p s).1 = 0 then (t_out a r p s).2 else _) T 0
      by_cases c3 : (t_out a r p s).1 = 0
      · rw [if_pos c3] at h ⊢; exact h
      · rw [if_neg c3] at h ⊢
        obtain ⟨P, S, B, Q, h6, h7, h8, h9, h10, hT, hP⟩ := h
        obtain ⟨j, hj, rfl⟩ := i_nat (n := 3) (by omega) c1.1 c1.2
        rw [nI_clamp (by omega)]
        have up := n_aa_up (t_out a r p s).2.2.1 (r := j) (by omega) ((t_out a r p s).2.2.1 j ++ [s])
        rw [n_al_app, n_al_one] at up
        refine ⟨P, S, B, Q, h6, h7, h8, h9, h10, ?_, hP⟩
        show n_aa (va_up (t_out a r p s).2.2.1 j _) + _ + _ + _ + _ + 0 = T
        omega
    · rw [if_neg c2]; exact hv
  · rw [if_neg c1]; exact hv
def n_pc (w y : Int32) : Nat := if 0 < w ∧ 0 < y then w.toNatClampNeg * y.toNatClampNeg else 0
theorem n_pc_e (w y : Int32) : c_ar w y = nI (n_pc w y) := by
  unfold c_ar n_pc
  by_cases c : 0 < w ∧ 0 < y
  · rw [if_pos c, if_pos c]
    obtain ⟨j, hj, rfl⟩ := nI_of (Int32.not_lt.mpr (i_le c.1))
    obtain ⟨k, hk, rfl⟩ := nI_of (Int32.not_lt.mpr (i_le c.2))
    rw [nI_clamp hj, nI_clamp hk, pk_mul]
  · rw [if_neg c, if_neg c]; rfl
theorem t_keep_v {a : aSt} {T h : Nat} {r : Nat} (hr : r < 4) {w y : Int32} (hv : v_ok a T (h + n_pc w y)) (s : gSh) : v_ok (t_keep a r w y s).2 T h := by
  obtain ⟨P, S, B, Q, h6, h7, h8, h9, h10, hT, hP⟩ := hv
  unfold t_keep
  by_cases c1 : w ≤ 0 ∨ ¬ 0 < y
  · rw [if_pos c1]
    have e : n_pc w y = 0 := by
      unfold n_pc
      rw [if_neg (fun q => c1.elim (fun z => Int32.not_lt.mpr z q.1) (fun z => z q.2))]
    exact ⟨P, S, B, Q, h6, h7, h8, h9, h10, by show n_aa a.2.1 + P + S + B + Q + h = T; omega, hP⟩
  · rw [if_neg c1]
    have c3 : 0 < w ∧ 0 < y := ⟨Int32.not_le.mp (fun q => c1 (Or.inl q)), Classical.not_not.mp (fun q => c1 (Or.inr q))⟩
    have e : n_pc w y = w.toNatClampNeg * y.toNatClampNeg := if_pos c3
    by_cases c2 : a.1 1 ≤ w ∧ a.1 1 ≤ y ∧ ¬ (200 : Int32) ≤ a.1 12 ∧ (a.2.1 r).length < 8
    · rw [if_pos c2]
      have up := n_aa_up a.2.1 hr (a.2.1 r ++ [(a.1 12, s.2.1, w, y, s.1)])
      rw [n_al_app, n_al_one] at up
      have e2 : n_ar (a.1 12, s.2.1, w, y, s.1) = w.toNatClampNeg * y.toNatClampNeg := rfl
      refine ⟨P, S, B, Q, ?_, ?_, ?_, ?_, ?_, ?_, hP⟩
      · show va_up a.1 12 (a.1 12 + 1) 6 = _
        rw [va_up_ne _ _ (by omega)]; exact h6
      · show va_up a.1 12 (a.1 12 + 1) 7 = _
        rw [va_up_ne _ _ (by omega)]; exact h7
      · show va_up a.1 12 (a.1 12 + 1) 8 = _
        rw [va_up_ne _ _ (by omega)]; exact h8
      · show va_up a.1 12 (a.1 12 + 1) 9 = _
        rw [va_up_ne _ _ (by omega)]; exact h9
      · show va_up a.1 12 (a.1 12 + 1) 10 = _
        rw [va_up_ne _ _ (by omega)]; exact h10
      · show n_aa (va_up a.2.1 r _) + _ + _ + _ + _ + h = T
        omega
    · rw [if_neg c2]
      refine ⟨P, S + n_pc w y, B, Q, ?_, ?_, ?_, ?_, ?_, ?_, hP⟩
      · show va_up a.1 8 (a.1 8 + w * y) 6 = _
        rw [va_up_ne _ _ (by omega)]; exact h6
      · show va_up a.1 8 (a.1 8 + w * y) 7 = _
        rw [va_up_ne _ _ (by omega)]; exact h7
      · show va_up a.1 8 (a.1 8 + w * y) 8 = _
        have := n_pc_e w y
        unfold c_ar at this
        rw [if_pos c3] at this
        rw [va_up_at, h8, this, nI_add]
      · show va_up a.1 8 (a.1 8 + w * y) 9 = _
        rw [va_up_ne _ _ (by omega)]; exact h9
      · show va_up a.1 8 (a.1 8 + w * y) 10 = _
        rw [va_up_ne _ _ (by omega)]; exact h10
      · show n_aa a.2.1 + _ + _ + _ + _ + h = T
        omega
