/-! THE LAW: a cut -/
theorem t_keep_nu (a : aSt) (r : Nat) (w y : Int32) (s : gSh) {k : Nat} (h8 : k ≠ 8) (h12 : k ≠ 12) : (t_keep a r w y s).2.1 k = a.1 k := by
  unfold t_keep
  by_cases c1 : w ≤ 0 ∨ ¬ 0 < y
  · rw [if_pos c1]
  · rw [if_neg c1]
    by_cases c2 : a.1 1 ≤ w ∧ a.1 1 ≤ y ∧ ¬ (200 : Int32) ≤ a.1 12 ∧ (a.2.1 r).length < 8
    · rw [if_pos c2]
      exact va_up_ne a.1 (a.1 12 + 1) h12
    · rw [if_neg c2]
      exact va_up_ne a.1 (a.1 8 + w * y) h8
theorem t_keep_mem {a : aSt} {r : Nat} {w y : Int32} {s : gSh} {r2 : Nat} {u : gSh} (hu : u ∈ (t_keep a r w y s).2.2.1 r2) : u ∈ a.2.1 r2 ∨ u.1 = a.1 12 := by
  unfold t_keep at hu
  by_cases c1 : w ≤ 0 ∨ ¬ 0 < y
  · rw [if_pos c1] at hu
    exact Or.inl hu
  · rw [if_neg c1] at hu
    by_cases c2 : a.1 1 ≤ w ∧ a.1 1 ≤ y ∧ ¬ (200 : Int32) ≤ a.1 12 ∧ (a.2.1 r).length < 8
    · rw [if_pos c2] at hu
      have hu : u ∈ va_up a.2.1 r (a.2.1 r ++ [(a.1 12, s.2.1, w, y, s.1)]) r2 := hu
      by_cases e : r2 = r
      · subst e
        rw [va_up_at] at hu
        rcases List.mem_append.mp hu with q | q
        · exact Or.inl q
        · rw [List.mem_singleton.mp q]
          exact Or.inr rfl
      · rw [va_up_ne _ _ e] at hu
        exact Or.inl hu
    · rw [if_neg c2] at hu
      exact Or.inl hu
def a_n (L : Nat → List gSh) : Nat := (L 0).length + ((L 1).length + ((L 2).length + (L 3).length))
theorem a_n_e (L : Nat → List gSh) : (a_all L).length = a_n L := by
  unfold a_all a_n
  rw [List.length_append, List.length_append, List.length_append]
theorem a_n_up (L : Nat → List gSh) {r : Nat} (hr : r < 4) (F : List gSh) : a_n (va_up L r F) + (L r).length = a_n L + F.length := by
  have : r = 0 ∨ r = 1 ∨ r = 2 ∨ r = 3 := by omega
  unfold a_n
  rcases this with rfl | rfl | rfl | rfl
  · rw [va_up_at, va_up_ne _ _ (by omega), va_up_ne _ _ (by omega), va_up_ne _ _ (by omega)]; omega
  · rw [va_up_at, va_up_ne _ _ (by omega), va_up_ne _ _ (by omega), va_up_ne _ _ (by omega)]; omega
  · rw [va_up_at, va_up_ne _ _ (by omega), va_up_ne _ _ (by omega), va_up_ne _ _ (by omega)]; omega
  · rw [va_up_at, va_up_ne _ _ (by omega), va_up_ne _ _ (by omega), va_up_ne _ _ (by omega)]; omega
theorem t_keep_n {a : aSt} {r : Nat} (hr : r < 4) (w y : Int32) (s : gSh) : ∃ j, j ≤ 1 ∧ (t_keep a r w y s).1 = nI j ∧ a_n (t_keep a r w y s).2.2.1 = a_n a.2.1 + j := by
  unfold t_keep
  by_cases c1 : w ≤ 0 ∨ ¬ 0 < y
  · rw [if_pos c1]
    exact ⟨0, by omega, rfl, rfl⟩
  · rw [if_neg c1]
    by_cases c2 : a.1 1 ≤ w ∧ a.1 1 ≤ y ∧ ¬ (200 : Int32) ≤ a.1 12 ∧ (a.2.1 r).length < 8
    · rw [if_pos c2]
      have up := a_n_up a.2.1 hr (a.2.1 r ++ [(a.1 12, s.2.1, w, y, s.1)])
      rw [List.length_append, List.length_singleton] at up
      refine ⟨1, by omega, rfl, ?_⟩
      show a_n (va_up a.2.1 r (a.2.1 r ++ [(a.1 12, s.2.1, w, y, s.1)])) = _
      omega
    · rw [if_neg c2]
      exact ⟨0, by omega, rfl, rfl⟩
theorem t_keep_s {a : aSt} {r S : Nat} (hS : a.1 8 = nI S) (w y : Int32) (s : gSh) : ∃ S2, (t_keep a r w y s).2.1 8 = nI S2 ∧ S + (if a.1 1 ≤ w ∧ a.1 1 ≤ y then 0 else n_pc w y) ≤ S2 ∧ S2 ≤ S + n_pc w y := by
  unfold t_keep
  by_cases c1 : w ≤ 0 ∨ ¬ 0 < y
  · rw [if_pos c1]
    have e : n_pc w y = 0 := by
      unfold n_pc
      rw [if_neg (fun q => c1.elim (fun z => Int32.not_lt.mpr z q.1) (fun z => z q.2))]
    rw [e, ite_self]
    exact ⟨S, hS, Nat.le_refl _, Nat.le_refl _⟩
  · rw [if_neg c1]
    have c3 : 0 < w ∧ 0 < y := ⟨Int32.not_le.mp (fun q => c1 (Or.inl q)), Classical.not_not.mp (fun q => c1 (Or.inr q))⟩
    by_cases c2 : a.1 1 ≤ w ∧ a.1 1 ≤ y ∧ ¬ (200 : Int32) ≤ a.1 12 ∧ (a.2.1 r).length < 8
    · rw [if_pos c2, if_pos ⟨c2.1, c2.2.1⟩]
      exact ⟨S, (va_up_ne a.1 (a.1 12 + 1) (show 8 ≠ 12 by omega)).trans hS, by omega, by omega⟩
    · rw [if_neg c2]
      have := n_pc_e w y
      unfold c_ar at this
      rw [if_pos c3] at this
      refine ⟨S + n_pc w y, ?_, ?_, Nat.le_refl _⟩
      · show va_up a.1 8 (a.1 8 + w * y) 8 = _
        rw [va_up_at, hS, this, nI_add]
      · split <;> omega
theorem t_lift_len {fr : Int32} (h : fr ≤ 0) : ∀ (Fs : List gSh) (l b : Int32) (K : List gSh), (t_lift fr Fs l b K).2.2.length = Fs.length + K.length := by
  intro Fs
  induction Fs with
  | nil => intro l b K; show K.length = 0 + K.length; omega
  | cons y ys ih =>
    intro l b K
    rw [t_lift, if_neg (t_br_no h), ih, List.length_cons, List.length_cons]
    omega
theorem t_out_n1 {a : aSt} (h : a.1 3 ≤ 0) {r p : Nat} {s : gSh} (hr : r < 4) (hs : (a.2.1 r)[p]? = some s) : a_n (t_out a r p s).2.2.1 + 1 = a_n a.2.1 := by
  have hp := (List.getElem?_eq_some_iff.mp hs).1
  have up := a_n_up a.2.1 hr ((a.2.1 r).take p ++ (t_lift (a.1 3) ((a.2.1 r).drop (p + 1)).reverse (a.1 11) (a.1 9) []).2.2)
  rw [List.length_append, t_lift_len h, List.length_reverse, List.length_take, List.length_drop, List.length_nil, Nat.min_eq_left (Nat.le_of_lt hp)] at up
  have eL : (t_out a r p s).2.2.1 = va_up a.2.1 r ((a.2.1 r).take p ++ (t_lift (a.1 3) ((a.2.1 r).drop (p + 1)).reverse (a.1 11) (a.1 9) []).2.2) := rfl
  rw [← eL] at up
  omega
/-- what a cut of a whole sheet leaves -/
theorem t_cut_all {a : aSt} (ha : a_ok a) {S : Nat} (hS : a.1 8 = nI S) {r p k : Nat} {s : gSh} {o : gOd} (hr : r < 4) (hs : (a.2.1 r)[p]? = some s) (hk : a.2.2[k]? = some o) (hf : ¬ c_lie a.1 o s = -1) (hw : ¬ (t_out a r p s).1 = 0) :
    ∃ j S2 SC : Nat, j ≤ 2 ∧ (t_cut a r p k s o).1 = nI j ∧ (t_cut a r p k s o).2.1 8 = nI S2 ∧ c_scr a.1 o s = nI SC ∧ S + SC ≤ S2 ∧ S2 ≤ S + 9801 ∧ SC ≤ 9801 ∧ (t_cut a r p k s o).2.1 11 = a.1 11 + (nI ((a.2.1 r).length - 1 - p) + 1) ∧ (t_cut a r p k s o).2.1 3 = a.1 3 ∧ (t_cut a r p k s o).2.1 10 = a.1 10 + c_lost a.1 o s ∧
    (t_cut a r p k s o).2.2.2 = a.2.2.set k (o_cut o s (a.1 5)) ∧ (∀ r2, r2 < 4 → ∀ u ∈ (t_cut a r p k s o).2.2.1 r2, u.1 ≠ s.1) ∧ (a.1 3 ≤ 0 → a_n (t_cut a r p k s o).2.2.1 + 1 = a_n a.2.1 + j) := by
  obtain ⟨hn, ⟨m, hm2, hk4⟩, hos⟩ := id ha
  have hm := hk4.1
  obtain ⟨sok, i, hi, ei⟩ := hk4.2.2.2 r p s hr hs
  have hoo := (hos.2 k o hk).1
  obtain ⟨LO, KE, SC, q1, q2, q3, q4, q5, q6, q7⟩ := c_all hn hoo sok hf
  have hsum := (n_ar_e sok).2.2
  have w3 := (t_cut_w (k := k) (o := o) hw).2.2
  have gone := t_out_gone ha hr hs
  have e11 := t_out_11 a s (r := r) (p := p)
  have eo : ∀ k, k ≠ 9 → k ≠ 11 → (t_out a r p s).2.1 k = a.1 k := fun k h9 h11 => t_out_nu a r p s h9 h11
  have len := fun h => t_out_n1 (a := a) h hr hs
  have ec : t_cut a r p k s o = ((t_keep (t_done (t_out a r p s).2 a.1 k s o) r (c_bw a.1 o s) (c_bh a.1 o s) s).1 + (t_keep (t_keep (t_done (t_out a r p s).2 a.1 k s o) r (c_bw a.1 o s) (c_bh a.1 o s) s).2 r (c_aw a.1 o s) (c_ah a.1 o s) s).1,
    (t_keep (t_keep (t_done (t_out a r p s).2 a.1 k s o) r (c_bw a.1 o s) (c_bh a.1 o s) s).2 r (c_aw a.1 o s) (c_ah a.1 o s) s).2) := if_neg hw
  have ed : ∀ k2, k2 ≠ 7 → k2 ≠ 10 → (t_done (t_out a r p s).2 a.1 k s o).1 k2 = (t_out a r p s).2.1 k2 := fun k2 h7 h10 => (va_up_ne _ _ h10).trans (va_up_ne _ _ h7)
  have ed10 : (t_done (t_out a r p s).2 a.1 k s o).1 10 = (t_out a r p s).2.1 10 + c_lost a.1 o s := va_up_at (va_up (t_out a r p s).2.1 7 ((t_out a r p s).2.1 7 + o.2.2.1 * o.2.2.2.1)) 10 ((t_out a r p s).2.1 10 + c_lost a.1 o s)
  have edL : (t_done (t_out a r p s).2 a.1 k s o).2.1 = (t_out a r p s).2.2.1 := rfl
  generalize hD : t_done (t_out a r p s).2 a.1 k s o = D at ec ed ed10 edL
  have d12 : D.1 12 = nI m := (ed 12 (by omega) (by omega)).trans ((eo 12 (by omega) (by omega)).trans hm2)
  have d8 : D.1 8 = nI S := (ed 8 (by omega) (by omega)).trans ((eo 8 (by omega) (by omega)).trans hS)
  have d1 : D.1 1 = a.1 1 := (ed 1 (by omega) (by omega)).trans (eo 1 (by omega) (by omega))
  obtain ⟨j1, a1, a2, a3⟩ := t_keep_n (a := D) hr (c_bw a.1 o s) (c_bh a.1 o s) s
  obtain ⟨S1, b1, b2, b3⟩ := t_keep_s (r := r) d8 (c_bw a.1 o s) (c_bh a.1 o s) s
  have k12 : ∃ m2, m ≤ m2 ∧ (t_keep D r (c_bw a.1 o s) (c_bh a.1 o s) s).2.1 12 = nI m2 ∧ m2 ≤ 200 := by
    obtain ⟨m2, z1, z2⟩ := t_keep_m d12 hm r (c_bw a.1 o s) (c_bh a.1 o s) s
    by_cases c : m ≤ m2
    · exact ⟨m2, c, z1, z2⟩
    · refine ⟨m, Nat.le_refl _, ?_, hm⟩
      unfold t_keep at z1 ⊢
      by_cases c1 : c_bw a.1 o s ≤ 0 ∨ ¬ 0 < c_bh a.1 o s
      · rw [if_pos c1]; exact d12
      · rw [if_neg c1] at z1 ⊢
        by_cases c2 : D.1 1 ≤ c_bw a.1 o s ∧ D.1 1 ≤ c_bh a.1 o s ∧ ¬ (200 : Int32) ≤ D.1 12 ∧ (D.2.1 r).length < 8
        · rw [if_pos c2] at z1
          have z1 : va_up D.1 12 (D.1 12 + 1) 12 = nI m2 := z1
          rw [va_up_at, d12, show nI m + 1 = nI (m + 1) from nI_add m 1, nI_eq (by omega) (by omega)] at z1
          omega
        · rw [if_neg c2]
          exact (va_up_ne D.1 (D.1 8 + c_bw a.1 o s * c_bh a.1 o s) (show 12 ≠ 8 by omega)).trans d12
  have g1 : ∀ k2, k2 ≠ 8 → k2 ≠ 12 → (t_keep D r (c_bw a.1 o s) (c_bh a.1 o s) s).2.1 k2 = D.1 k2 := fun k2 h8 h12 => t_keep_nu D r (c_bw a.1 o s) (c_bh a.1 o s) s h8 h12
  have mem1 : ∀ r2 u, u ∈ (t_keep D r (c_bw a.1 o s) (c_bh a.1 o s) s).2.2.1 r2 → u ∈ D.2.1 r2 ∨ u.1 = D.1 12 := fun r2 u hu => t_keep_mem hu
  generalize t_keep D r (c_bw a.1 o s) (c_bh a.1 o s) s = E at ec a2 a3 b1 k12 g1 mem1
  obtain ⟨j2, f1, f2, f3⟩ := t_keep_n (a := E.2) hr (c_aw a.1 o s) (c_ah a.1 o s) s
  obtain ⟨S2, h1, h2, h3⟩ := t_keep_s (r := r) b1 (c_aw a.1 o s) (c_ah a.1 o s) s
  have l1 : E.2.1 1 = a.1 1 := (g1 1 (by omega) (by omega)).trans d1
  have g2 : ∀ k2, k2 ≠ 8 → k2 ≠ 12 → (t_keep E.2 r (c_aw a.1 o s) (c_ah a.1 o s) s).2.1 k2 = E.2.1 k2 := fun k2 h8 h12 => t_keep_nu E.2 r (c_aw a.1 o s) (c_ah a.1 o s) s h8 h12
  have mem2 : ∀ r2 u, u ∈ (t_keep E.2 r (c_aw a.1 o s) (c_ah a.1 o s) s).2.2.1 r2 → u ∈ E.2.2.1 r2 ∨ u.1 = E.2.1 12 := fun r2 u hu => t_keep_mem hu
  generalize t_keep E.2 r (c_aw a.1 o s) (c_ah a.1 o s) s = F at ec f2 f3 h1 g2 mem2
  rw [d1] at b2
  rw [l1] at h2
  obtain ⟨m2, m3, m4, m5⟩ := k12
  refine ⟨j1 + j2, S2, SC, by omega, ?_, ?_, q3, by omega, by omega, by omega, ?_, ?_, ?_, w3, ?_, ?_⟩
  · rw [ec]
    show E.1 + F.1 = _
    rw [a2, f2, nI_add]
  · rw [ec]; exact h1
  · rw [ec]
    exact ((g2 11 (by omega) (by omega)).trans ((g1 11 (by omega) (by omega)).trans (ed 11 (by omega) (by omega)))).trans e11
  · rw [ec]
    exact ((g2 3 (by omega) (by omega)).trans ((g1 3 (by omega) (by omega)).trans (ed 3 (by omega) (by omega)))).trans (eo 3 (by omega) (by omega))
  · rw [ec]
    have := (g2 10 (by omega) (by omega)).trans ((g1 10 (by omega) (by omega)).trans ed10)
    rw [eo 10 (by omega) (by omega)] at this
    exact this
  · rw [ec]
    intro r2 hr2 u hu e
    rcases mem2 r2 u hu with q | q
    · rcases mem1 r2 u q with q | q
      · rw [edL] at q
        exact gone r2 hr2 u q e
      · rw [d12, e, ei, nI_eq (by omega) (by omega)] at q
        omega
    · rw [m4, e, ei, nI_eq (by omega) (by omega)] at q
      omega
  · intro h
    rw [ec]
    have := len h
    show a_n F.2.2.1 + 1 = _
    rw [edL] at a3
    omega
section CUTS
variable {a : aSt} {hs : List aSt} {μ : gMu}
theorem cuts_ok (h : JJ a hs μ) {T : Nat} (hb : b_ok a T) (hT : T ≤ 1000000) {m : Nat} (hm : a.1 12 = nI m) (hm0 : 0 < m) (hml : m ≤ 200) (hn0 : 0 < a.2.2.length) (p1 p2 : Int32) : ACT a hs T (fL_cuts μ p1 p2) := by
  obtain ⟨hn, ⟨m', hm2, hk4⟩, hos⟩ := id h.1
  have hle := hos.1
  obtain ⟨k, hk, e1⟩ := low_e p1 (n := a.2.2.length) hn0 (by omega)
  obtain ⟨i, hi, e2⟩ := low_e p2 (n := m) hm0 (by omega)
  have ho : a.2.2[k]? = some (a.2.2[k]'hk) := List.getElem?_eq_getElem _
  generalize a.2.2[k]'hk = o at ho
  have qd : ∀ (v : Int32) (w : gMu) (f : Int32 → gMu → Option (Int32 × gMu)), g_bd (some (v, w)) f = f v w := fun _ _ _ => rfl
  have qb : ∀ (v : Int32) (f : Int32 → Option (Int32 × gMu)), g_b1 (some v) f = f v := fun _ _ => rfl
  have ql : ∀ (v : Int32) (f : Int32 → Option (Int32 × gMu)), g_let v f = f v := fun _ _ => rfl
  unfold fL_cuts
  rw [k_c9 h.r, q_b1_s, e1, q_b1_s, k_c12 h.r, q_b1_s, hm, e2, q_b1_s]
  have t4 : t_od (a.1 5) o 4 = o.2.2.2.2.2.1 := rfl
  rcases k_find a.2.1 (nI i) with ⟨r, p, s, hr, hsx, es⟩ | hy
  · have hlr := hk4.2.1 r hr
    have hp := (List.getElem?_eq_some_iff.mp hsx).1
    obtain ⟨μ1, w1, j1⟩ := k_would h hr hsx ho (x := 0) (by decide)
    obtain ⟨μ2, w2, j2⟩ := k_would j1 hr hsx ho (x := 6) (by decide)
    obtain ⟨μ3, w3, j3⟩ := k_would j2 hr hsx ho (x := 4) (by decide)
    obtain ⟨μ4, w4, j4⟩ := k_would j3 hr hsx ho (x := 5) (by decide)
    obtain ⟨μ5, w5, j5⟩ := k_cut j4 hr hsx ho
    rw [← es, w1, q_bd_s, k_ordered j1.1 j1.r ho, q_b1_s, t4, w2]
    simp only [qd]
    rw [w3]
    simp only [qd]
    rw [k_c5 j3.r]
    simp only [qb, ql]
    rw [w4]
    simp only [qd]
    rw [k_c7 j4.r, k_c8 j4.r, k_c1 j4.1 j4.r]
    simp only [qb, ql]
    rw [w5]
    simp only [qd]
    have nge : ∀ x : Int32, (x = 0 ∨ x = 1) → ¬ x = -1 := fun x hx => by rcases hx with rfl | rfl <;> decide
    have c01 : ¬ c_lie a.1 o s = -1 → c_lie a.1 o s = 0 ∨ c_lie a.1 o s = 1 := fun q => by
      have := c_lie_01 q
      by_cases z : c_lie a.1 o s = 0
      · exact Or.inl z
      · rw [if_neg z] at this
        exact Or.inr this.symm
    by_cases st : o.2.2.2.2.2.1 = 0
    · have hop : o_op o = true := decide_eq_true st
      rw [if_neg (not_not_intro st)]
      by_cases cl : c_lie a.1 o s = -1
      · have ew : w_cut a r p k s o = (-4, a) := by
          unfold w_cut
          rw [if_pos hop, if_pos cl]
        rw [ew] at j5
        simp only [if_pos cl]
        rw [if_pos (show ¬ (-5 : Int32) = -1 by decide), if_neg (show ¬ (0 : Int32) ≤ -5 by decide), ew, if_neg (not_not_intro rfl)]
        exact ⟨μ5, a, _, T, rfl, j5, hb, by omega, j_hs_or _ _ _⟩
      · have ew : w_cut a r p k s o = t_cut a r p k s o := by
          unfold w_cut
          rw [if_pos hop, if_neg cl]
        rw [ew] at j5
        have hb2 := t_cut_b_ok h.1 hb hr hsx ho hop cl
        have fin : ∀ f, f = some ((1 : Int32), μ5) → ACT a hs T f := fun f hf => ⟨μ5, _, _, T, hf, j5, hb2, by omega, j_hs_or _ _ _⟩
        have l0 : w_wd a o s ((a.2.1 r).length - 1 - p) 0 = c_lie a.1 o s := rfl
        have l6 : w_wd a o s ((a.2.1 r).length - 1 - p) 6 = nI ((a.2.1 r).length - 1 - p) + 1 := rfl
        have l4 : w_wd a o s ((a.2.1 r).length - 1 - p) 4 = c_scr a.1 o s := rfl
        have l5 : w_wd a o s ((a.2.1 r).length - 1 - p) 5 = c_lost a.1 o s := rfl
        simp only [if_neg cl]
        rw [l0, l6, l4, l5, if_pos (nge _ (c01 cl)), if_pos (show (0 : Int32) ≤ c_lie a.1 o s from (c_lie_ge _ _ _).mpr cl), ew]
        refine fin _ ?_
        by_cases cb : (t_out a r p s).1 = 0
        · have nf : ¬ a.1 3 ≤ 0 := fun z => by
            rw [t_out_whole z] at cb
            exact absurd cb (by decide)
          have et := t_cut_b (k := k) (o := o) cb
          rw [et] at j5 ⊢
          have gone := t_out_gone h.1 hr hsx
          have e11 : (t_out a r p s).2.1 11 = a.1 11 + (nI ((a.2.1 r).length - 1 - p) + 1) := t_out_11 a s
          have e3 : (t_out a r p s).2.1 3 = a.1 3 := t_out_nu a r p s (by omega) (by omega)
          have sn := k_sheet_n j5.1 j5.r (x := s.1) (fun r2 p2 v hr2 hv => gone r2 hr2 v (List.mem_of_getElem? hv)) 0
          have od := k_ordered j5.1 j5.r (k := k) (o := o) ho 4
          have od4 : f9_ordered μ5 (nI k) 4 = some 0 := od.trans (congrArg some st)
          rw [k_c8 j5.r, q_b1_s]
          show (if ¬ (t_out a r p s).2.1 11 = a.1 11 + (nI ((a.2.1 r).length - 1 - p) + 1) then _ else _) = _
          rw [e11, if_neg (not_not_intro rfl), sn, q_b1_s, if_pos rfl, if_neg (not_not_intro rfl), k_c23 j5.r, q_b1_s]
          show (if (t_out a r p s).2.1 3 ≤ 0 then _ else _) = _
          rw [e3, if_neg nf, od4, q_b1_s, if_neg (not_not_intro rfl)]
        · obtain ⟨P, S, B, Q, h6, h7, h8, h9, h10, hTT, hP⟩ := hb.1
          obtain ⟨j, S2, SC, v1, v2, v3, v4, v5, v6, v7, v8, v9, v10, v11, v12, v13⟩ := t_cut_all h.1 h8 hr hsx ho cl cb
          have n10 := (t_cut_w (k := k) (o := o) cb).2.1
          have sn := k_sheet_n j5.1 j5.r (x := s.1) (fun r2 p2 v hr2 hv => v12 r2 hr2 v (List.mem_of_getElem? hv)) 0
          have hk2 : (t_cut a r p k s o).2.2.2[k]? = some (o_cut o s (a.1 5)) := by
            rw [v11, List.getElem?_set, if_pos rfl, if_pos hk]
          have od := k_ordered j5.1 j5.r hk2 5
          have od5 : f9_ordered μ5 (nI k) 5 = some s.1 := od
          rw [k_c8 j5.r, q_b1_s, v8, if_neg (not_not_intro rfl), sn, q_b1_s, if_pos rfl, if_pos n10, v2, if_neg (nI_pos (by omega)), if_neg (show ¬ (2 : Int32) < nI j from by rw [l2, nI_ltI (by omega) (by omega)]; omega), od5, q_b1_s, if_neg (not_not_intro rfl), k_c7 j5.r, q_b1_s, v10, if_neg (not_not_intro (Int32.add_comm _ _)), k_c5 j5.r, q_b1_s, v3, v4, h8, nI_add, if_neg (show ¬ nI S2 < nI (SC + S) from by rw [nI_ltI (by omega) (by omega)]; omega), k_c23 j5.r, q_b1_s, v9]
          by_cases c3 : 0 < a.1 3
          · rw [if_pos c3]
          · have n1 := t_out_n1 (Int32.not_lt.mp c3) hr hsx
            have v13 := v13 (Int32.not_lt.mp c3)
            rw [if_neg c3, k_c1 j5.1 j5.r, q_b1_s, a_n_e, a_n_e, if_neg (not_not_intro ?_)]
            rw [l1, pk_sub (show 1 ≤ a_n a.2.1 by omega), nI_add]
            congr 1
            omega
    · have hop : ¬ o_op o = true := fun q => st (of_decide_eq_true q)
      have ew : w_cut a r p k s o = (-4, a) := by
        unfold w_cut
        rw [if_neg hop]
      rw [ew] at j5
      have n1 : ¬ (if c_lie a.1 o s = -1 then (-5 : Int32) else w_wd a o s ((a.2.1 r).length - 1 - p) 0) = -1 := by
        by_cases cl : c_lie a.1 o s = -1
        · rw [if_pos cl]; decide
        · rw [if_neg cl]; exact nge _ (c01 cl)
      rw [if_pos st, if_pos n1, ew, if_neg (not_not_intro rfl)]
      exact ⟨μ5, a, _, T, rfl, j5, hb, by omega, j_hs_or _ _ _⟩
  · have wn := fun x => k_would_n h ho hy x
    obtain ⟨μ5, w5, j5⟩ := k_cut_n h hy (k := k) (by omega)
    rw [wn, q_bd_s, k_ordered h.1 h.r ho, q_b1_s, wn]
    simp only [qd]
    rw [wn]
    simp only [qd]
    rw [k_c5 h.r]
    simp only [qb, ql]
    rw [wn]
    simp only [qd]
    rw [k_c7 h.r, k_c8 h.r, k_c1 h.1 h.r]
    simp only [qb, ql]
    rw [w5]
    simp only [qd]
    simp only [not_true, if_false, ite_self]
    exact ⟨μ5, a, hs, T, rfl, j5, hb, by omega, Or.inl rfl⟩
end CUTS
