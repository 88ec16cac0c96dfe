/-! a cut -/
def o_cut (o : gOd) (s : gSh) (d : Int32) : gOd := (o.1, o.2.1, o.2.2.1, o.2.2.2.1, o.2.2.2.2.1, 1, s.1, d)
/-- the state behind the taking out of a cut, with the order done -/
def t_done (a : aSt) (g : Nat → Int32) (k : Nat) (s : gSh) (o : gOd) : aSt := (va_up (va_up a.1 7 (a.1 7 + o.2.2.1 * o.2.2.2.1)) 10 (a.1 10 + c_lost g o s), a.2.1, a.2.2.set k (o_cut o s (a.1 5)))
def t_cut (a : aSt) (r p k : Nat) (s : gSh) (o : gOd) : Int32 × aSt :=
  if (t_out a r p s).1 = 0 then (10, (t_out a r p s).2)
  else ((t_keep (t_done (t_out a r p s).2 a.1 k s o) r (c_bw a.1 o s) (c_bh a.1 o s) s).1 + (t_keep (t_keep (t_done (t_out a r p s).2 a.1 k s o) r (c_bw a.1 o s) (c_bh a.1 o s) s).2 r (c_aw a.1 o s) (c_ah a.1 o s) s).1,
    (t_keep (t_keep (t_done (t_out a r p s).2 a.1 k s o) r (c_bw a.1 o s) (c_bh a.1 o s) s).2 r (c_aw a.1 o s) (c_ah a.1 o s) s).2)
theorem t_keep_len (a : aSt) (r : Nat) (w y : Int32) (s : gSh) : ((t_keep a r w y s).2.2.1 r).length ≤ (a.2.1 r).length + 1 := by
  unfold t_keep
  split
  · exact Nat.le_succ _
  · split
    · show (va_up a.2.1 r _ r).length ≤ _
      rw [va_up_at, List.length_append]
      exact Nat.le_refl _
    · exact Nat.le_succ _
theorem t_keep_m {a : aSt} {m : Nat} (hm : a.1 12 = nI m) (hm2 : m ≤ 200) (r : Nat) (w y : Int32) (s : gSh) : ∃ m2, (t_keep a r w y s).2.1 12 = nI m2 ∧ m2 ≤ 200 := by
  unfold t_keep
  split
  · exact ⟨m, hm, hm2⟩
  · split
    · next _ c =>
      have e200 : (200 : Int32) ≤ a.1 12 ↔ 200 ≤ m := by
        rw [hm, l200, nI_leI (by omega) (by omega)]
      have := Nat.lt_of_not_le (fun p => c.2.2.1 (e200.mpr p))
      refine ⟨m + 1, ?_, by omega⟩
      show va_up a.1 12 (a.1 12 + 1) 12 = _
      rw [va_up_at, hm]
      exact nI_add m 1
    · exact ⟨m, (va_up_ne (k := 8) (j := 12) a.1 (a.1 8 + w * y) (by omega)).trans hm, hm2⟩
theorem r_cut {a : aSt} (ha : a_ok a) {z : gSt} (h : r_c a z) {r p k : Nat} {s : gSh} {o : gOd} (hr : r < 4) (hs : (a.2.1 r)[p]? = some s) (hk : a.2.2[k]? = some o) (hf : ¬ c_lie a.1 o s = -1) : ∃ z2, f8_cutOpenOrder z o s = some ((t_cut a r p k s o).1, z2) ∧ r_c (t_cut a r p k s o).2 z2 := by
  obtain ⟨hn, ⟨m, hm, hk4⟩, hos⟩ := ha
  have hl := hk4.2.1 r hr
  have hp : p < (a.2.1 r).length := (List.getElem?_eq_some_iff.mp hs).1
  have hkl : k < a.2.2.length := (List.getElem?_eq_some_iff.mp hk).1
  obtain ⟨z1, e1, e2⟩ := f8_take_e h hn hr hl hs
  unfold f8_cutOpenOrder t_cut
  rw [r_slot h.2.2.1 hk4.2.2.1 hr hl hs, q_b1_s, e1, q_bd_s]
  by_cases c : (t_out a r p s).1 = 0
  · rw [if_neg (fun q => q c), if_pos c]
    exact ⟨z1, rfl, e2⟩
  · rw [if_pos c, if_neg c]
    have hn2 : n_ok (t_out a r p s).2.1 := n_ok_up (n_ok_up hn (by omega) _) (by omega) _
    obtain ⟨z3, e3, e4, e5⟩ := r_lay e2 hn2 (hos.2 k o hk).1 (hk4.2.2.2 r p s hr hs).1
    have cg := c_cg (g := (t_out a r p s).2.1) (g2 := a.1) (fun j hj => t_out_nu a r p s (by omega) (by omega)) o s
    rw [cg.1, if_neg hf] at e3
    rw [cg.1] at e5
    obtain ⟨l14, l15, l16, l17, l18, l19, l20, l21, l22, l23⟩ := e5 hf
    rw [e3, q_bd_s]
    unfold f3_asCut f3_area
    simp only [q_b1_s]
    obtain ⟨z4, e6, e7, e8⟩ := e4.od (k := k) hkl (o_cut o s ((t_out a r p s).2.1 5)) (hos.2 k o hk).2
    rw [e4.1 5 (by omega)]
    rw [show (o.1, o.2.1, o.2.2.1, o.2.2.2.1, o.2.2.2.2.1, (1 : Int32), s.1, (t_out a r p s).2.1 5) = o_cut o s ((t_out a r p s).2.1 5) from rfl, e6, q_b1_s]
    simp only [q_let]
    have h7 := e7.si (k := 7) (by omega) ((t_out a r p s).2.1 7 + o.2.2.1 * o.2.2.2.1)
    have h10 := h7.si (k := 10) (by omega) ((t_out a r p s).2.1 10 + c_lost a.1 o s)
    have d7 : z4.1 7 = (t_out a r p s).2.1 7 := e7.1 7 (by omega)
    have d10 : z4.1 10 = (t_out a r p s).2.1 10 := e7.1 10 (by omega)
    have d23 : z4.1 23 = c_lost a.1 o s := by rw [e8, l23, cg.2.2.2.2.2.2.2.2.2]
    have x10 : (g_si z4 7 (z4.1 7 + o.2.2.1 * o.2.2.2.1)).1 10 = z4.1 10 := rfl
    have x23 : (g_si z4 7 (z4.1 7 + o.2.2.1 * o.2.2.2.1)).1 23 = z4.1 23 := rfl
    rw [x10, x23, d23, d7, d10]
    have hr8 : (nI (8 * r + p) / (8 : Int32)) = nI r := by
      simp (disch := omega) only [l8, pk_div]
      congr 1
      omega
    rw [hr8]
    have x15 : (g_si (g_si z4 7 ((t_out a r p s).2.1 7 + o.2.2.1 * o.2.2.2.1)) 10 ((t_out a r p s).2.1 10 + c_lost a.1 o s)).1 15 = c_bw a.1 o s := by
      show z4.1 15 = _
      rw [e8, l15, cg.2.1]
    have x16 : (g_si (g_si z4 7 ((t_out a r p s).2.1 7 + o.2.2.1 * o.2.2.2.1)) 10 ((t_out a r p s).2.1 10 + c_lost a.1 o s)).1 16 = c_bh a.1 o s := by
      show z4.1 16 = _
      rw [e8, l16, cg.2.2.1]
    have x18 : (g_si (g_si z4 7 ((t_out a r p s).2.1 7 + o.2.2.1 * o.2.2.2.1)) 10 ((t_out a r p s).2.1 10 + c_lost a.1 o s)).1 18 = c_aw a.1 o s := by
      show z4.1 18 = _
      rw [e8, l18, cg.2.2.2.2.1]
    have x19 : (g_si (g_si z4 7 ((t_out a r p s).2.1 7 + o.2.2.1 * o.2.2.2.1)) 10 ((t_out a r p s).2.1 10 + c_lost a.1 o s)).1 19 = c_ah a.1 o s := by
      show z4.1 19 = _
      rw [e8, l19, cg.2.2.2.2.2.1]
    rw [x15, x16]
    have hsub := (t_out_sub a (r := r) s hp).length_le
    rw [List.length_eraseIdx, if_pos hp] at hsub
    have hd : r_c (t_done (t_out a r p s).2 a.1 k s o) (g_si (g_si z4 7 ((t_out a r p s).2.1 7 + o.2.2.1 * o.2.2.2.1)) 10 ((t_out a r p s).2.1 10 + c_lost a.1 o s)) := h10
    have hdm : (t_done (t_out a r p s).2 a.1 k s o).1 12 = nI m := by
      show va_up (va_up (t_out a r p s).2.1 7 ((t_out a r p s).2.1 7 + o.2.2.1 * o.2.2.2.1)) 10 ((t_out a r p s).2.1 10 + c_lost a.1 o s) 12 = _
      rw [va_up_ne _ _ (by omega), va_up_ne _ _ (by omega), t_out_nu a r p s (by omega) (by omega)]
      exact hm
    have hdl : ((t_done (t_out a r p s).2 a.1 k s o).2.1 r).length ≤ 7 := by
      show ((t_out a r p s).2.2.1 r).length ≤ 7
      omega
    obtain ⟨z5, k1, k2, k3⟩ := r_keep hd hdm hk4.1 hr (by omega) (c_bw a.1 o s) (c_bh a.1 o s) s
    rw [k1, q_bd_s, k3 18 (by omega), k3 19 (by omega), x18, x19]
    obtain ⟨m2, hm2, hm3⟩ := t_keep_m hdm hk4.1 r (c_bw a.1 o s) (c_bh a.1 o s) s
    obtain ⟨z6, k4, k5, -⟩ := r_keep k2 hm2 hm3 hr (by have := t_keep_len (t_done (t_out a r p s).2 a.1 k s o) r (c_bw a.1 o s) (c_bh a.1 o s) s; omega) (c_aw a.1 o s) (c_ah a.1 o s) s
    rw [k4, q_bd_s]
    exact ⟨z6, rfl, k5⟩
