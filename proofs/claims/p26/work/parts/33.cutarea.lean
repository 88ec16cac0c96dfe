/-! AREAS of a cut -/
theorem c_nat {g : Nat → Int32} (hn : n_ok g) {o : gOd} (ho : o_ok o) {s : gSh} (hs : s_ok s) (hf : ¬ c_lie g o s = -1) : ∃ w h pw ph c : Nat, s.2.2.1 = nI w ∧ s.2.2.2.1 = nI h ∧ c_pw g o s = nI pw ∧ c_ph g o s = nI ph ∧ g 0 = nI c ∧ 1 ≤ pw ∧ pw ≤ w ∧ w ≤ 99 ∧ 1 ≤ ph ∧ ph ≤ h ∧ h ≤ 99 ∧ c ≤ 5 ∧ pw * ph = o_ar o := by
  obtain ⟨⟨c, hc, ec⟩, -⟩ := hn
  obtain ⟨-, ⟨ow, ow1, ow2, eow⟩, ⟨oh, oh1, oh2, eoh⟩, -⟩ := ho
  obtain ⟨-, ⟨w, w1, w2, ew⟩, ⟨h, h1, h2, eh⟩⟩ := hs
  have ea : o_ar o = ow * oh := by
    unfold o_ar
    rw [eow, eoh, nI_clamp (by omega), nI_clamp (by omega)]
  unfold c_pw c_ph
  unfold c_lie at hf ⊢
  by_cases c1 : ¬ o.2.1 = s.2.1
  · rw [if_pos c1] at hf; exact absurd rfl hf
  · rw [if_neg c1] at hf ⊢
    by_cases c2 : o.2.2.1 ≤ s.2.2.1 ∧ o.2.2.2.1 ≤ s.2.2.2.1
    · rw [if_pos c2, if_neg (show ¬ (0 : Int32) = 1 by decide), if_neg (show ¬ (0 : Int32) = 1 by decide)]
      have d := c2
      rw [eow, eoh, ew, eh, nI_leI (by omega) (by omega), nI_leI (by omega) (by omega)] at d
      exact ⟨w, h, ow, oh, c, ew, eh, eow, eoh, ec, ow1, d.1, w2, oh1, d.2, h2, hc, ea.symm⟩
    · rw [if_neg c2] at hf ⊢
      by_cases c3 : g 4 = 1 ∧ o.2.2.2.1 ≤ s.2.2.1 ∧ o.2.2.1 ≤ s.2.2.2.1
      · rw [if_pos c3, if_pos rfl, if_pos rfl]
        have d := c3.2
        rw [eow, eoh, ew, eh, nI_leI (by omega) (by omega), nI_leI (by omega) (by omega)] at d
        exact ⟨w, h, oh, ow, c, ew, eh, eoh, eow, ec, oh1, d.1, w2, ow1, d.2, h2, hc, by rw [ea, Nat.mul_comm]⟩
      · rw [if_neg c3] at hf; exact absurd rfl hf
theorem n_pc_d {w p c : Nat} (hp : p ≤ w) (hw : w ≤ 99) (hc : c ≤ 5) (hp1 : 1 ≤ p) : (w - p - c = 0 ∧ ¬ (0 : Int32) < nI w - nI p - nI c) ∨ (1 ≤ w - p - c ∧ nI w - nI p - nI c = nI (w - p - c)) := by
  rw [pk_sub hp]
  by_cases h : p + c < w
  · rw [pk_sub (show c ≤ w - p by omega)]
    exact Or.inr ⟨by omega, rfl⟩
  · refine Or.inl ⟨by omega, fun q => ?_⟩
    rw [Int32.lt_iff_toInt_lt, pk_sub_toInt (by omega) (by omega)] at q
    have e : (0 : Int32).toInt = 0 := by decide
    omega
theorem n_pc_l {w p c k : Nat} (hp : p ≤ w) (hw : w ≤ 99) (hc : c ≤ 5) (hp1 : 1 ≤ p) (hk : 1 ≤ k) (hk2 : k ≤ 99) : n_pc (nI w - nI p - nI c) (nI k) = (w - p - c) * k := by
  unfold n_pc
  rcases n_pc_d hp hw hc hp1 with ⟨e, h⟩ | ⟨e, h⟩
  · rw [if_neg (fun q => h q.1), e, Nat.zero_mul]
  · rw [h, if_pos ⟨(nI_ltI (a := 0) (by omega) (by omega)).mpr e, (nI_ltI (a := 0) (by omega) (by omega)).mpr hk⟩, nI_clamp (by omega), nI_clamp (by omega)]
theorem n_pc_c (w y : Int32) : n_pc w y = n_pc y w := by
  unfold n_pc
  by_cases c : 0 < w ∧ 0 < y
  · rw [if_pos c, if_pos c.symm, Nat.mul_comm]
  · rw [if_neg c, if_neg (fun q => c q.symm)]
theorem n_rect (p q x y c : Nat) : p * q + (x - c) * (q + y) + p * (y - c) ≤ (p + x) * (q + y) := by
  have h1 : (x - c) * (q + y) ≤ x * (q + y) := Nat.mul_le_mul_right _ (Nat.sub_le _ _)
  have h2 : p * (y - c) ≤ p * y := Nat.mul_le_mul_left _ (Nat.sub_le _ _)
  have h3 : (p + x) * (q + y) = p * q + p * y + x * (q + y) := by rw [Nat.add_mul, Nat.mul_add]
  omega
theorem n_rect2 (p q x y c : Nat) : p * q + (x - c) * q + (p + x) * (y - c) ≤ (p + x) * (q + y) := by
  have h1 : (x - c) * q ≤ x * q := Nat.mul_le_mul_right _ (Nat.sub_le _ _)
  have h2 : (p + x) * (y - c) ≤ (p + x) * y := Nat.mul_le_mul_left _ (Nat.sub_le _ _)
  have h3 : (p + x) * (q + y) = p * q + x * q + (p + x) * y := by rw [Nat.mul_add, Nat.add_mul p x q]
  omega
/-- the pieces of a cut, as numbers -/
theorem c_sum {g : Nat → Int32} (hn : n_ok g) {o : gOd} (ho : o_ok o) {s : gSh} (hs : s_ok s) (hf : ¬ c_lie g o s = -1) : o_ar o + n_pc (c_bw g o s) (c_bh g o s) + n_pc (c_aw g o s) (c_ah g o s) ≤ n_ar s := by
  obtain ⟨w, h, pw, ph, c, ew, eh, epw, eph, ec, p1, p2, w2, q1, q2, h2, hc, ea⟩ := c_nat hn ho hs hf
  have es : n_ar s = w * h := by
    unfold n_ar
    rw [ew, eh, nI_clamp (by omega), nI_clamp (by omega)]
  unfold c_bw c_ah c_bh c_aw
  rw [epw, eph, ec, ew, eh, es, ← ea]
  have hx : pw + (w - pw) = w := by omega
  have hy : ph + (h - ph) = h := by omega
  by_cases m : g 2 = 1
  · rw [if_pos m, if_pos m, n_pc_l p2 w2 hc p1 (by omega) h2, n_pc_c, n_pc_l q2 h2 hc q1 (by omega) (by omega)]
    have := n_rect pw ph (w - pw) (h - ph) c
    rw [hx, hy, Nat.mul_comm pw (h - ph - c)] at this
    exact this
  · rw [if_neg m, if_neg m, n_pc_l p2 w2 hc p1 (by omega) (by omega), n_pc_c, n_pc_l q2 h2 hc q1 (by omega) (by omega)]
    have := n_rect2 pw ph (w - pw) (h - ph) c
    rw [hx, hy, Nat.mul_comm w (h - ph - c)] at this
    exact this
theorem c_all {g : Nat → Int32} (hn : n_ok g) {o : gOd} (ho : o_ok o) {s : gSh} (hs : s_ok s) (hf : ¬ c_lie g o s = -1) : ∃ LO KE SC : Nat, c_lost g o s = nI LO ∧ c_kept g o s = nI KE ∧ c_scr g o s = nI SC ∧ LO ≤ 9801 ∧ KE + SC = n_pc (c_bw g o s) (c_bh g o s) + n_pc (c_aw g o s) (c_ah g o s) ∧ n_ar s = o_ar o + LO + n_pc (c_bw g o s) (c_bh g o s) + n_pc (c_aw g o s) (c_ah g o s) ∧
    SC = (if g 1 ≤ c_bw g o s ∧ g 1 ≤ c_bh g o s then 0 else n_pc (c_bw g o s) (c_bh g o s)) + (if g 1 ≤ c_aw g o s ∧ g 1 ≤ c_ah g o s then 0 else n_pc (c_aw g o s) (c_ah g o s)) := by
  have hle := c_sum hn ho hs hf
  have e1 : c_ba g o s = nI (n_pc (c_bw g o s) (c_bh g o s)) := n_pc_e _ _
  have e2 : c_aa g o s = nI (n_pc (c_aw g o s) (c_ah g o s)) := n_pc_e _ _
  have e3 := (n_ar_e hs).1
  have e4 := (o_ar_e ho).1
  have e5 := (n_ar_e hs).2.2
  unfold c_lost c_scr c_kept
  rw [e1, e2, e3, e4]
  generalize n_pc (c_bw g o s) (c_bh g o s) = BA at hle ⊢
  generalize n_pc (c_aw g o s) (c_ah g o s) = AA at hle ⊢
  have k1 : (if g 1 ≤ c_bw g o s ∧ g 1 ≤ c_bh g o s then nI BA else 0) = nI (if g 1 ≤ c_bw g o s ∧ g 1 ≤ c_bh g o s then BA else 0) := by split <;> rfl
  have k2 : (if g 1 ≤ c_aw g o s ∧ g 1 ≤ c_ah g o s then nI AA else 0) = nI (if g 1 ≤ c_aw g o s ∧ g 1 ≤ c_ah g o s then AA else 0) := by split <;> rfl
  rw [k1, k2, nI_add, nI_add]
  refine ⟨n_ar s - o_ar o - BA - AA, _, BA + AA - ((if g 1 ≤ c_bw g o s ∧ g 1 ≤ c_bh g o s then BA else 0) + (if g 1 ≤ c_aw g o s ∧ g 1 ≤ c_ah g o s then AA else 0)), ?_, rfl, ?_, by omega, ?_, by omega, ?_⟩
  · rw [pk_sub (show o_ar o ≤ n_ar s by omega), pk_sub (show BA ≤ n_ar s - o_ar o by omega), pk_sub (show AA ≤ n_ar s - o_ar o - BA by omega)]
  · exact pk_sub (by split <;> split <;> omega)
  · split <;> split <;> omega
  · split <;> split <;> omega
/-- the cut itself keeps areas -/
theorem t_cut_v {a : aSt} (ha : a_ok a) {T : Nat} (hv : v_ok a T 0) {r p k : Nat} {s : gSh} {o : gOd} (hr : r < 4) (hs : (a.2.1 r)[p]? = some s) (hk : a.2.2[k]? = some o) (hop : o_op o = true) (hf : ¬ c_lie a.1 o s = -1) : v_ok (t_cut a r p k s o).2 T 0 := by
  have h := t_out_v ha hv hr hs
  obtain ⟨hn, ⟨m, hm2, hk4⟩, hos⟩ := id ha
  have hso := (hk4.2.2.2 r p s hr hs).1
  have hoo := (hos.2 k o hk).1
  obtain ⟨LO, KE, SC, q1, q2, q3, q4, q5, q6, q7⟩ := c_all hn hoo hso hf
  unfold t_cut
  by_cases c : (t_out a r p s).1 = 0
  · rw [if_pos c] at h ⊢
    exact h
  · rw [if_neg c] at h ⊢
    show v_ok (t_keep (t_keep (t_done (t_out a r p s).2 a.1 k s o) r (c_bw a.1 o s) (c_bh a.1 o s) s).2 r (c_aw a.1 o s) (c_ah a.1 o s) s).2 T 0
    refine t_keep_v hr ?_ s
    refine t_keep_v hr ?_ s
    obtain ⟨P, S, B, Q, h6, h7, h8, h9, h10, hT, hP⟩ := h
    have hop2 : o.2.2.2.2.2.1 = 0 := of_decide_eq_true hop
    have st := n_pn_set a.2.2 k o (o_cut o s ((t_out a r p s).2.1 5)) hk
    rw [if_neg (by rw [hop2]; decide), if_pos (show (o_cut o s ((t_out a r p s).2.1 5)).2.2.2.2.2.1 = 1 from rfl), show o_ar (o_cut o s ((t_out a r p s).2.1 5)) = o_ar o from rfl] at st
    have eP : P = n_pn a.2.2 := hP
    refine ⟨P + o_ar o, S, B, Q + LO, ?_, ?_, ?_, ?_, ?_, ?_, ?_⟩
    · show va_up (va_up (t_out a r p s).2.1 7 ((t_out a r p s).2.1 7 + o.2.2.1 * o.2.2.2.1)) 10 ((t_out a r p s).2.1 10 + c_lost a.1 o s) 6 = _
      rw [va_up_ne _ _ (by omega), va_up_ne _ _ (by omega)]; exact h6
    · show va_up (va_up (t_out a r p s).2.1 7 ((t_out a r p s).2.1 7 + o.2.2.1 * o.2.2.2.1)) 10 ((t_out a r p s).2.1 10 + c_lost a.1 o s) 7 = _
      rw [va_up_ne _ _ (by omega), va_up_at, h7, (o_ar_e hoo).1, nI_add]
    · show va_up (va_up (t_out a r p s).2.1 7 ((t_out a r p s).2.1 7 + o.2.2.1 * o.2.2.2.1)) 10 ((t_out a r p s).2.1 10 + c_lost a.1 o s) 8 = _
      rw [va_up_ne _ _ (by omega), va_up_ne _ _ (by omega)]; exact h8
    · show va_up (va_up (t_out a r p s).2.1 7 ((t_out a r p s).2.1 7 + o.2.2.1 * o.2.2.2.1)) 10 ((t_out a r p s).2.1 10 + c_lost a.1 o s) 9 = _
      rw [va_up_ne _ _ (by omega), va_up_ne _ _ (by omega)]; exact h9
    · show va_up (va_up (t_out a r p s).2.1 7 ((t_out a r p s).2.1 7 + o.2.2.1 * o.2.2.2.1)) 10 ((t_out a r p s).2.1 10 + c_lost a.1 o s) 10 = _
      rw [va_up_at, h10, q1, nI_add]
    · show n_aa (t_out a r p s).2.2.1 + _ + _ + _ + _ + _ = T
      omega
    · show P + o_ar o = n_pn (a.2.2.set k (o_cut o s ((t_out a r p s).2.1 5)))
      omega
