/-! the choice of a sheet: class -/
theorem i_lt {a b : Int32} (h : ¬ a < b) (n : ¬ a = b) : b < a := by
  rw [Int32.lt_iff_toInt_lt] at *
  have : a.toInt ≠ b.toInt := fun q => n (Int32.toInt_inj.mp q)
  omega
theorem i_le {a b : Int32} (h : a < b) : a ≤ b := by
  rw [Int32.lt_iff_toInt_lt] at h
  rw [Int32.le_iff_toInt_le]
  omega
theorem nI_pos1 {k : Nat} (h1 : 1 ≤ k) (h2 : k ≤ 99) : 0 < nI k := by
  rw [← nI_0, nI_ltI (by omega) (by omega)]
  omega
theorem c_cg {g g2 : Nat → Int32} (h : ∀ k, k < 5 → g k = g2 k) (o : gOd) (s : gSh) : c_lie g o s = c_lie g2 o s ∧ c_bw g o s = c_bw g2 o s ∧ c_bh g o s = c_bh g2 o s ∧ c_ba g o s = c_ba g2 o s ∧ c_aw g o s = c_aw g2 o s ∧ c_ah g o s = c_ah g2 o s ∧ c_aa g o s = c_aa g2 o s ∧ c_kept g o s = c_kept g2 o s ∧ c_scr g o s = c_scr g2 o s ∧ c_lost g o s = c_lost g2 o s := by
  have e0 := h 0 (by omega)
  have e1 := h 1 (by omega)
  have e2 := h 2 (by omega)
  have e4 := h 4 (by omega)
  have l : c_lie g o s = c_lie g2 o s := by unfold c_lie; rw [e4]
  have pw : c_pw g o s = c_pw g2 o s := by unfold c_pw; rw [l]
  have ph : c_ph g o s = c_ph g2 o s := by unfold c_ph; rw [l]
  have bw : c_bw g o s = c_bw g2 o s := by unfold c_bw; rw [pw, e0]
  have bh : c_bh g o s = c_bh g2 o s := by unfold c_bh; rw [ph, e2]
  have aw : c_aw g o s = c_aw g2 o s := by unfold c_aw; rw [pw, e2]
  have ah : c_ah g o s = c_ah g2 o s := by unfold c_ah; rw [ph, e0]
  have ba : c_ba g o s = c_ba g2 o s := by unfold c_ba; rw [bw, bh]
  have aa : c_aa g o s = c_aa g2 o s := by unfold c_aa; rw [aw, ah]
  have kp : c_kept g o s = c_kept g2 o s := by unfold c_kept; rw [bw, bh, aw, ah, ba, aa, e1]
  have sc : c_scr g o s = c_scr g2 o s := by unfold c_scr; rw [ba, aa, kp]
  have lo : c_lost g o s = c_lost g2 o s := by unfold c_lost; rw [ba, aa]
  exact ⟨l, bw, bh, ba, aw, ah, aa, kp, sc, lo⟩
/-- a sheet and an order lie, in a state: the class's layOut -/
theorem r_lay {a : aSt} {z : gSt} (h : r_c a z) (hn : n_ok a.1) {o : gOd} {s : gSh} (ho : o_ok o) (hs : s_ok s) : ∃ z2, f1_layOut z o s = some (if c_lie a.1 o s = -1 then 0 else 1, z2) ∧ r_c a z2 ∧ (¬ c_lie a.1 o s = -1 → c_laid a.1 o s z2) := by
  have hg : ∀ k, k < 5 → z.1 k = a.1 k := fun k hk => h.1 k (by omega)
  obtain ⟨l, bw, bh, ba, aw, ah, aa, kp, sc, lo⟩ := c_cg hg o s
  obtain ⟨-, ⟨w, w1, w2, ew⟩, ⟨y, y1, y2, ey⟩, -⟩ := ho
  obtain ⟨-, ⟨w3, w4, w5, ew2⟩, ⟨y3, y4, y5, ey2⟩⟩ := hs
  have hp : c_pos o s := by
    unfold c_pos
    rw [ew, ey, ew2, ey2]
    exact ⟨nI_pos1 w1 w2, nI_pos1 y1 y2, nI_pos1 w4 w5, nI_pos1 y4 y5⟩
  obtain ⟨z2, e1, e2, e3, e4⟩ := f1_lay_e z o s hp (by rw [h.1 2 (by omega)]; exact hn.2.2.1) (by rw [h.1 4 (by omega)]; exact hn.2.2.2.2.1)
  rw [l] at e1 e4
  refine ⟨z2, e1, ⟨fun k hk => (e3 k (by omega)).trans (h.1 k hk), (e3 13 (by omega)).trans h.2.1, ?_, ?_⟩, fun q => ?_⟩
  · rw [e2]; exact h.2.2.1
  · rw [e2]; exact h.2.2.2
  · obtain ⟨a1, a2, a3, a4, a5, a6, a7, a8, a9, a10⟩ := e4 q
    exact ⟨a1.trans l, a2.trans bw, a3.trans bh, a4.trans ba, a5.trans aw, a6.trans ah, a7.trans aa, a8.trans kp, a9.trans sc, a10.trans lo⟩
def ch_ms (a : aSt) (o : gOd) (c : Int32) (k : Nat) (x : gSh) : Int32 := if c = 0 then x.2.2.1 * x.2.2.2.1 else if c = 1 then nI ((a.2.1 (k / 8)).length - 1 - k % 8) else c_scr a.1 o x
def ch_f (a : aSt) (o : gOd) (k : Nat) (x : gSh) : Prop := (a.2.1 (k / 8))[k % 8]? = some x ∧ ¬ c_lie a.1 o x = -1
/-- v (with measure d) is the best of the places before K -/
def ch_b (a : aSt) (o : gOd) (c : Int32) (K : Nat) (v : Option gSh) (d : Int32) : Prop :=
  match v with
  | none => ∀ k x, k < K → ¬ ch_f a o k x
  | some w => (∃ k, k < K ∧ ch_f a o k w ∧ d = ch_ms a o c k w) ∧ ∀ k x, k < K → ch_f a o k x → d < ch_ms a o c k x ∨ (d = ch_ms a o c k x ∧ w.1 ≤ x.1)
theorem ch_b.skip {a : aSt} {o : gOd} {c : Int32} {K : Nat} {v : Option gSh} {d : Int32} (h : ch_b a o c K v d) (hn : ∀ x, ¬ ch_f a o K x) : ch_b a o c (K + 1) v d := by
  cases v with
  | none =>
    intro k x hk
    by_cases e : k = K
    · subst e; exact hn x
    · exact h k x (by omega)
  | some w =>
    obtain ⟨⟨k, h1, h2⟩, h3⟩ := h
    refine ⟨⟨k, by omega, h2⟩, fun j x hj hf => ?_⟩
    by_cases e : j = K
    · subst e; exact absurd hf (hn x)
    · exact h3 j x (by omega) hf
theorem ch_f.inj {a : aSt} {o : gOd} {k : Nat} {x y : gSh} (h : ch_f a o k x) (h2 : ch_f a o k y) : x = y := by
  have := h.1.symm.trans h2.1
  cases this
  rfl
theorem ch_b.first {a : aSt} {o : gOd} {c : Int32} {K : Nat} {x : gSh} {d : Int32} (h : ch_b a o c K none d) (hf : ch_f a o K x) : ch_b a o c (K + 1) (some x) (ch_ms a o c K x) := by
  refine ⟨⟨K, by omega, hf, rfl⟩, fun j y hj hy => ?_⟩
  by_cases e : j = K
  · subst e
    cases hy.inj hf
    exact Or.inr ⟨rfl, Int32.le_refl _⟩
  · exact absurd hy (h j y (by omega))
theorem ch_b.keep {a : aSt} {o : gOd} {c : Int32} {K : Nat} {w x : gSh} {d : Int32} (h : ch_b a o c K (some w) d) (hf : ch_f a o K x) (hl : d < ch_ms a o c K x ∨ (d = ch_ms a o c K x ∧ w.1 ≤ x.1)) : ch_b a o c (K + 1) (some w) d := by
  obtain ⟨⟨k, h1, h2⟩, h3⟩ := h
  refine ⟨⟨k, by omega, h2⟩, fun j y hj hy => ?_⟩
  by_cases e : j = K
  · subst e
    cases hy.inj hf
    exact hl
  · exact h3 j y (by omega) hy
theorem ch_b.take {a : aSt} {o : gOd} {c : Int32} {K : Nat} {w x : gSh} {d : Int32} (h : ch_b a o c K (some w) d) (hf : ch_f a o K x) (hl : ch_ms a o c K x < d ∨ (ch_ms a o c K x = d ∧ x.1 ≤ w.1)) : ch_b a o c (K + 1) (some x) (ch_ms a o c K x) := by
  obtain ⟨-, h3⟩ := h
  refine ⟨⟨K, by omega, hf, rfl⟩, fun j y hj hy => ?_⟩
  by_cases e : j = K
  · subst e
    cases hy.inj hf
    exact Or.inr ⟨rfl, Int32.le_refl _⟩
  · rcases h3 j y (by omega) hy with q | q
    · rcases hl with p | p
      · exact Or.inl (Int32.lt_trans p q)
      · exact Or.inl (by rw [p.1]; exact q)
    · rcases hl with p | p
      · exact Or.inl (by rw [← q.1]; exact p)
      · exact Or.inr ⟨p.1.trans q.1, Int32.le_trans p.2 q.2⟩
theorem f8_chosen_l {a : aSt} (ha : a_ok a) {o : gOd} (ho : o_ok o) (c : Int32) : ∀ (m n k : Nat) (z : gSt) (v : Option gSh) (d : Int32), k + m = 32 → m < n → r_c a z → ch_b a o c k v d → ∃ z2 w e, f8_chosenSheet_8 n z o c v d (nI k) = some (w, z2) ∧ r_c a z2 ∧ ch_b a o c 32 w e := by
  intro m
  induction m with
  | zero =>
    intro n k z v d hk hn h hb
    obtain ⟨n, rfl⟩ : ∃ k, n = k + 1 := ⟨n - 1, by omega⟩
    obtain rfl : k = 32 := by omega
    refine ⟨z, v, d, ?_, h, hb⟩
    rw [f8_chosenSheet_8]
    cases v with
    | none => rw [q_oc_n, if_pos (by decide)]
    | some w => rw [q_oc_s, if_pos (by decide)]
  | succ m ih =>
    intro n k z v d hk hn h hb
    obtain ⟨n, rfl⟩ : ∃ k, n = k + 1 := ⟨n - 1, by omega⟩
    have hc : ¬ (32 : Int32) ≤ nI k := by
      rw [l32, nI_leI (by omega) (by omega)]
      omega
    have hk1 : nI k + 1 = nI (k + 1) := nI_add k 1
    obtain ⟨mm, em, hk4⟩ := ha.2.1
    rw [f8_chosenSheet_8]
    simp only [hc, if_false, r_inslot z (show k < 32 by omega), h.2.2.1.at (show k < 32 by omega), q_b1_s, hk1]
    cases e : (a.2.1 (k / 8))[k % 8]? with
    | none =>
      have hs : ∀ x, ¬ ch_f a o k x := fun x q => by rw [ch_f, e] at q; cases q.1
      have i1 := ih n (k + 1) z v d (by omega) (by omega) h (hb.skip hs)
      cases v with
      | none => simp only [q_oc_n]; exact i1
      | some w => simp only [q_oc_n, q_oc_s]; exact i1
    | some x =>
      have hsx : s_ok x := (hk4.2.2.2 _ _ _ (by omega) e).1
      obtain ⟨z1, y1, y2, y3⟩ := r_lay h ha.1 ho hsx
      simp only [q_oc_s, y1, q_bd_s]
      by_cases fit : c_lie a.1 o x = -1
      · have hs : ∀ x, ¬ ch_f a o k x := fun x2 q => by
          have := e.symm.trans q.1
          cases this
          exact q.2 fit
        have i1 := ih n (k + 1) z1 v d (by omega) (by omega) y2 (hb.skip hs)
        simp only [fit, if_true]
        cases v with
        | none => simp only [q_oc_n]; exact i1
        | some w => simp only [q_oc_s]; exact i1
      · have hf : ch_f a o k x := ⟨e, fit⟩
        have hms : f8_measureOf z1 x (nI k) c = some (ch_ms a o c k x) := by
          unfold f8_measureOf ch_ms
          by_cases c0 : c = 0
          · rw [if_pos c0, if_pos c0]
            rfl
          · rw [if_neg c0, if_neg c0]
            by_cases c1 : c = 1
            · rw [if_pos c1, if_pos c1]
              have hp : k % 8 < (a.2.1 (k / 8)).length := (List.getElem?_eq_some_iff.mp e).1
              have := r_before (z := z1) y2.2.2.1 (r := k / 8) (p := k % 8) (by omega) (hk4.2.1 _ (by omega)) hp
              rw [show 8 * (k / 8) + k % 8 = k by omega] at this
              rw [this, q_b1_s]
            · rw [if_neg c1, if_neg c1, (y3 fit).2.2.2.2.2.2.2.2.1]
        simp only [fit, if_false, show ¬ (1 : Int32) = 0 by decide, hms, q_b1_s]
        cases v with
        | none =>
          simp only [q_oc_n]
          exact ih n (k + 1) z1 _ _ (by omega) (by omega) y2 (hb.first hf)
        | some w =>
          simp only [q_oc_s]
          by_cases d1 : ch_ms a o c k x < d
          · rw [if_pos d1]
            exact ih n (k + 1) z1 _ _ (by omega) (by omega) y2 (hb.take hf (Or.inl d1))
          · rw [if_neg d1]
            by_cases d2 : ch_ms a o c k x = d
            · rw [if_neg (fun q => q d2)]
              by_cases d3 : w.1 ≤ x.1
              · rw [if_pos d3]
                exact ih n (k + 1) z1 _ _ (by omega) (by omega) y2 (hb.keep hf (Or.inr ⟨d2.symm, d3⟩))
              · rw [if_neg d3]
                exact ih n (k + 1) z1 _ _ (by omega) (by omega) y2 (hb.take hf (Or.inr ⟨d2, i_le (Int32.not_le.mp d3)⟩))
            · rw [if_pos d2]
              exact ih n (k + 1) z1 _ _ (by omega) (by omega) y2 (hb.keep hf (Or.inl (i_lt d1 d2)))
theorem r_chosen {a : aSt} (ha : a_ok a) {z : gSt} (h : r_c a z) {o : gOd} (ho : o_ok o) (c : Int32) : ∃ z2 w e, f8_chosenSheet z o c = some (w, z2) ∧ r_c a z2 ∧ ch_b a o c 32 w e := by
  obtain ⟨z2, w, e, h1, h2⟩ := f8_chosen_l ha ho c 32 70 0 z none 0 (by omega) (by omega) h (fun k x hk => absurd hk (by omega))
  rw [nI_0] at h1
  exact ⟨z2, w, e, h1, h2⟩
