theorem c_ar_l {w h : Int32} (hh : 0 < h) : (if w < 0 then 0 else w) * h = c_ar w h := by
  unfold c_ar
  by_cases c : 0 < w
  · rw [if_neg (fun q => Int32.lt_irrefl (Int32.lt_trans q c)), if_pos ⟨c, hh⟩]
  · rw [if_neg (show ¬ (0 < w ∧ 0 < h) from fun q => c q.1)]
    by_cases c2 : w < 0
    · rw [if_pos c2, Int32.zero_mul]
    · have e : w = 0 := Int32.le_antisymm (Int32.not_lt.mp c) (Int32.not_lt.mp c2)
      rw [if_neg c2, e, Int32.zero_mul]
theorem c_ar_r {w h : Int32} (hw : 0 < w) : w * (if h < 0 then 0 else h) = c_ar w h := by
  rw [Int32.mul_comm, c_ar_l hw]
  unfold c_ar
  by_cases c : 0 < w ∧ 0 < h
  · rw [if_pos ⟨c.2, c.1⟩, if_pos c, Int32.mul_comm]
  · rw [if_neg (fun q => c ⟨q.2, q.1⟩), if_neg c]
def c_pos (o : gOd) (s : gSh) : Prop := 0 < o.2.2.1 ∧ 0 < o.2.2.2.1 ∧ 0 < s.2.2.1 ∧ 0 < s.2.2.2.1
/-- what a state holds behind a laying-out that fits -/
def c_laid (g : Nat → Int32) (o : gOd) (s : gSh) (z2 : gSt) : Prop := z2.1 14 = c_lie g o s ∧ z2.1 15 = c_bw g o s ∧ z2.1 16 = c_bh g o s ∧ z2.1 17 = c_ba g o s ∧ z2.1 18 = c_aw g o s ∧ z2.1 19 = c_ah g o s ∧ z2.1 20 = c_aa g o s ∧ z2.1 21 = c_kept g o s ∧ z2.1 22 = c_scr g o s ∧ z2.1 23 = c_lost g o s
theorem f1_lay_125 (z : gSt) (o : gOd) (s : gSh) (hp : c_pos o s) (hm : z.1 2 = 0 ∨ z.1 2 = 1) (g : Nat → Int32) (hg : ∀ k, k < 5 → z.1 k = g k) (h14 : z.1 14 = c_lie g o s) : ∃ z2, f1_layOut_125 z o s (c_pw g o s) (c_ph g o s) = some (1, z2) ∧ z2.2 = z.2 ∧ (∀ k, k < 14 → z2.1 k = z.1 k) ∧ c_laid g o s z2 := by
  unfold f1_layOut_125
  rw [f1_split_e z _ _ s hm]
  simp only [q_b1_s, f7_area, f3_area]
  obtain ⟨z2, e1, e2, e3, e4, e5, e6, e7, e8⟩ := f1_sum_e (g_si (g_si (g_si (g_si z 15 (s.2.2.1 - c_pw g o s - z.1 0)) 16 (if z.1 2 = 1 then s.2.2.2.1 else c_ph g o s)) 18 (if z.1 2 = 1 then c_pw g o s else s.2.2.1)) 19 (s.2.2.2.1 - c_ph g o s - z.1 0)) (s.2.2.1 * s.2.2.2.1 - o.2.2.1 * o.2.2.2.1) (z.1 1)
  have r1 : (g_si (g_si (g_si (g_si z 15 (s.2.2.1 - c_pw g o s - z.1 0)) 16 (if z.1 2 = 1 then s.2.2.2.1 else c_ph g o s)) 18 (if z.1 2 = 1 then c_pw g o s else s.2.2.1)) 19 (s.2.2.2.1 - c_ph g o s - z.1 0)).1 1 = z.1 1 := by simp [g_si, q_up]
  rw [r1]
  refine ⟨z2, by rw [e1, q_b1_s], e2, fun k hk => ?_, ?_⟩
  · rw [e3 k (by omega)]
    simp only [g_si, q_up]
    repeat rw [if_neg (by omega)]
  · have pph : 0 < c_ph g o s := by unfold c_ph; split; exact hp.1; exact hp.2.1
    have ppw : 0 < c_pw g o s := by unfold c_pw; split; exact hp.2.1; exact hp.1
    have f15 : s.2.2.1 - c_pw g o s - z.1 0 = c_bw g o s := by rw [hg 0 (by omega)]; rfl
    have f16 : (if z.1 2 = 1 then s.2.2.2.1 else c_ph g o s) = c_bh g o s := by rw [hg 2 (by omega)]; rfl
    have f18 : (if z.1 2 = 1 then c_pw g o s else s.2.2.1) = c_aw g o s := by rw [hg 2 (by omega)]; rfl
    have f19 : s.2.2.2.1 - c_ph g o s - z.1 0 = c_ah g o s := by rw [hg 0 (by omega)]; rfl
    have pbh : 0 < c_bh g o s := by unfold c_bh; split; exact hp.2.2.2; exact pph
    have paw : 0 < c_aw g o s := by unfold c_aw; split; exact ppw; exact hp.2.2.1
    rw [f15, f16, f18, f19] at e3 e4 e5 e6
    have b14 := e3 14 (by omega)
    have b15 := e3 15 (by omega)
    have b16 := e3 16 (by omega)
    have b18 := e3 18 (by omega)
    have b19 := e3 19 (by omega)
    simp [g_si, q_up] at b14 b15 b16 b18 b19 e4 e5 e6
    rw [hg 1 (by omega)] at e6
    rw [c_ar_l pbh] at e4 e6
    rw [c_ar_r paw] at e5 e6
    refine ⟨b14.trans h14, b15, b16, e4, b18, b19, e5, e6, ?_, ?_⟩
    · rw [e7, e4, e5, e6]; rfl
    · rw [e8, e4, e5]; rfl
theorem f1_lay_e (z : gSt) (o : gOd) (s : gSh) (hp : c_pos o s) (hm : z.1 2 = 0 ∨ z.1 2 = 1) (ht : z.1 4 = 0 ∨ z.1 4 = 1) : ∃ z2, f1_layOut z o s = some (if c_lie z.1 o s = -1 then 0 else 1, z2) ∧ z2.2 = z.2 ∧ (∀ k, k < 14 → z2.1 k = z.1 k) ∧ (¬ c_lie z.1 o s = -1 → c_laid z.1 o s z2) := by
  have nl : ∀ a b : Int32, ¬ a < b ↔ b ≤ a := fun a b => Int32.not_lt
  have main : ∀ (y : Int32), (y = 0 ∨ y = 1) → c_lie z.1 o s = (if y = 0 then 1 else 0) → ∃ z2, f1_layOut_78 z o s y = some (1, z2) ∧ z2.2 = z.2 ∧ (∀ k, k < 14 → z2.1 k = z.1 k) ∧ c_laid z.1 o s z2 := by
    intro y hy hl
    have key : ∃ z2, f1_layOut_125 (g_si z 14 (c_lie z.1 o s)) o s (c_pw z.1 o s) (c_ph z.1 o s) = some (1, z2) ∧ z2.2 = z.2 ∧ (∀ k, k < 14 → z2.1 k = (g_si z 14 (c_lie z.1 o s)).1 k) ∧ c_laid z.1 o s z2 :=
      f1_lay_125 _ o s hp (by simpa [g_si, q_up] using hm) z.1 (fun k hk => by simp only [g_si, q_up]; rw [if_neg (by omega)]) (by simp [g_si, q_up])
    obtain ⟨z2, e1, e2, e3, e4⟩ := key
    refine ⟨z2, ?_, e2, fun k hk => by rw [e3 k hk]; simp only [g_si, q_up]; rw [if_neg (by omega)], e4⟩
    unfold f1_layOut_78 f1_layOut_89 f1_layOut_109
    rcases hy with rfl | rfl
    · rw [if_pos rfl] at hl
      simp only [not_true, if_false, q_let, if_true, show ((1 : Int32) = 0 ∨ (1 : Int32) = 1) from Or.inr rfl]
      rw [← e1]
      simp only [hl, c_pw, c_ph, if_true, or_true]
    · rw [if_neg (by decide)] at hl
      simp only [show ¬ (1 : Int32) = 0 by decide, not_false_iff, if_false, q_let, if_true, show ((0 : Int32) = 0 ∨ (0 : Int32) = 1) from Or.inl rfl]
      rw [← e1]
      simp only [hl, c_pw, c_ph, show ¬ (0 : Int32) = 1 by decide, if_false, if_true, true_or]
  have bad : ∀ {y : Int32}, c_lie z.1 o s = -1 → ∃ z2 : gSt, (some ((0 : Int32), z) = some (if c_lie z.1 o s = -1 then 0 else 1, z2)) ∧ z2.2 = z.2 ∧ (∀ k, k < 14 → z2.1 k = z.1 k) ∧ (¬ c_lie z.1 o s = -1 → c_laid z.1 o s z2) := fun h => ⟨z, by rw [if_pos h], rfl, fun _ _ => rfl, fun q => absurd h q⟩
  have good : ∀ {v : Option (Int32 × gSt)}, ¬ c_lie z.1 o s = -1 → (∃ z2, v = some (1, z2) ∧ z2.2 = z.2 ∧ (∀ k, k < 14 → z2.1 k = z.1 k) ∧ c_laid z.1 o s z2) → ∃ z2, v = some (if c_lie z.1 o s = -1 then 0 else 1, z2) ∧ z2.2 = z.2 ∧ (∀ k, k < 14 → z2.1 k = z.1 k) ∧ (¬ c_lie z.1 o s = -1 → c_laid z.1 o s z2) := by
    intro v h ⟨z2, a, b, c, d⟩
    exact ⟨z2, by rw [if_neg h]; exact a, b, c, fun _ => d⟩
  unfold f1_layOut f1_layOut_39
  by_cases c0 : o.2.1 = s.2.1
  · rw [if_pos c0]
    have turn : ¬ (o.2.2.1 ≤ s.2.2.1 ∧ o.2.2.2.1 ≤ s.2.2.2.1) → ∃ z2, f1_layOut_40 z o s 0 = some (if c_lie z.1 o s = -1 then 0 else 1, z2) ∧ z2.2 = z.2 ∧ (∀ k, k < 14 → z2.1 k = z.1 k) ∧ (¬ c_lie z.1 o s = -1 → c_laid z.1 o s z2) := by
      intro hn
      unfold f1_layOut_40
      rw [if_neg (by decide)]
      by_cases c3 : z.1 4 = 0
      · rw [if_pos c3]
        exact bad (y := 0) (by unfold c_lie; rw [if_neg (fun q => q c0), if_neg hn, if_neg (fun q => by have := q.1; rw [c3] at this; revert this; decide)])
      · have c3' : z.1 4 = 1 := ht.resolve_left c3
        rw [if_neg c3]
        by_cases c4 : s.2.2.1 < o.2.2.2.1
        · rw [if_pos c4]
          exact bad (y := 0) (by unfold c_lie; rw [if_neg (fun q => q c0), if_neg hn, if_neg (fun q => (nl _ _).mpr q.2.1 c4)])
        · rw [if_neg c4]
          by_cases c5 : o.2.2.1 ≤ s.2.2.2.1
          · rw [if_pos c5]
            have hl : c_lie z.1 o s = 1 := by unfold c_lie; rw [if_neg (fun q => q c0), if_neg hn, if_pos ⟨c3', (nl _ _).mp c4, c5⟩]
            exact good (by rw [hl]; decide) (main 0 (Or.inl rfl) (by rw [hl]; rfl))
          · rw [if_neg c5]
            exact bad (y := 0) (by unfold c_lie; rw [if_neg (fun q => q c0), if_neg hn, if_neg (fun q => c5 q.2.2)])
    by_cases c1 : s.2.2.1 < o.2.2.1
    · rw [if_pos c1]
      exact turn (fun q => (nl _ _).mpr q.1 c1)
    · rw [if_neg c1]
      by_cases c2 : s.2.2.2.1 < o.2.2.2.1
      · rw [if_pos c2]
        exact turn (fun q => (nl _ _).mpr q.2 c2)
      · rw [if_neg c2]
        have hl : c_lie z.1 o s = 0 := by unfold c_lie; rw [if_neg (fun q => q c0), if_pos ⟨(nl _ _).mp c1, (nl _ _).mp c2⟩]
        unfold f1_layOut_40
        rw [if_pos (by decide)]
        exact good (by rw [hl]; decide) (main 1 (Or.inr rfl) (by rw [hl]; rfl))
  · rw [if_neg c0]
    exact bad (y := 0) (by unfold c_lie; rw [if_pos c0])
