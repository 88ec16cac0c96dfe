/-! how a pane lies, and what a cut makes: g are a state's numbers (0 the cut's width, 1 the least side, 2 the manner, 4 turning) -/
def c_lie (g : Nat → Int32) (o : gOd) (s : gSh) : Int32 :=
  if ¬ o.2.1 = s.2.1 then -1 else if o.2.2.1 ≤ s.2.2.1 ∧ o.2.2.2.1 ≤ s.2.2.2.1 then 0 else if g 4 = 1 ∧ o.2.2.2.1 ≤ s.2.2.1 ∧ o.2.2.1 ≤ s.2.2.2.1 then 1 else -1
def c_pw (g : Nat → Int32) (o : gOd) (s : gSh) : Int32 := if c_lie g o s = 1 then o.2.2.2.1 else o.2.2.1
def c_ph (g : Nat → Int32) (o : gOd) (s : gSh) : Int32 := if c_lie g o s = 1 then o.2.2.1 else o.2.2.2.1
def c_bw (g : Nat → Int32) (o : gOd) (s : gSh) : Int32 := s.2.2.1 - c_pw g o s - g 0
def c_bh (g : Nat → Int32) (o : gOd) (s : gSh) : Int32 := if g 2 = 1 then s.2.2.2.1 else c_ph g o s
def c_aw (g : Nat → Int32) (o : gOd) (s : gSh) : Int32 := if g 2 = 1 then c_pw g o s else s.2.2.1
def c_ah (g : Nat → Int32) (o : gOd) (s : gSh) : Int32 := s.2.2.2.1 - c_ph g o s - g 0
def c_ar (w h : Int32) : Int32 := if 0 < w ∧ 0 < h then w * h else 0
def c_ba (g : Nat → Int32) (o : gOd) (s : gSh) : Int32 := c_ar (c_bw g o s) (c_bh g o s)
def c_aa (g : Nat → Int32) (o : gOd) (s : gSh) : Int32 := c_ar (c_aw g o s) (c_ah g o s)
def c_kb (g : Nat → Int32) (o : gOd) (s : gSh) : Prop := g 1 ≤ c_bw g o s ∧ g 1 ≤ c_bh g o s
def c_ka (g : Nat → Int32) (o : gOd) (s : gSh) : Prop := g 1 ≤ c_aw g o s ∧ g 1 ≤ c_ah g o s
def c_kept (g : Nat → Int32) (o : gOd) (s : gSh) : Int32 := (if g 1 ≤ c_bw g o s ∧ g 1 ≤ c_bh g o s then c_ba g o s else 0) + (if g 1 ≤ c_aw g o s ∧ g 1 ≤ c_ah g o s then c_aa g o s else 0)
def c_scr (g : Nat → Int32) (o : gOd) (s : gSh) : Int32 := c_ba g o s + c_aa g o s - c_kept g o s
def c_lost (g : Nat → Int32) (o : gOd) (s : gSh) : Int32 := s.2.2.1 * s.2.2.2.1 - o.2.2.1 * o.2.2.2.1 - c_ba g o s - c_aa g o s
theorem f1_split_e (z : gSt) (pw ph : Int32) (s : gSh) (hm : z.1 2 = 0 ∨ z.1 2 = 1) : f1_splitSheet z pw ph s = some (g_si (g_si (g_si (g_si z 15 (s.2.2.1 - pw - z.1 0)) 16 (if z.1 2 = 1 then s.2.2.2.1 else ph)) 18 (if z.1 2 = 1 then pw else s.2.2.1)) 19 (s.2.2.2.1 - ph - z.1 0)) := by
  unfold f1_splitSheet f1_splitSheet_13 f1_splitSheet_45 f1_splitSheet_62
  rcases hm with h | h
  · rw [if_neg (by rw [h]; decide)]
    simp only [q_let, show ¬ (1 : Int32) = 0 by decide, if_false, h, show ¬ (0 : Int32) = 1 by decide]
    rfl
  · rw [if_pos (by rw [h]; decide)]
    simp only [q_let, if_true, h]
    rfl
theorem f1_sum97_e (z : gSt) (x : Int32) : f1_sumUp_97 z x = some (g_si (g_si z 22 (z.1 17 + z.1 20 - z.1 21)) 23 (x - z.1 17 - z.1 20)) := rfl
theorem f1_sum68_e (z : gSt) (x l : Int32) : f1_sumUp_68 z x l = f1_sumUp_97 (if l ≤ z.1 18 ∧ l ≤ z.1 19 then g_si z 21 (z.1 21 + z.1 20) else z) x := by
  have nl : ∀ a b : Int32, ¬ a < b ↔ b ≤ a := fun a b => Int32.not_lt
  unfold f1_sumUp_68
  by_cases c3 : z.1 18 < l
  · rw [if_pos c3, if_neg (fun q => (nl _ _).mpr q.1 c3)]
  · rw [if_neg c3]
    by_cases c4 : z.1 19 < l
    · rw [if_pos c4, if_neg (fun q => (nl _ _).mpr q.2 c4)]
    · rw [if_neg c4, if_pos ⟨(nl _ _).mp c3, (nl _ _).mp c4⟩, q_let]
theorem f1_sumUp_e (z : gSt) (x l : Int32) (z3 : gSt) (h3 : z3 = g_si (g_si (g_si z 17 ((if z.1 15 < 0 then 0 else z.1 15) * z.1 16)) 20 (z.1 18 * (if z.1 19 < 0 then 0 else z.1 19))) 21 0) : f1_sumUp z x l = f1_sumUp_68 (if l ≤ z3.1 15 ∧ l ≤ z3.1 16 then g_si z3 21 (z3.1 21 + z3.1 17) else z3) x l := by
  have nl : ∀ a b : Int32, ¬ a < b ↔ b ≤ a := fun a b => Int32.not_lt
  have e : f1_sumUp z x l = if z3.1 15 < l then f1_sumUp_68 z3 x l else if z3.1 16 < l then f1_sumUp_68 z3 x l else f1_sumUp_68 (g_si z3 21 (z3.1 21 + z3.1 17)) x l := by
    rw [h3]; rfl
  rw [e]
  by_cases c3 : z3.1 15 < l
  · rw [if_pos c3, if_neg (fun q => (nl _ _).mpr q.1 c3)]
  · rw [if_neg c3]
    by_cases c4 : z3.1 16 < l
    · rw [if_pos c4, if_neg (fun q => (nl _ _).mpr q.2 c4)]
    · rw [if_neg c4, if_pos ⟨(nl _ _).mp c3, (nl _ _).mp c4⟩]
theorem f1_sum_e (z : gSt) (x l : Int32) : ∃ z2, f1_sumUp z x l = some z2 ∧ z2.2 = z.2 ∧ (∀ k, k < 17 ∨ k = 18 ∨ k = 19 → z2.1 k = z.1 k) ∧ z2.1 17 = (if z.1 15 < 0 then 0 else z.1 15) * z.1 16 ∧ z2.1 20 = z.1 18 * (if z.1 19 < 0 then 0 else z.1 19) ∧
    z2.1 21 = (if l ≤ z.1 15 ∧ l ≤ z.1 16 then (if z.1 15 < 0 then 0 else z.1 15) * z.1 16 else 0) + (if l ≤ z.1 18 ∧ l ≤ z.1 19 then z.1 18 * (if z.1 19 < 0 then 0 else z.1 19) else 0) ∧ z2.1 22 = z2.1 17 + z2.1 20 - z2.1 21 ∧ z2.1 23 = x - z2.1 17 - z2.1 20 := by
  refine ⟨_, (f1_sumUp_e z x l _ rfl).trans ((f1_sum68_e _ x l).trans (f1_sum97_e _ x)), ?_⟩
  have a15 : (g_si (g_si (g_si z 17 ((if z.1 15 < 0 then 0 else z.1 15) * z.1 16)) 20 (z.1 18 * (if z.1 19 < 0 then 0 else z.1 19))) 21 0).1 15 = z.1 15 := rfl
  have a16 : (g_si (g_si (g_si z 17 ((if z.1 15 < 0 then 0 else z.1 15) * z.1 16)) 20 (z.1 18 * (if z.1 19 < 0 then 0 else z.1 19))) 21 0).1 16 = z.1 16 := rfl
  rw [a15, a16]
  have b18 : ∀ (w : gSt) (v : Int32), (g_si w 21 v).1 18 = w.1 18 := fun _ _ => rfl
  have b19 : ∀ (w : gSt) (v : Int32), (g_si w 21 v).1 19 = w.1 19 := fun _ _ => rfl
  have d18 : ∀ (w : gSt) (v v2 : Int32), (g_si (g_si w 17 v) 20 v2).1 18 = w.1 18 := fun _ _ _ => rfl
  have d19 : ∀ (w : gSt) (v v2 : Int32), (g_si (g_si w 17 v) 20 v2).1 19 = w.1 19 := fun _ _ _ => rfl
  by_cases c1 : l ≤ z.1 15 ∧ l ≤ z.1 16
  · simp only [if_pos c1, b18, b19, d18, d19]
    by_cases c2 : l ≤ z.1 18 ∧ l ≤ z.1 19
    · simp only [if_pos c2]
      refine ⟨rfl, fun k hk => ?_, rfl, rfl, ?_, rfl, rfl⟩
      · simp only [g_si, q_up]; repeat rw [if_neg (by omega)]
      · simp [g_si, q_up]
    · simp only [if_neg c2]
      refine ⟨rfl, fun k hk => ?_, rfl, rfl, ?_, rfl, rfl⟩
      · simp only [g_si, q_up]; repeat rw [if_neg (by omega)]
      · simp [g_si, q_up]
  · simp only [if_neg c1, b18, b19, d18, d19]
    by_cases c2 : l ≤ z.1 18 ∧ l ≤ z.1 19
    · simp only [if_pos c2]
      refine ⟨rfl, fun k hk => ?_, rfl, rfl, ?_, rfl, rfl⟩
      · simp only [g_si, q_up]; repeat rw [if_neg (by omega)]
      · simp [g_si, q_up]
    · simp only [if_neg c2]
      refine ⟨rfl, fun k hk => ?_, rfl, rfl, ?_, rfl, rfl⟩
      · simp only [g_si, q_up]; repeat rw [if_neg (by omega)]
      · simp [g_si, q_up]
