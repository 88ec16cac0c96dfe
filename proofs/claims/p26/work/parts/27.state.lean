/-! THE STATE IN WORDS: numbers (as the class's, 0 to 12), racks (the rearmost sheet first), orders -/
abbrev aSt : Type := (Nat → Int32) × (Nat → List gSh) × List gOd
def r_c (a : aSt) (z : gSt) : Prop := (∀ k, k < 13 → z.1 k = a.1 k) ∧ z.1 13 = nI a.2.2.length ∧ r_sl a.2.1 z.2.1 ∧ r_ol a.2.2 z.2.2
def s_ok (s : gSh) : Prop := (∃ q, q < 3 ∧ s.2.1 = nI q) ∧ (∃ w, 1 ≤ w ∧ w ≤ 99 ∧ s.2.2.1 = nI w) ∧ (∃ h, 1 ≤ h ∧ h ≤ 99 ∧ s.2.2.2.1 = nI h)
/-- the numbers are in their ranges -/
def n_ok (g : Nat → Int32) : Prop := (∃ c, c ≤ 5 ∧ g 0 = nI c) ∧ (∃ l, 1 ≤ l ∧ l ≤ 99 ∧ g 1 = nI l) ∧ (g 2 = 0 ∨ g 2 = 1) ∧ (∃ f, f ≤ 50 ∧ g 3 = nI f) ∧ (g 4 = 0 ∨ g 4 = 1) ∧ (∃ d, d ≤ 999 ∧ g 5 = nI d)
/-- the racks are in order: m sheets have been -/
def k_ok (m : Nat) (L : Nat → List gSh) : Prop := m ≤ 200 ∧ (∀ r, r < 4 → (L r).length ≤ 8) ∧ r_un L ∧ ∀ (r p : Nat) (s : gSh), r < 4 → (L r)[p]? = some s → s_ok s ∧ ∃ k, k < m ∧ s.1 = nI k
def a_ok (a : aSt) : Prop := n_ok a.1 ∧ (∃ m, a.1 12 = nI m ∧ k_ok m a.2.1) ∧ r_os a.2.2
theorem r_c.si {a : aSt} {z : gSt} (h : r_c a z) {k : Nat} (hk : k < 13) (x : Int32) : r_c (va_up a.1 k x, a.2) (g_si z k x) := by
  refine ⟨fun j hj => ?_, ?_, h.2.2.1, h.2.2.2⟩
  · show (if j = k then x else z.1 j) = if j = k then x else a.1 j
    rw [h.1 j hj]
  · show (if 13 = k then x else z.1 13) = _
    rw [if_neg (by omega)]
    exact h.2.1
/-- does it break at this lifting -/
def t_br (fr l : Int32) : Bool := ¬ fr ≤ 0 ∧ l - l / fr * fr = 0
/-- the sheets before another are lifted, the front one first: liftings, what is broken, those that are put back (the rearmost first) -/
def t_lift (fr : Int32) : List gSh → Int32 → Int32 → List gSh → Int32 × Int32 × List gSh
  | [], l, b, K => (l, b, K)
  | y :: ys, l, b, K => if t_br fr (l + 1) = true then t_lift fr ys (l + 1) (b + y.2.2.1 * y.2.2.2.1) K else t_lift fr ys (l + 1) b (y :: K)
/-- behind a lifting of those before x: whole (1) or broken (0), and the state -/
def t_end (a : aSt) (r : Nat) (B : List gSh) (x : gSh) (q : Int32 × Int32 × List gSh) : Int32 × aSt :=
  (if t_br (a.1 3) (q.1 + 1) = true then 0 else 1, va_up (va_up a.1 11 (q.1 + 1)) 9 (if t_br (a.1 3) (q.1 + 1) = true then q.2.1 + x.2.2.1 * x.2.2.2.1 else q.2.1), va_up a.2.1 r (B ++ q.2.2), a.2.2)
/-- a taking out of x, at place p of rack r -/
def t_out (a : aSt) (r p : Nat) (x : gSh) : Int32 × aSt :=
  t_end a r ((a.2.1 r).take p) x (t_lift (a.1 3) ((a.2.1 r).drop (p + 1)).reverse (a.1 11) (a.1 9) [])
theorem f8_break_e {a : aSt} {z : gSt} (h : r_c a z) {r q : Nat} {y : gSh} (hr : r < 4) (hl : (a.2.1 r).length ≤ 8) (hy : (a.2.1 r)[q]? = some y) : ∃ z2, f8_breakSheet z (nI (8 * r + q)) = some z2 ∧ r_c (va_up a.1 9 (a.1 9 + y.2.2.1 * y.2.2.2.1), va_up a.2.1 r ((a.2.1 r).eraseIdx q), a.2.2) z2 := by
  have hq : q < (a.2.1 r).length := (List.getElem?_eq_some_iff.mp hy).1
  have h1 := h.si (k := 9) (by omega) (a.1 9 + y.2.2.1 * y.2.2.2.1)
  obtain ⟨z2, e1, e2, e3, e4⟩ := r_rem (z := g_si z 9 (z.1 9 + y.2.2.1 * y.2.2.2.1)) (L := a.2.1) h.2.2.1 hr hl hq
  refine ⟨z2, ?_, ?_⟩
  · unfold f8_breakSheet
    rw [r_inslot z (by omega), q_b1_s, h.2.2.1 r q hr (by omega), hy, q_oc_s]
    simp only [f7_area, q_b1_s, q_let]
    rw [e1, q_b1_s]
  · rw [h.1 9 (by omega)] at e2 e3
    exact ⟨fun k hk => by rw [e2]; exact h1.1 k hk, by rw [e2]; exact h1.2.1, e4, by rw [e3]; exact h.2.2.2⟩
theorem va_up_up {α : Type} (f : Nat → α) (k : Nat) (x y : α) : va_up (va_up f k x) k y = va_up f k y := by
  funext j
  simp only [va_up]
  split <;> rfl
theorem va_up_at {α : Type} (f : Nat → α) (k : Nat) (x : α) : va_up f k x k = x := by simp [va_up]
theorem va_up_cm {α : Type} (f : Nat → α) {k j : Nat} (x y : α) (h : k ≠ j) : va_up (va_up f k x) j y = va_up (va_up f j y) k x := by
  funext i
  simp only [va_up]
  by_cases c : i = j
  · subst c
    rw [if_pos rfl, if_neg (fun q => h q.symm), if_pos rfl]
  · rw [if_neg c, if_neg c]
theorem t_end_y {a : aSt} {r : Nat} {B : List gSh} {x : gSh} {q : Int32 × Int32 × List gSh} (h : t_br (a.1 3) (q.1 + 1) = true) : t_end a r B x q = (0, va_up (va_up a.1 11 (q.1 + 1)) 9 (q.2.1 + x.2.2.1 * x.2.2.2.1), va_up a.2.1 r (B ++ q.2.2), a.2.2) := by
  unfold t_end
  rw [if_pos h, if_pos h]
theorem t_end_n {a : aSt} {r : Nat} {B : List gSh} {x : gSh} {q : Int32 × Int32 × List gSh} (h : ¬ t_br (a.1 3) (q.1 + 1) = true) : t_end a r B x q = (1, va_up (va_up a.1 11 (q.1 + 1)) 9 q.2.1, va_up a.2.1 r (B ++ q.2.2), a.2.2) := by
  unfold t_end
  rw [if_neg h, if_neg h]
theorem t_end_up {a a2 : aSt} {r : Nat} {B : List gSh} {x : gSh} {q : Int32 × Int32 × List gSh} (h : ∀ k, k ≠ 11 → k ≠ 9 → a2.1 k = a.1 k) (h2 : ∀ k, k ≠ r → a2.2.1 k = a.2.1 k) (h3 : a2.2.2 = a.2.2) : t_end a2 r B x q = t_end a r B x q := by
  unfold t_end
  rw [h 3 (by omega) (by omega), h3]
  have e1 : ∀ (u v : Int32), va_up (va_up a2.1 11 u) 9 v = va_up (va_up a.1 11 u) 9 v := by
    intro u v
    funext k
    by_cases c : k = 9
    · subst c; rw [va_up_at, va_up_at]
    · rw [va_up_ne _ _ c, va_up_ne _ _ c]
      by_cases c2 : k = 11
      · subst c2; rw [va_up_at, va_up_at]
      · rw [va_up_ne _ _ c2, va_up_ne _ _ c2, h k c2 c]
  have e2 : ∀ (u : List gSh), va_up a2.2.1 r u = va_up a.2.1 r u := by
    intro u
    funext k
    by_cases c : k = r
    · subst c; rw [va_up_at, va_up_at]
    · rw [va_up_ne _ _ c, va_up_ne _ _ c, h2 k c]
  rw [e1, e2]
theorem n_ok_up {g : Nat → Int32} (h : n_ok g) {k : Nat} (hk : 6 ≤ k) (v : Int32) : n_ok (va_up g k v) := by
  unfold n_ok at h ⊢
  have e : ∀ j, j < 6 → va_up g k v j = g j := fun j hj => va_up_ne _ _ (by omega)
  rw [e 0 (by omega), e 1 (by omega), e 2 (by omega), e 3 (by omega), e 4 (by omega), e 5 (by omega)]
  exact h
theorem f8_take_l {r p : Nat} (hr : r < 4) (x : gSh) (B : List gSh) (hB : B.length = p) : ∀ (Fs : List gSh) (n : Nat) (z : gSt) (w : Int32) (K : List gSh) (a : aSt), r_c a z → n_ok a.1 → a.2.1 r = B ++ x :: (Fs.reverse ++ K) → (a.2.1 r).length ≤ 8 → Fs.length + 2 ≤ n → (w = 0 ∨ w = 1) →
    ∃ z2, f8_takeOut_11 n z (nI (8 * r + p)) w (nI Fs.length) = some ((t_end a r B x (t_lift (a.1 3) Fs (a.1 11) (a.1 9) K)).1, z2) ∧ r_c (t_end a r B x (t_lift (a.1 3) Fs (a.1 11) (a.1 9) K)).2 z2 := by
  intro Fs
  induction Fs with
  | nil =>
    intro n z w K a h ho hL hl hn hw
    obtain ⟨n, rfl⟩ : ∃ k, n = k + 1 + 1 := ⟨n - 2, by simp at hn; omega⟩
    have hx : (a.2.1 r)[p]? = some x := by rw [hL]; simp [hB]
    have hp : p < (a.2.1 r).length := (List.getElem?_eq_some_iff.mp hx).1
    have h1 := h.si (k := 11) (by omega) (a.1 11 + 1)
    have hl' : (B ++ K) = (a.2.1 r).eraseIdx p := by
      rw [hL, List.eraseIdx_append_of_length_le (by omega), show p - B.length = 0 by omega]
      rfl
    rw [f8_takeOut_11]
    simp (disch := omega) only [List.length_nil, q_lt0, if_false]
    rw [show (nI 0 + (-1) : Int32) = -1 from rfl, q_let, h.1 11 (by omega)]
    have e3 : (g_si z 11 (a.1 11 + 1)).1 3 = a.1 3 := (h.si (k := 11) (by omega) (a.1 11 + 1)).1 3 (by omega)
    have e11 : (g_si z 11 (a.1 11 + 1)).1 11 = a.1 11 + 1 := by simp [g_si, q_up]
    rw [e3, e11]
    rw [show t_lift (a.1 3) [] (a.1 11) (a.1 9) K = (a.1 11, a.1 9, K) from rfl]
    have fin1 : ¬ t_br (a.1 3) (a.1 11 + 1) = true → ∃ z2, f8_takeOut_11 (n + 1) (g_si z 11 (a.1 11 + 1)) (nI (8 * r + p)) 1 (-1) = some ((t_end a r B x (a.1 11, a.1 9, K)).1, z2) ∧ r_c (t_end a r B x (a.1 11, a.1 9, K)).2 z2 := by
      intro nb
      rw [t_end_n (a := a) (r := r) (B := B) (x := x) (q := (a.1 11, a.1 9, K)) nb]
      obtain ⟨z2, r1, r2, r3, r4⟩ := r_rem (z := g_si z 11 (a.1 11 + 1)) h.2.2.1 hr hl hp
      refine ⟨z2, ?_, ?_⟩
      · rw [f8_takeOut_11]
        simp only [show (-1 : Int32) < 0 by decide, if_true, show ¬ (1 : Int32) = 0 by decide, if_false]
        rw [r1, q_b1_s]
        simp only [or_true, if_true]
      · refine ⟨fun k hk => ?_, ?_, ?_, ?_⟩
        · rw [r2, h1.1 k hk]
          show va_up a.1 11 (a.1 11 + 1) k = va_up (va_up a.1 11 (a.1 11 + 1)) 9 (a.1 9) k
          by_cases c : k = 9
          · subst c; rw [va_up_at, va_up_ne _ _ (by omega)]
          · rw [va_up_ne _ _ c]
        · rw [r2]; exact h1.2.1
        · show r_sl (va_up a.2.1 r (B ++ K)) z2.2.1
          rw [hl']; exact r4
        · rw [r3]; exact h.2.2.2
    by_cases c1 : a.1 3 ≤ 0
    · have nb : ¬ t_br (a.1 3) (a.1 11 + 1) = true := by simp [t_br, c1]
      rw [if_pos c1]
      exact fin1 nb
    · have c0 : ¬ a.1 3 = 0 := fun q => c1 (by rw [q]; exact Int32.le_refl 0)
      rw [if_neg c1, if_pos c0]
      by_cases c2 : a.1 11 + 1 - (a.1 11 + 1) / a.1 3 * a.1 3 = 0
      · have yb : t_br (a.1 3) (a.1 11 + 1) = true := by simp [t_br, c1, c2]
        rw [if_pos c2, t_end_y (a := a) (r := r) (B := B) (x := x) (q := (a.1 11, a.1 9, K)) yb]
        obtain ⟨z2, b1, b2⟩ := f8_break_e h1 hr (by exact hl) (by exact hx)
        refine ⟨z2, ?_, ?_⟩
        · rw [show nI (8 * r + p) + nI 0 = nI (8 * r + p) by rw [nI_add]; rfl]
          simp only [show ((-1 : Int32) + 1) = 0 by decide]
          first
            | rw [b1, q_b1_s, f8_takeOut_11]
            | rw [show nI (8 * r + p) + (0 : Int32) = nI (8 * r + p) from nI_add _ 0, b1, q_b1_s, f8_takeOut_11]
          simp only [show (-1 : Int32) < 0 by decide, if_true, true_or]
        · show r_c (va_up (va_up a.1 11 (a.1 11 + 1)) 9 (a.1 9 + x.2.2.1 * x.2.2.2.1), va_up a.2.1 r (B ++ K), a.2.2) z2
          rw [hl']
          have e9 : va_up a.1 11 (a.1 11 + 1) 9 = a.1 9 := va_up_ne _ _ (by omega)
          simp only [e9] at b2
          exact b2
      · have nb : ¬ t_br (a.1 3) (a.1 11 + 1) = true := by simp [t_br, c2]
        rw [if_neg c2]
        exact fin1 nb
  | cons y ys ih =>
    intro n z w K a h ho hL hl hn hw
    obtain ⟨n, rfl⟩ : ∃ k, n = k + 1 := ⟨n - 1, by simp at hn; omega⟩
    simp only [List.length_cons] at hn ⊢
    have h1 := h.si (k := 11) (by omega) (a.1 11 + 1)
    have hlen : (a.2.1 r).length = p + 1 + (ys.length + 1) + K.length := by rw [hL]; simp; omega
    rw [f8_takeOut_11]
    simp (disch := omega) only [q_lt0, if_false]
    rw [pk_m1, q_let, h.1 11 (by omega)]
    have e3 : (g_si z 11 (a.1 11 + 1)).1 3 = a.1 3 := h1.1 3 (by omega)
    have e11 : (g_si z 11 (a.1 11 + 1)).1 11 = a.1 11 + 1 := by simp [g_si, q_up]
    rw [e3, e11]
    have hL1 : a.2.1 r = B ++ x :: (ys.reverse ++ (y :: K)) := by rw [hL]; simp
    have keep : ¬ t_br (a.1 3) (a.1 11 + 1) = true → ∃ z2, f8_takeOut_11 n (g_si z 11 (a.1 11 + 1)) (nI (8 * r + p)) 1 (nI ys.length) = some ((t_end a r B x (t_lift (a.1 3) (y :: ys) (a.1 11) (a.1 9) K)).1, z2) ∧ r_c (t_end a r B x (t_lift (a.1 3) (y :: ys) (a.1 11) (a.1 9) K)).2 z2 := by
      intro nb
      obtain ⟨z2, i1, i2⟩ := ih n (g_si z 11 (a.1 11 + 1)) 1 (y :: K) (va_up a.1 11 (a.1 11 + 1), a.2) h1 (n_ok_up ho (by omega) _) hL1 hl (by omega) (Or.inr rfl)
      rw [t_end_up (a := a) (a2 := (va_up a.1 11 (a.1 11 + 1), a.2)) (fun k k1 _ => va_up_ne _ _ k1) (fun _ _ => rfl) rfl] at i1 i2
      rw [t_lift, if_neg nb]
      simp only [va_up_at, va_up_ne a.1 (k := 11) (j := 3) _ (by omega), va_up_ne a.1 (k := 11) (j := 9) _ (by omega)] at i1 i2
      exact ⟨z2, i1, i2⟩
    by_cases c1 : a.1 3 ≤ 0
    · rw [if_pos c1]
      exact keep (by simp [t_br, c1])
    · have c0 : ¬ a.1 3 = 0 := fun q => c1 (by rw [q]; exact Int32.le_refl 0)
      rw [if_neg c1, if_pos c0]
      by_cases c2 : a.1 11 + 1 - (a.1 11 + 1) / a.1 3 * a.1 3 = 0
      · have yb : t_br (a.1 3) (a.1 11 + 1) = true := by simp [t_br, c1, c2]
        rw [if_pos c2]
        have hy : (a.2.1 r)[p + (ys.length + 1)]? = some y := by
          rw [hL, List.getElem?_append_right (by omega), show p + (ys.length + 1) - B.length = ys.length + 1 by omega, List.getElem?_cons_succ, List.getElem?_append_left (by simp)]
          simp
        obtain ⟨z2, b1, b2⟩ := f8_break_e h1 hr (by exact hl) (by exact hy)
        rw [nI_add, show 8 * r + p + (ys.length + 1) = 8 * r + (p + (ys.length + 1)) by omega, b1, q_b1_s]
        have hEr : (a.2.1 r).eraseIdx (p + (ys.length + 1)) = B ++ x :: (ys.reverse ++ K) := by
          rw [hL, List.eraseIdx_append_of_length_le (by omega), show p + (ys.length + 1) - B.length = ys.length + 1 by omega, List.eraseIdx_cons_succ, List.eraseIdx_append_of_lt_length (by simp)]
          simp [List.eraseIdx_append_of_length_le]
        have e9 : va_up a.1 11 (a.1 11 + 1) 9 = a.1 9 := va_up_ne _ _ (by omega)
        simp only [e9] at b2
        obtain ⟨z3, i1, i2⟩ := ih n z2 0 K (va_up (va_up a.1 11 (a.1 11 + 1)) 9 (a.1 9 + y.2.2.1 * y.2.2.2.1), va_up a.2.1 r ((a.2.1 r).eraseIdx (p + (ys.length + 1))), a.2.2) b2 (n_ok_up (n_ok_up ho (by omega) _) (by omega) _) ((va_up_at _ _ _).trans hEr) (by show (va_up a.2.1 r ((a.2.1 r).eraseIdx (p + (ys.length + 1))) r).length ≤ 8; rw [va_up_at, List.length_eraseIdx]; split <;> omega) (by omega) (Or.inl rfl)
        rw [t_end_up (a := a) (a2 := (va_up (va_up a.1 11 (a.1 11 + 1)) 9 (a.1 9 + y.2.2.1 * y.2.2.2.1), va_up a.2.1 r ((a.2.1 r).eraseIdx (p + (ys.length + 1))), a.2.2)) (fun k k1 k2 => (va_up_ne _ _ k2).trans (va_up_ne _ _ k1)) (fun k k1 => va_up_ne _ _ k1) rfl] at i1 i2
        have g3 : va_up (va_up a.1 11 (a.1 11 + 1)) 9 (a.1 9 + y.2.2.1 * y.2.2.2.1) 3 = a.1 3 := by rw [va_up_ne _ _ (by omega), va_up_ne _ _ (by omega)]
        have g11 : va_up (va_up a.1 11 (a.1 11 + 1)) 9 (a.1 9 + y.2.2.1 * y.2.2.2.1) 11 = a.1 11 + 1 := by rw [va_up_ne _ _ (by omega), va_up_at]
        have g9 : va_up (va_up a.1 11 (a.1 11 + 1)) 9 (a.1 9 + y.2.2.1 * y.2.2.2.1) 9 = a.1 9 + y.2.2.1 * y.2.2.2.1 := va_up_at _ _ _
        simp only [g3, g11, g9] at i1 i2
        rw [t_lift, if_pos yb]
        exact ⟨z3, i1, i2⟩
      · rw [if_neg c2]
        exact keep (by simp [t_br, c2])
