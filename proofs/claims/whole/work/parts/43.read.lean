/-! TEXTS: the class reads a command, and all -/
def p_fl {α : Type} (x : Option α) : Int32 := match x with
  | none => 1
  | some _ => 0
theorem p_fl_e {α : Type} [DecidableEq α] (x : Option α) : (if x = none then (1 : Int32) else 0) = p_fl x := by
  cases x <;> simp [p_fl]
theorem r_st {t : Nat → Int32} {l p : Nat} {τ : gTx} (h : x_at t l p 0 τ) (hl : l ≤ 60) (hp : p ≤ l) (sg : Int32) (hsg : ¬ (-1 : Int32) = sg) {lo hi : Nat} (hlo : lo ≤ 1) (hhi : hi ≤ 999) {sl : Nat} (hsl : 5 ≤ sl) : ∃ τ2, (∀ F : gTx → Option gTx, (g_bd (f0_numberBehind τ sg (nI lo) (nI hi)) fun r z => g_let (g_ti z sl r) fun z2 => F z2) = F τ2) ∧ x_at t l (p_fld t l sg lo hi p).2 (p_fl (p_fld t l sg lo hi p).1) τ2 ∧ τ2.1 = τ.1 ∧ (∀ j, 4 ≤ j → j ≠ sl → τ2.2 j = τ.2 j) ∧ τ2.2 sl = nI ((p_fld t l sg lo hi p).1.getD lo) := by
  obtain ⟨τ1, e1, e2, e3⟩ := r_fld h hl hp sg hsg hlo hhi
  rw [p_fl_e] at e2
  refine ⟨g_ti τ1 sl (nI ((p_fld t l sg lo hi p).1.getD lo)), fun F => by rw [e1, q_bd_s, q_let], e2.el (by omega) _, e3.1, fun j hj hne => (va_up_ne _ _ hne).trans (e3.2 j hj), va_up_at _ _ _⟩
theorem r_st_b {t : Nat → Int32} {l p : Nat} {τ : gTx} (h : x_at t l p 1 τ) (hl : l ≤ 60) (hp : p ≤ l) (sg lo hi : Int32) {sl : Nat} (hsl : 5 ≤ sl) : ∃ τ2, (∀ F : gTx → Option gTx, (g_bd (f0_numberBehind τ sg lo hi) fun r z => g_let (g_ti z sl r) fun z2 => F z2) = F τ2) ∧ x_at t l p 1 τ2 ∧ τ2.1 = τ.1 ∧ (∀ j, 4 ≤ j → j ≠ sl → τ2.2 j = τ.2 j) := by
  obtain ⟨τ1, e1, e2, e3⟩ := r_fld_b h hl hp sg lo hi
  exact ⟨g_ti τ1 sl lo, fun F => by rw [e1, q_bd_s, q_let], e2.el (by omega) _, e3.1, fun j hj hne => (va_up_ne _ _ hne).trans (e3.2 j hj)⟩
/-- four fields behind each other -/
theorem r_st4 {t : Nat → Int32} {l p : Nat} {τ : gTx} (h : x_at t l p 0 τ) (hl : l ≤ 60) (hp : p ≤ l) (sg1 sg2 sg3 sg4 : Int32) (lo1 hi1 lo2 hi2 lo3 hi3 lo4 hi4 sl : Nat) (hsg : ¬ (-1 : Int32) = sg1 ∧ ¬ (-1 : Int32) = sg2 ∧ ¬ (-1 : Int32) = sg3 ∧ ¬ (-1 : Int32) = sg4) (hlo : lo1 ≤ 1 ∧ lo2 ≤ 1 ∧ lo3 ≤ 1 ∧ lo4 ≤ 1) (hhi : hi1 ≤ 999 ∧ hi2 ≤ 999 ∧ hi3 ≤ 999 ∧ hi4 ≤ 999) (hsl : 5 ≤ sl) (mk : Nat → Nat → Nat → Nat → gCm) :
    ∃ τ2, (g_bd (f0_numberBehind τ sg1 (nI lo1) (nI hi1)) fun r z => g_let (g_ti z sl r) fun z => g_bd (f0_numberBehind z sg2 (nI lo2) (nI hi2)) fun r z => g_let (g_ti z (sl + 1) r) fun z => g_bd (f0_numberBehind z sg3 (nI lo3) (nI hi3)) fun r z => g_let (g_ti z (sl + 2) r) fun z => g_bd (f0_numberBehind z sg4 (nI lo4) (nI hi4)) fun r z => g_let (g_ti z (sl + 3) r) fun z => some z) = some τ2 ∧
      x_at t l (p_bd (p_fld t l sg1 lo1 hi1 p) fun a q => p_bd (p_fld t l sg2 lo2 hi2 q) fun b q => p_bd (p_fld t l sg3 lo3 hi3 q) fun c q => p_bd (p_fld t l sg4 lo4 hi4 q) fun d q => (some (mk a b c d), q)).2 (p_fl (p_bd (p_fld t l sg1 lo1 hi1 p) fun a q => p_bd (p_fld t l sg2 lo2 hi2 q) fun b q => p_bd (p_fld t l sg3 lo3 hi3 q) fun c q => p_bd (p_fld t l sg4 lo4 hi4 q) fun d q => (some (mk a b c d), q)).1) τ2 ∧ τ2.1 = τ.1 ∧ τ2.2 4 = τ.2 4 ∧
      ∀ cm, (p_bd (p_fld t l sg1 lo1 hi1 p) fun a q => p_bd (p_fld t l sg2 lo2 hi2 q) fun b q => p_bd (p_fld t l sg3 lo3 hi3 q) fun c q => p_bd (p_fld t l sg4 lo4 hi4 q) fun d q => (some (mk a b c d), q)).1 = some cm → ∃ a b c d, cm = mk a b c d ∧ τ2.2 sl = nI a ∧ τ2.2 (sl + 1) = nI b ∧ τ2.2 (sl + 2) = nI c ∧ τ2.2 (sl + 3) = nI d := by
  obtain ⟨τ1, e1, x1, k1, j1, v1⟩ := r_st h hl hp sg1 hsg.1 hlo.1 hhi.1 hsl
  have f1 := (p_fld_f t l sg1 lo1 hi1 p hp).2.1
  cases c1 : p_fld t l sg1 lo1 hi1 p with
  | mk y1 q1 =>
  rw [c1] at x1 v1 f1
  cases y1 with
  | none =>
    change x_at t l q1 1 τ1 at x1
    obtain ⟨τ2, e2, x2, k2, j2⟩ := r_st_b (sl := sl + 1) x1 hl f1 sg2 (nI lo2) (nI hi2) (by omega)
    obtain ⟨τ3, e3, x3, k3, j3⟩ := r_st_b (sl := sl + 2) x2 hl f1 sg3 (nI lo3) (nI hi3) (by omega)
    obtain ⟨τ4, e4, x4, k4, j4⟩ := r_st_b (sl := sl + 3) x3 hl f1 sg4 (nI lo4) (nI hi4) (by omega)
    refine ⟨τ4, (e1 _).trans ((e2 _).trans ((e3 _).trans (e4 _))), x4, k4.trans (k3.trans (k2.trans k1)), ?_, fun cm q => by cases q⟩
    rw [j4 4 (by omega) (by omega), j3 4 (by omega) (by omega), j2 4 (by omega) (by omega), j1 4 (by omega) (by omega)]
  | some a =>
    change x_at t l q1 0 τ1 at x1
    obtain ⟨τ2, e2, x2, k2, j2, v2⟩ := r_st (sl := sl + 1) x1 hl f1 sg2 hsg.2.1 hlo.2.1 hhi.2.1 (by omega)
    have f2 := (p_fld_f t l sg2 lo2 hi2 q1 f1).2.1
    simp only [p_bd]
    cases c2 : p_fld t l sg2 lo2 hi2 q1 with
    | mk y2 q2 =>
    simp only [c2] at x2 v2 f2
    cases y2 with
    | none =>
      change x_at t l q2 1 τ2 at x2
      obtain ⟨τ3, e3, x3, k3, j3⟩ := r_st_b (sl := sl + 2) x2 hl f2 sg3 (nI lo3) (nI hi3) (by omega)
      obtain ⟨τ4, e4, x4, k4, j4⟩ := r_st_b (sl := sl + 3) x3 hl f2 sg4 (nI lo4) (nI hi4) (by omega)
      refine ⟨τ4, (e1 _).trans ((e2 _).trans ((e3 _).trans (e4 _))), x4, k4.trans (k3.trans (k2.trans k1)), ?_, fun cm q => by cases q⟩
      rw [j4 4 (by omega) (by omega), j3 4 (by omega) (by omega), j2 4 (by omega) (by omega), j1 4 (by omega) (by omega)]
    | some b =>
      change x_at t l q2 0 τ2 at x2
      obtain ⟨τ3, e3, x3, k3, j3, v3⟩ := r_st (sl := sl + 2) x2 hl f2 sg3 hsg.2.2.1 hlo.2.2.1 hhi.2.2.1 (by omega)
      have f3 := (p_fld_f t l sg3 lo3 hi3 q2 f2).2.1
      dsimp only
      cases c3 : p_fld t l sg3 lo3 hi3 q2 with
      | mk y3 q3 =>
      simp only [c3] at x3 v3 f3
      cases y3 with
      | none =>
        change x_at t l q3 1 τ3 at x3
        obtain ⟨τ4, e4, x4, k4, j4⟩ := r_st_b (sl := sl + 3) x3 hl f3 sg4 (nI lo4) (nI hi4) (by omega)
        refine ⟨τ4, (e1 _).trans ((e2 _).trans ((e3 _).trans (e4 _))), x4, k4.trans (k3.trans (k2.trans k1)), ?_, fun cm q => by cases q⟩
        rw [j4 4 (by omega) (by omega), j3 4 (by omega) (by omega), j2 4 (by omega) (by omega), j1 4 (by omega) (by omega)]
      | some c =>
        change x_at t l q3 0 τ3 at x3
        obtain ⟨τ4, e4, x4, k4, j4, v4⟩ := r_st (sl := sl + 3) x3 hl f3 sg4 hsg.2.2.2 hlo.2.2.2 hhi.2.2.2 (by omega)
        dsimp only
        cases c4 : p_fld t l sg4 lo4 hi4 q3 with
        | mk y4 q4 =>
        simp only [c4] at x4 v4
        have j44 : τ4.2 4 = τ.2 4 := by
          rw [j4 4 (by omega) (by omega), j3 4 (by omega) (by omega), j2 4 (by omega) (by omega), j1 4 (by omega) (by omega)]
        cases y4 with
        | none => exact ⟨τ4, (e1 _).trans ((e2 _).trans ((e3 _).trans (e4 _))), x4, k4.trans (k3.trans (k2.trans k1)), j44, fun cm q => by cases q⟩
        | some d =>
          refine ⟨τ4, (e1 _).trans ((e2 _).trans ((e3 _).trans (e4 _))), x4, k4.trans (k3.trans (k2.trans k1)), j44, fun cm q => ?_⟩
          cases q
          refine ⟨a, b, c, d, rfl, ?_, ?_, ?_, v4⟩
          · rw [j4 _ (by omega) (by omega), j3 _ (by omega) (by omega), j2 _ (by omega) (by omega)]; exact v1
          · rw [j4 _ (by omega) (by omega), j3 _ (by omega) (by omega)]; exact v2
          · rw [j4 _ (by omega) (by omega)]; exact v3
def c_rd (c : gCm) (τ : gTx) : Prop := (c.1 = 0 ∧ τ.2 4 = 112 ∧ τ.2 10 = nI c.2.1) ∨ (c.1 = 1 ∧ τ.2 4 = 100 ∧ τ.2 11 = nI c.2.1) ∨ (c.1 = 2 ∧ τ.2 4 = 115 ∧ τ.2 5 = nI c.2.1 ∧ τ.2 6 = nI c.2.2.1 ∧ τ.2 7 = nI c.2.2.2.1 ∧ τ.2 8 = nI c.2.2.2.2) ∨ (c.1 = 3 ∧ τ.2 4 = 111 ∧ τ.2 6 = nI c.2.1 ∧ τ.2 7 = nI c.2.2.1 ∧ τ.2 8 = nI c.2.2.2.1 ∧ τ.2 9 = nI c.2.2.2.2)
theorem c_here {t : Nat → Int32} {l p : Nat} {x : Int32} (hx : ¬ (-1 : Int32) = x) : (if p < l then t p else -1) = x ↔ p < l ∧ t p = x := by
  by_cases c : p < l
  · simp [c]
  · simp only [c, if_false, false_and, iff_false]
    exact hx
theorem r_cmd {t : Nat → Int32} {l p : Nat} {τ : gTx} (h : x_at t l p 0 τ) (hl : l ≤ 60) (hp : p ≤ l) : ∃ τ2, f0_readCommand_13 τ = some τ2 ∧ x_at t l (p_cmd t l p).2 (p_fl (p_cmd t l p).1) τ2 ∧ τ2.1 = τ.1 ∧ ∀ c, (p_cmd t l p).1 = some c → c_rd c τ2 := by
  unfold f0_readCommand_13
  rw [r_here h hl hp, q_b1_s, q_let, q_let]
  have h4 := h.el (k := 4) (by omega) (if p < l then t p else -1)
  have v4 : (g_ti τ 4 (if p < l then t p else -1)).2 4 = if p < l then t p else -1 := va_up_at τ.2 4 (if p < l then t p else -1)
  have k4 : (g_ti τ 4 (if p < l then t p else -1)).1 = τ.1 := rfl
  rw [v4]
  generalize g_ti τ 4 (if p < l then t p else -1) = τ1 at h4 v4 k4
  unfold p_cmd
  by_cases c1 : p < l ∧ t p = 112
  · have e1 : (if p < l then t p else -1) = 112 := (c_here (by decide)).mpr c1
    rw [e1] at v4
    rw [e1, if_neg (by decide), if_neg (by decide), if_pos rfl, if_pos c1]
    obtain ⟨τ2, e2, x2, k2, j2, v2⟩ := r_st (sl := 10) h4 hl hp 112 (by decide) (lo := 0) (hi := 2) (by omega) (by omega) (by omega)
    refine ⟨τ2, e2 some, ?_, k2.trans k4, fun c q => ?_⟩
    · cases y : p_fld t l 112 0 2 p with
      | mk y1 q1 =>
      rw [y] at x2
      cases y1 with
      | none => exact x2
      | some a => exact x2
    · cases y : p_fld t l 112 0 2 p with
      | mk y1 q1 =>
      rw [y] at q v2
      cases y1 with
      | none => cases q
      | some a => cases q; exact Or.inl ⟨rfl, (j2 4 (by omega) (by omega)).trans v4, v2⟩
  · rw [if_neg c1]
    by_cases c2 : p < l ∧ t p = 100
    · have e1 : (if p < l then t p else -1) = 100 := (c_here (by decide)).mpr c2
      rw [e1] at v4
      rw [e1, if_pos rfl, if_pos c2]
      obtain ⟨τ2, e2, x2, k2, j2, v2⟩ := r_st (sl := 11) h4 hl hp 100 (by decide) (lo := 1) (hi := 99) (by omega) (by omega) (by omega)
      refine ⟨τ2, e2 some, ?_, k2.trans k4, fun c q => ?_⟩
      · cases y : p_fld t l 100 1 99 p with
        | mk y1 q1 =>
        rw [y] at x2
        cases y1 with
        | none => exact x2
        | some a => exact x2
      · cases y : p_fld t l 100 1 99 p with
        | mk y1 q1 =>
        rw [y] at q v2
        cases y1 with
        | none => cases q
        | some a => cases q; exact Or.inr (Or.inl ⟨rfl, (j2 4 (by omega) (by omega)).trans v4, v2⟩)
    · rw [if_neg c2]
      by_cases c3 : p < l ∧ t p = 115
      · have e1 : (if p < l then t p else -1) = 115 := (c_here (by decide)).mpr c3
        rw [e1] at v4
        rw [e1, if_neg (by decide), if_neg (by decide), if_neg (by decide), if_pos rfl, if_pos c3]
        obtain ⟨τ2, e2, x2, k2, j2, v2⟩ := r_st4 h4 hl hp 115 58 44 120 0 3 0 2 1 99 1 99 5 (by decide) (by omega) (by omega) (by omega) (fun a b c d => (2, a, b, c, d))
        refine ⟨τ2, ?_, x2, k2.trans k4, fun c q => ?_⟩
        · have e3 : f0_readPurchase τ1 = some τ2 := e2
          rw [e3, q_b1_s]
        · obtain ⟨a, b, c2, d, rfl, w1, w2, w3, w4⟩ := v2 c q
          exact Or.inr (Or.inr (Or.inl ⟨rfl, j2.trans v4, w1, w2, w3, w4⟩))
      · rw [if_neg c3]
        by_cases c4 : p < l ∧ t p = 111
        · have e1 : (if p < l then t p else -1) = 111 := (c_here (by decide)).mpr c4
          rw [e1] at v4
          rw [e1, if_neg (by decide), if_pos rfl, if_pos c4]
          obtain ⟨τ2, e2, x2, k2, j2, v2⟩ := r_st4 h4 hl hp 111 44 120 64 0 2 1 99 1 99 0 999 6 (by decide) (by omega) (by omega) (by omega) (fun a b c d => (3, a, b, c, d))
          refine ⟨τ2, ?_, x2, k2.trans k4, fun c q => ?_⟩
          · have e3 : f0_readOrder τ1 = some τ2 := e2
            rw [e3, q_b1_s]
          · obtain ⟨a, b, c2, d, rfl, w1, w2, w3, w4⟩ := v2 c q
            exact Or.inr (Or.inr (Or.inr ⟨rfl, j2.trans v4, w1, w2, w3, w4⟩))
        · rw [if_neg c4, if_neg (fun q => c2 ((c_here (by decide)).mp q)), if_neg (fun q => c4 ((c_here (by decide)).mp q)), if_neg (fun q => c1 ((c_here (by decide)).mp q)), if_neg (fun q => c3 ((c_here (by decide)).mp q)), q_let]
          exact ⟨_, rfl, h4.fl 1, k4, fun c q => by cases q⟩
theorem r_cmd_b {t : Nat → Int32} {l p : Nat} {τ : gTx} (h : x_at t l p 1 τ) (hl : l ≤ 60) (hp : p ≤ l) : ∃ τ2, f0_readCommand_13 τ = some τ2 ∧ x_at t l p 1 τ2 ∧ τ2.1 = τ.1 := by
  unfold f0_readCommand_13
  rw [r_here h hl hp, q_b1_s, q_let, q_let]
  have h4 := h.el (k := 4) (by omega) (if p < l then t p else -1)
  have k4 : (g_ti τ 4 (if p < l then t p else -1)).1 = τ.1 := rfl
  generalize g_ti τ 4 (if p < l then t p else -1) = τ1 at h4 k4
  by_cases c1 : τ1.2 4 = 100
  · rw [if_pos c1]
    obtain ⟨τ2, e2, x2, k2, -⟩ := r_st_b (sl := 11) h4 hl hp 100 1 99 (by omega)
    exact ⟨τ2, e2 some, x2, k2.trans k4⟩
  · rw [if_neg c1]
    by_cases c2 : τ1.2 4 = 111
    · rw [if_pos c2]
      obtain ⟨τ2, e2, x2, k2, -⟩ := r_st_b (sl := 6) h4 hl hp 111 0 2 (by omega)
      obtain ⟨τ3, e3, x3, k3, -⟩ := r_st_b (sl := 7) x2 hl hp 44 1 99 (by omega)
      obtain ⟨τ4, e4, x4, k4', -⟩ := r_st_b (sl := 8) x3 hl hp 120 1 99 (by omega)
      obtain ⟨τ5, e5, x5, k5, -⟩ := r_st_b (sl := 9) x4 hl hp 64 0 999 (by omega)
      have e : f0_readOrder τ1 = some τ5 := (e2 _).trans ((e3 _).trans ((e4 _).trans (e5 some)))
      rw [e, q_b1_s]
      exact ⟨τ5, rfl, x5, k5.trans (k4'.trans (k3.trans (k2.trans k4)))⟩
    · rw [if_neg c2]
      by_cases c3 : τ1.2 4 = 112
      · rw [if_pos c3]
        obtain ⟨τ2, e2, x2, k2, -⟩ := r_st_b (sl := 10) h4 hl hp 112 0 2 (by omega)
        exact ⟨τ2, e2 some, x2, k2.trans k4⟩
      · rw [if_neg c3]
        by_cases c4 : τ1.2 4 = 115
        · rw [if_pos c4]
          obtain ⟨τ2, e2, x2, k2, -⟩ := r_st_b (sl := 5) h4 hl hp 115 0 3 (by omega)
          obtain ⟨τ3, e3, x3, k3, -⟩ := r_st_b (sl := 6) x2 hl hp 58 0 2 (by omega)
          obtain ⟨τ4, e4, x4, k4', -⟩ := r_st_b (sl := 7) x3 hl hp 44 1 99 (by omega)
          obtain ⟨τ5, e5, x5, k5, -⟩ := r_st_b (sl := 8) x4 hl hp 120 1 99 (by omega)
          have e : f0_readPurchase τ1 = some τ5 := (e2 _).trans ((e3 _).trans ((e4 _).trans (e5 some)))
          rw [e, q_b1_s]
          exact ⟨τ5, rfl, x5, k5.trans (k4'.trans (k3.trans (k2.trans k4)))⟩
        · rw [if_neg c4, q_let]
          exact ⟨_, rfl, h4.fl 1, k4⟩
