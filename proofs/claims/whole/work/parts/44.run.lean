/-! TEXTS: all commands; the class -/
def p_run (t : Nat → Int32) (l : Nat) : Nat → Nat → Option (List gCm) × Nat
  | 0, p => (none, p)
  | e + 1, p => match (p_cmd t l p).1 with
    | none => (none, (p_cmd t l p).2)
    | some c => if l ≤ (p_cmd t l p).2 then (some [c], (p_cmd t l p).2) else if t (p_cmd t l p).2 = 59 then ((p_run t l e ((p_cmd t l p).2 + 1)).1.map (fun cs => c :: cs), (p_run t l e ((p_cmd t l p).2 + 1)).2) else (none, (p_cmd t l p).2)
theorem p_run_n {t : Nat → Int32} {l e p q : Nat} (h : p_cmd t l p = (none, q)) : p_run t l (e + 1) p = (none, q) := by
  rw [p_run, h]
theorem p_run_s {t : Nat → Int32} {l e p q : Nat} {c : gCm} (h : p_cmd t l p = (some c, q)) : p_run t l (e + 1) p = if l ≤ q then (some [c], q) else if t q = 59 then ((p_run t l e (q + 1)).1.map (fun cs => c :: cs), (p_run t l e (q + 1)).2) else (none, q) := by
  rw [p_run, h]
theorem p_run_len (t : Nat → Int32) (l : Nat) : ∀ (e p : Nat) (cs : List gCm), (p_run t l e p).1 = some cs → 1 ≤ cs.length ∧ cs.length ≤ e := by
  intro e
  induction e with
  | zero => intro p cs h; cases h
  | succ e ih =>
    intro p cs h
    cases hc : p_cmd t l p with
    | mk y q =>
    cases y with
    | none => rw [p_run_n hc] at h; cases h
    | some c =>
      rw [p_run_s hc] at h
      split at h
      · cases h; exact ⟨Nat.le_refl _, Nat.le_add_left 1 e⟩
      · split at h
        · cases hr : (p_run t l e (q + 1)).1 with
          | none => rw [hr] at h; cases h
          | some ds =>
            rw [hr] at h
            cases h
            have := ih _ _ hr
            simp
            omega
        · cases h
def p_an (c : Nat) (x : Option (List gCm) × Nat) : Int32 := match x.1 with
  | none => -100 - nI x.2
  | some cs => nI (c + cs.length)
theorem r_sep {t : Nat → Int32} {l q : Nat} {τ : gTx} (h : x_at t l q 0 τ) (hl : l ≤ 60) (hq : q < l) (hq0 : 0 < q) : ∃ τ2, f0_readCommand τ = f0_readCommand_13 τ2 ∧ x_at t l (if t q = 59 then q + 1 else q) (if t q = 59 then 0 else 1) τ2 ∧ τ2.1 = τ.1 := by
  unfold f0_readCommand f0_expect
  rw [h.2.2.1, if_neg (by rw [← nI_0, nI_leI (by omega) (by omega)]; omega), h.2.2.2, if_neg (not_not_intro rfl), r_here h hl (by omega), q_b1_s, if_pos hq]
  by_cases c : t q = 59
  · rw [if_pos c, if_pos c, if_pos c, q_let, q_b1_s, show nI q + (1 : Int32) = nI (q + 1) from nI_add q 1]
    exact ⟨_, rfl, h.mv (q + 1), rfl⟩
  · rw [if_neg c, if_neg c, if_neg c, show f0_expect_15 τ = some (g_ti τ 3 1) from rfl, q_b1_s]
    exact ⟨_, rfl, h.fl 1, rfl⟩
theorem r_run {t : Nat → Int32} {l : Nat} (hl : l ≤ 60) : ∀ (e n p c : Nat) (τ : gTx), x_at t l p 0 τ → p ≤ l → l + 1 ≤ p + 3 * e → e ≤ n → c + e ≤ 59 → ∃ τ2, (g_b1 (f0_readCommand_13 τ) fun z5 => if z5.2 3 = 0 then if z5.2 2 < z5.2 1 then f0_commandsOrFault_6 n z5 (nI (c + 1) + 1) else some (nI (c + 1), z5) else some ((-100 : Int32) - z5.2 2, z5)) = some (p_an c (p_run t l e p), τ2) ∧ τ2.1 = τ.1 ∧ τ2.2 1 = nI l := by
  intro e
  induction e with
  | zero => intro n p c τ h hp he; omega
  | succ e ih =>
    intro n p c τ h hp he hn hc
    obtain ⟨τ1, e1, x1, k1, -⟩ := r_cmd h hl hp
    obtain ⟨f1, f2, f3⟩ := p_cmd_f t hp
    rw [e1, q_b1_s]
    cases hcm : p_cmd t l p with
    | mk y q =>
    rw [hcm] at x1 f1 f2 f3
    cases y with
    | none =>
      rw [p_run_n hcm]
      change x_at t l q 1 τ1 at x1
      rw [x1.2.2.2, if_neg (by decide), x1.2.2.1]
      exact ⟨τ1, rfl, k1, x1.2.1⟩
    | some cm =>
      change x_at t l q 0 τ1 at x1
      have fq : p + 2 ≤ q := (f3 cm rfl).2
      have ql : q ≤ l := f2
      rw [p_run_s hcm, x1.2.2.2, if_pos rfl, x1.2.2.1, x1.2.1]
      by_cases c1 : l ≤ q
      · rw [if_neg (by rw [nI_ltI (by omega) (by omega)]; omega), if_pos c1]
        exact ⟨τ1, rfl, k1, x1.2.1⟩
      · rw [if_pos ((nI_ltI (by omega) (by omega)).mpr (by omega)), if_neg c1]
        obtain ⟨n, rfl⟩ : ∃ k, n = k + 1 := ⟨n - 1, by omega⟩
        rw [show nI (c + 1) + 1 = nI (c + 1 + 1) from nI_add (c + 1) 1, f0_commandsOrFault_6, if_neg (by rw [l60, nI_ltI (by omega) (by omega)]; omega)]
        obtain ⟨τ2, e2, x2, k2⟩ := r_sep x1 hl (by omega) (by omega)
        rw [e2]
        by_cases c2 : t q = 59
        · rw [if_pos c2, if_pos c2] at x2
          rw [if_pos c2]
          obtain ⟨τ3, i1, i2, i3⟩ := ih n (q + 1) (c + 1) τ2 x2 (by omega) (by omega) (by omega) (by omega)
          rw [i1]
          refine ⟨τ3, ?_, i2.trans (k2.trans k1), i3⟩
          cases hr : p_run t l e (q + 1) with
          | mk y2 q2 =>
          cases y2 with
          | none => rfl
          | some ds =>
            show some (nI (c + 1 + ds.length), τ3) = some (nI (c + (cm :: ds).length), τ3)
            rw [List.length_cons, show c + 1 + ds.length = c + (ds.length + 1) by omega]
        · rw [if_neg c2, if_neg c2] at x2
          rw [if_neg c2]
          obtain ⟨τ3, e3, x3, k3⟩ := r_cmd_b x2 hl (by omega)
          rw [e3, q_b1_s, x3.2.2.2, if_neg (by decide), x3.2.2.1]
          exact ⟨τ3, rfl, k3.trans (k2.trans k1), x3.2.1⟩
theorem r_all {t : Nat → Int32} {l : Nat} (hl : l ≤ 60) {τ : gTx} (ht : ∀ k, k < l → τ.1 k = t k) (h1 : τ.2 1 = nI l) : ∃ τ2, f0_commandsOrFault τ = some (p_an 0 (p_run t l 21 0), τ2) ∧ τ2.1 = τ.1 ∧ τ2.2 1 = nI l := by
  have hx : x_at t l 0 0 (g_ti (g_ti τ 2 0) 3 0) := ⟨ht, h1, rfl, rfl⟩
  unfold f0_commandsOrFault f0_rewind
  rw [q_let, q_let, q_b1_s, f0_commandsOrFault_6, if_neg (by decide)]
  unfold f0_readCommand
  rw [hx.2.2.1, if_pos (by rw [nI_0]; exact Int32.le_refl 0)]
  obtain ⟨τ2, i1, i2, i3⟩ := r_run hl 21 69 0 0 _ hx (by omega) (by omega) (by omega) (by omega)
  exact ⟨τ2, i1, i2, i3⟩
/-! TEXTS: the reference -/
def y_at (t : Nat → Int32) (l p : Nat) (M : gMo) : Prop := (∀ k, k < l → M.1 4 k = t k) ∧ M.2 6 = nI l ∧ M.2 8 = nI p
def y_k (M M2 : gMo) : Prop := M2.1 = M.1 ∧ ∀ j, j ≠ 8 → M2.2 j = M.2 j
theorem y_k.rf {M : gMo} : y_k M M := ⟨rfl, fun _ _ => rfl⟩
theorem y_k.tr {M M2 M3 : gMo} (h : y_k M M2) (h2 : y_k M2 M3) : y_k M M3 := ⟨h2.1.trans h.1, fun j hj => (h2.2 j hj).trans (h.2 j hj)⟩
theorem y_k.up (M : gMo) (x : Int32) : y_k M (g_mi M 8 x) := ⟨rfl, fun j hj => va_up_ne _ _ hj⟩
theorem y_at.mv {t : Nat → Int32} {l p : Nat} {M : gMo} (h : y_at t l p M) (q : Nat) : y_at t l q (g_mi M 8 (nI q)) := ⟨h.1, h.2.1, va_up_at M.2 8 (nI q)⟩
theorem m_stands {t : Nat → Int32} {l p : Nat} {M : gMo} (h : y_at t l p M) (hl : l ≤ 60) (hp : p ≤ l) (sg : Int32) : ∃ M2, f10_stands M sg = some (if p < l ∧ t p = sg then 1 else 0, M2) ∧ y_at t l (if p < l ∧ t p = sg then p + 1 else p) M2 ∧ y_k M M2 := by
  have no : f10_stands_28 M = some (0, g_mi M 8 (nI p)) := by
    unfold f10_stands_28 f10_stands_29 f10_stands_44
    rw [if_pos rfl, q_let, h.2.2, Int32.add_zero, if_pos (Or.inl rfl)]
  unfold f10_stands
  rw [h.2.1, h.2.2]
  by_cases c : p < l
  · rw [if_neg (by rw [nI_leI (by omega) (by omega)]; omega), if_pos (by rw [q_in (by omega)]; omega), nI_clamp (by omega), h.1 p c]
    by_cases c2 : t p = sg
    · rw [if_neg (not_not_intro c2), if_pos ⟨c, c2⟩, if_pos ⟨c, c2⟩]
      refine ⟨g_mi M 8 (nI (p + 1)), ?_, h.mv _, y_k.up _ _⟩
      unfold f10_stands_29 f10_stands_44
      rw [if_neg (by decide), q_let, h.2.2, show nI p + (1 : Int32) = nI (p + 1) from nI_add p 1, if_pos (by decide)]
    · rw [if_pos c2, if_neg (fun q => c2 q.2), if_neg (fun q => c2 q.2), no]
      exact ⟨_, rfl, h.mv _, y_k.up _ _⟩
  · rw [if_pos ((nI_leI (by omega) (by omega)).mpr (by omega)), if_neg (fun q => c q.1), if_neg (fun q => c q.1), no]
    exact ⟨_, rfl, h.mv _, y_k.up _ _⟩
theorem m_dig {t : Nat → Int32} {l hi : Nat} (hl : l ≤ 60) (hhi : hi ≤ 999) : ∀ (e n v p : Nat) (M : gMo), y_at t l p M → p ≤ l → v ≤ hi → (v = 0 ∨ 1000 ≤ v * 10 ^ e) → e < n → ∃ M2, f10_number_77 n M (nI hi) (nI v) = some (nI (p_dig t l hi e v p).1, M2) ∧ y_at t l (p_dig t l hi e v p).2 M2 ∧ y_k M M2 := by
  intro e
  induction e with
  | zero =>
    intro n v p M h hp hv h10 hn
    obtain ⟨n, rfl⟩ : ∃ k, n = k + 1 := ⟨n - 1, by omega⟩
    have hv0 : v = 0 := by rcases h10 with q | q; exact q; omega
    subst hv0
    rw [f10_number_77, if_pos (by rw [nI_0]; exact Int32.le_refl 0)]
    exact ⟨M, rfl, h, y_k.rf⟩
  | succ e ih =>
    intro n v p M h hp hv h10 hn
    obtain ⟨n, rfl⟩ : ∃ k, n = k + 1 := ⟨n - 1, by omega⟩
    rw [f10_number_77, p_dig]
    by_cases c0 : 0 < v
    · rw [if_neg (by rw [← nI_0, nI_leI (by omega) (by omega)]; omega), h.2.1, h.2.2]
      by_cases c1 : p < l
      · rw [if_neg (by rw [nI_leI (by omega) (by omega)]; omega), if_pos (by rw [q_in (by omega)]; omega)]
        simp only [nI_clamp (show p < 2 ^ 31 by omega), h.1 p c1]
        rw [f10_in_e, q_b1_s]
        by_cases c2 : 48 ≤ t p ∧ t p ≤ 57
        · obtain ⟨d, hd, e1, e2⟩ := dg_e c2
          rw [if_pos c2, if_neg (by decide), if_pos (by rw [q_in (by omega)]; omega), e2]
          rw [show (10 : Int32) * nI v + t p - (48 : Int32) = nI (10 * v + d) by
            rw [e1, l10, pk_mul, nI_add]
            refine (pk_sub (b := 48) (by omega)).trans ?_
            congr 1
            omega]
          by_cases c3 : 10 * v + d ≤ hi
          · rw [if_neg (by rw [nI_ltI (by omega) (by omega)]; omega), if_pos (by rw [q_in (by omega)]; omega), q_let, q_let, show nI p + (1 : Int32) = nI (p + 1) from nI_add p 1, if_pos ⟨c0, c1, c2, c3⟩]
            obtain ⟨M2, i1, i2, i3⟩ := ih n (10 * v + d) (p + 1) (g_mi M 8 (nI (p + 1))) (h.mv (p + 1)) c1 c3 (Or.inr (by
              rcases h10 with q | q
              · omega
              · rw [Nat.pow_succ] at q
                have : v * 10 * 10 ^ e ≤ (10 * v + d) * 10 ^ e := Nat.mul_le_mul_right _ (by omega)
                have e3 : v * (10 ^ e * 10) = v * 10 * 10 ^ e := by rw [Nat.mul_comm (10 ^ e) 10, Nat.mul_assoc]
                omega)) (by omega)
            exact ⟨M2, i1, i2, (y_k.up M _).tr i3⟩
          · rw [if_pos ((nI_ltI (by omega) (by omega)).mpr (by omega)), if_neg (fun q => c3 q.2.2.2)]
            exact ⟨M, rfl, h, y_k.rf⟩
        · rw [if_neg c2, if_pos rfl, if_neg (fun q => c2 q.2.2.1)]
          exact ⟨M, rfl, h, y_k.rf⟩
      · rw [if_pos ((nI_leI (by omega) (by omega)).mpr (by omega)), if_neg (fun q => c1 q.2.1)]
        exact ⟨M, rfl, h, y_k.rf⟩
    · have hv0 : v = 0 := by omega
      subst hv0
      rw [if_pos (by rw [nI_0]; exact Int32.le_refl 0), if_neg (fun q => c0 q.1)]
      exact ⟨M, rfl, h, y_k.rf⟩
def p_nv (x : Option (Nat × Nat)) : Int32 := match x with
  | none => -1
  | some q => nI q.1
def p_np (p : Nat) (x : Option (Nat × Nat)) : Nat := match x with
  | none => p
  | some q => q.2
theorem m_num {t : Nat → Int32} {l p : Nat} {M : gMo} (h : y_at t l p M) (hl : l ≤ 60) (hp : p ≤ l) {lo hi : Nat} (hlo : lo ≤ 1) (hhi : hi ≤ 999) : ∃ M2, f10_number M (nI lo) (nI hi) = some (p_nv (p_num t l lo hi p), M2) ∧ y_at t l (p_np p (p_num t l lo hi p)) M2 ∧ y_k M M2 := by
  have e46 : ∀ A B : Nat, A = 48 + lo → B = 48 + min hi 9 → p < l → ∃ M2, f10_number_46 M (nI hi) (t p) (nI A) (nI B) = some (p_nv (p_num t l lo hi p), M2) ∧ y_at t l (p_np p (p_num t l lo hi p)) M2 ∧ y_k M M2 := by
    intro A B hA hB hpl
    unfold f10_number_46 p_num
    rw [f10_in_e, q_b1_s]
    by_cases c : 48 ≤ t p ∧ t p ≤ 57
    · obtain ⟨d, hd, e1, e2⟩ := dg_e c
      rw [e2]
      by_cases c2 : lo ≤ d ∧ d ≤ hi
      · have c3 : nI A ≤ t p ∧ t p ≤ nI B := by
          rw [e1, nI_leI (by omega) (by omega), nI_leI (by omega) (by omega)]
          omega
        rw [if_pos c3, if_pos (by decide), if_pos (show p < l ∧ (48 ≤ t p ∧ t p ≤ 57) ∧ lo ≤ d ∧ d ≤ hi from ⟨hpl, c, c2.1, c2.2⟩), h.2.2, if_pos (by rw [q_in (by omega)]; omega), nI_clamp (by omega), h.1 p hpl, e1, q_let, q_let, show nI (48 + d) - (48 : Int32) = nI d by
          refine (pk_sub (b := 48) (by omega)).trans ?_
          congr 1
          omega, show nI p + (1 : Int32) = nI (p + 1) from nI_add p 1]
        have e10 : d = 0 ∨ 1000 ≤ d * 10 ^ 3 := by
          by_cases q : d = 0
          · exact Or.inl q
          · exact Or.inr (by omega)
        obtain ⟨M2, i1, i2, i3⟩ := m_dig hl hhi 3 70 d (p + 1) (g_mi M 8 (nI (p + 1))) (h.mv (p + 1)) hpl c2.2 e10 (by omega)
        exact ⟨M2, i1, i2, (y_k.up M _).tr i3⟩
      · have c3 : ¬ (nI A ≤ t p ∧ t p ≤ nI B) := by
          rw [e1, nI_leI (by omega) (by omega), nI_leI (by omega) (by omega)]
          omega
        rw [if_neg c3, if_neg (not_not_intro rfl), if_neg (fun q => c2 q.2.2)]
        exact ⟨M, rfl, h, y_k.rf⟩
    · have c3 : ¬ (nI A ≤ t p ∧ t p ≤ nI B) := fun q => c ⟨Int32.le_trans ((nI_leI (a := 48) (by omega) (by omega)).mpr (by omega)) q.1, Int32.le_trans q.2 ((nI_leI (b := 57) (by omega) (by omega)).mpr (by omega))⟩
      rw [if_neg c3, if_neg (not_not_intro rfl), if_neg (fun q => c q.2.1)]
      exact ⟨M, rfl, h, y_k.rf⟩
  unfold f10_number
  rw [h.2.1, h.2.2]
  by_cases c : p = l
  · rw [if_pos (by rw [c])]
    have e : p_num t l lo hi p = none := by unfold p_num; rw [if_neg (fun q => by omega)]
    rw [e]
    exact ⟨M, rfl, h, y_k.rf⟩
  · have hpl : p < l := by omega
    rw [if_neg (by rw [nI_eq (by omega) (by omega)]; exact c), if_pos (by rw [q_in (by omega)]; omega), nI_clamp (by omega), h.1 p hpl]
    have e31 : ∀ A : Nat, A = 48 + lo → ∃ M2, f10_number_31 M (nI hi) (t p) (nI A) = some (p_nv (p_num t l lo hi p), M2) ∧ y_at t l (p_np p (p_num t l lo hi p)) M2 ∧ y_k M M2 := by
      intro A hA
      unfold f10_number_31
      by_cases c2 : 10 ≤ hi
      · rw [if_pos (by rw [l10, nI_leI (by omega) (by omega)]; exact c2)]
        exact e46 A 57 hA (by omega) hpl
      · rw [if_neg (by rw [l10, nI_leI (by omega) (by omega)]; exact c2), show (48 : Int32) + nI hi = nI (48 + hi) from nI_add 48 hi]
        exact e46 A (48 + hi) hA (by omega) hpl
    by_cases c2 : lo = 0
    · subst c2
      rw [if_pos (by rw [nI_0]; exact Int32.le_refl 0)]
      exact e31 48 rfl
    · have : lo = 1 := by omega
      subst this
      rw [if_neg (by decide)]
      exact e31 49 rfl
