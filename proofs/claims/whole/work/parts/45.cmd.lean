/-! TEXTS: the reference reads a command, does it, and all -/
theorem g_bd_id (x : Option (Int32 × gMo)) : (g_bd x fun r z => some (r, z)) = x := by
  cases x with
  | none => rfl
  | some v => rfl
/-- the number behind a sign that has been read -/
theorem p_fld_e {t : Nat → Int32} {l p : Nat} {sg : Int32} (lo hi : Nat) (h : p < l ∧ t p = sg) : p_fld t l sg lo hi p = match p_num t l lo hi (p + 1) with | none => (none, p + 1) | some q => (some q.1, q.2) := by
  unfold p_fld
  rw [if_pos h]
  cases p_num t l lo hi (p + 1) <;> rfl
theorem p_fld_n {t : Nat → Int32} {l p : Nat} {sg : Int32} (lo hi : Nat) (h : ¬ (p < l ∧ t p = sg)) : p_fld t l sg lo hi p = (none, p) := by
  unfold p_fld
  rw [if_neg h]
def m_fr {α : Type} (x : Option Nat × Nat) (a : α) (F : Int32 → α) : α := match x.1 with
  | none => a
  | some v => F (nI v)
/-- a number behind a sign that has been read -/
theorem m_fl1 {t : Nat → Int32} {l p : Nat} {M : gMo} (h : y_at t l (p + 1) M) (hl : l ≤ 60) {sg : Int32} (hs : p < l ∧ t p = sg) {lo hi : Nat} (hlo : lo ≤ 1) (hhi : hi ≤ 999) : ∃ M2, y_at t l (p_fld t l sg lo hi p).2 M2 ∧ y_k M M2 ∧ ∃ v, f10_number M (nI lo) (nI hi) = some (v, M2) ∧ v = m_fr (p_fld t l sg lo hi p) (-1) (fun x => x) ∧ (v < 0 ↔ (p_fld t l sg lo hi p).1 = none) := by
  obtain ⟨M2, e1, e2, e3⟩ := m_num h hl hs.1 hlo hhi
  have ef := p_fld_e lo hi hs
  cases hn : p_num t l lo hi (p + 1) with
  | none =>
    rw [hn] at e1 e2 ef
    rw [ef]
    exact ⟨M2, e2, e3, _, e1, rfl, iff_of_true (show (-1 : Int32) < 0 by decide) rfl⟩
  | some q =>
    rw [hn] at e1 e2 ef
    rw [ef]
    have := (p_num_f hn).2.1
    exact ⟨M2, e2, e3, _, e1, rfl, iff_of_false (show ¬ nI q.1 < 0 from nI_pos (by omega)) (fun z => by cases z)⟩
/-- a sign and a number behind it -/
theorem m_fl {t : Nat → Int32} {l p : Nat} {M : gMo} (h : y_at t l p M) (hl : l ≤ 60) (hp : p ≤ l) (sg : Int32) {lo hi : Nat} (hlo : lo ≤ 1) (hhi : hi ≤ 999) : ∃ M2, y_at t l (p_fld t l sg lo hi p).2 M2 ∧ y_k M M2 ∧ ∀ (x2 : Int32) (F : Int32 → gMo → Option (Int32 × gMo)), (g_bd (f10_stands M sg) fun r z => if ¬ r = 0 then g_bd (f10_number z (nI lo) (nI hi)) fun r2 z2 => if r2 < 0 then some (x2, z2) else F r2 z2 else some (x2, z)) = m_fr (p_fld t l sg lo hi p) (some (x2, M2)) (fun v => F v M2) := by
  obtain ⟨M1, e1, e2, e3⟩ := m_stands h hl hp sg
  by_cases c : p < l ∧ t p = sg
  · rw [if_pos c] at e1 e2
    obtain ⟨M2, y1, y2, v, y3, y4, y5⟩ := m_fl1 e2 hl c hlo hhi
    refine ⟨M2, y1, e3.tr y2, fun x2 F => ?_⟩
    rw [e1, q_bd_s, if_pos (by decide), y3, q_bd_s]
    cases hc : p_fld t l sg lo hi p with
    | mk y q =>
    rw [hc] at y4 y5
    cases y with
    | none => rw [if_pos (y5.mpr rfl)]; rfl
    | some w =>
      rw [if_neg (fun z => by have := y5.mp z; cases this), y4]
      rfl
  · rw [if_neg c] at e1 e2
    refine ⟨M1, by rw [p_fld_n lo hi c]; exact e2, e3, fun x2 F => ?_⟩
    rw [e1, q_bd_s, if_neg (not_not_intro rfl), p_fld_n lo hi c]
    rfl
def m_do (M : gMo) (c : gCm) : Option (Int32 × gMo) :=
  if c.1 = 0 then f10_plans M (nI c.2.1) else if c.1 = 1 then f10_passes M (nI c.2.1) else if c.1 = 2 then f10_buys M (nI c.2.1) (nI c.2.2.1) (nI c.2.2.2.1) (nI c.2.2.2.2) else f10_orders M (nI c.2.1) (nI c.2.2.1) (nI c.2.2.2.1) (nI c.2.2.2.2)
def m_cr (x : Option gCm × Nat) (x1 : Int32) (M2 : gMo) : Option (Int32 × gMo) := match x.1 with
  | none => some (-1000, M2)
  | some c => if x1 = 0 then some (0, M2) else m_do M2 c
theorem m_cmd {t : Nat → Int32} {l p : Nat} {M : gMo} (h : y_at t l p M) (hl : l ≤ 60) (hp : p ≤ l) (x1 : Int32) : ∃ M2, y_at t l (p_cmd t l p).2 M2 ∧ y_k M M2 ∧ f10_command M x1 = m_cr (p_cmd t l p) x1 M2 := by
  obtain ⟨M1, e1, y1, k1⟩ := m_stands h hl hp 112
  unfold f10_command
  rw [e1, q_bd_s]
  by_cases c1 : p < l ∧ t p = 112
  · rw [if_pos c1] at y1
    rw [if_pos c1, if_neg (by decide)]
    obtain ⟨M2, y2, k2, v, e2, e3, e4⟩ := m_fl1 y1 hl c1 (lo := 0) (hi := 2) (by omega) (by omega)
    have ec : p_cmd t l p = p_bd (p_fld t l 112 0 2 p) fun v q => (some (0, v, 0, 0, 0), q) := by unfold p_cmd; rw [if_pos c1]
    have e2' : f10_number M1 0 2 = some (v, M2) := e2
    rw [ec, e2', q_bd_s]
    cases hc : p_fld t l 112 0 2 p with
    | mk y q =>
    rw [hc] at e3 e4 y2
    cases y with
    | none =>
      refine ⟨M2, y2, k1.tr k2, ?_⟩
      rw [if_neg (fun z => (i_nlt v 0).mp (e4.mpr rfl) z)]
      rfl
    | some w =>
      refine ⟨M2, y2, k1.tr k2, ?_⟩
      rw [if_pos (Int32.not_lt.mp (fun z => by have := e4.mp z; cases this)), g_bd_id, e3]
      rfl
  · rw [if_neg c1] at y1
    rw [if_neg c1, if_pos rfl]
    obtain ⟨M2, e2, y2, k2⟩ := m_stands y1 hl hp 100
    rw [e2, q_bd_s]
    by_cases c2 : p < l ∧ t p = 100
    · rw [if_pos c2] at y2
      rw [if_pos c2, if_neg (by decide)]
      obtain ⟨M3, y3, k3, v, e3, e4, e5⟩ := m_fl1 y2 hl c2 (lo := 1) (hi := 99) (by omega) (by omega)
      have ec : p_cmd t l p = p_bd (p_fld t l 100 1 99 p) fun v q => (some (1, v, 0, 0, 0), q) := by unfold p_cmd; rw [if_neg c1, if_pos c2]
      have e3' : f10_number M2 1 99 = some (v, M3) := e3
      rw [ec, e3', q_bd_s]
      cases hc : p_fld t l 100 1 99 p with
      | mk y q =>
      rw [hc] at e4 e5 y3
      cases y with
      | none =>
        refine ⟨M3, y3, (k1.tr k2).tr k3, ?_⟩
        rw [if_neg (fun z => (i_nlt v 0).mp (e5.mpr rfl) z)]
        rfl
      | some w =>
        refine ⟨M3, y3, (k1.tr k2).tr k3, ?_⟩
        rw [if_pos (Int32.not_lt.mp (fun z => by have := e5.mp z; cases this)), g_bd_id, e4]
        rfl
    · rw [if_neg c2] at y2
      rw [if_neg c2, if_pos rfl]
      obtain ⟨M3, e3, y3, k3⟩ := m_stands y2 hl hp 115
      rw [e3, q_bd_s]
      by_cases c3 : p < l ∧ t p = 115
      · rw [if_pos c3] at y3
        rw [if_pos c3, if_pos (by decide)]
        have ec : p_cmd t l p = p_bd (p_fld t l 115 0 3 p) fun r q => p_bd (p_fld t l 58 0 2 q) fun s q => p_bd (p_fld t l 44 1 99 q) fun w q => p_bd (p_fld t l 120 1 99 q) fun y q => (some (2, r, s, w, y), q) := by unfold p_cmd; rw [if_neg c1, if_neg c2, if_pos c3]
        obtain ⟨M4, y4, k4, v, e4, e5, e6⟩ := m_fl1 y3 hl c3 (lo := 0) (hi := 3) (by omega) (by omega)
        have e4' : f10_number M3 0 3 = some (v, M4) := e4
        have f4 := (p_fld_f t l 115 0 3 p hp).2.1
        have k14 := ((k1.tr k2).tr k3).tr k4
        unfold f10_command_103
        rw [if_neg (by decide), e4', q_bd_s, ec]
        unfold f10_command_117
        cases hc : p_fld t l 115 0 3 p with
        | mk z4 q4 =>
        rw [hc] at e5 e6 y4 f4
        cases z4 with
        | none =>
          rw [if_pos (e6.mpr rfl)]
          exact ⟨M4, y4, k14, rfl⟩
        | some w4 =>
          rw [if_neg (fun z => by have := e6.mp z; cases this), if_neg (by decide)]
          unfold f10_command_139
          obtain ⟨M5, y5, k5, s5⟩ := m_fl y4 hl f4 58 (lo := 0) (hi := 2) (by omega) (by omega)
          rw [show (g_bd (f10_stands M4 58) fun r66 z67 => if ¬ r66 = 0 then g_bd (f10_number z67 0 2) fun r19 z20 => if r19 < 0 then some ((-1000 : Int32), z20) else g_bd (f10_stands z20 44) fun r24 z25 => if ¬ r24 = 0 then g_bd (f10_number z25 1 99) fun r29 z30 => if r29 < 0 then some ((-1000 : Int32), z30) else g_bd (f10_stands z30 120) fun r34 z35 => if ¬ r34 = 0 then g_bd (f10_number z35 1 99) fun r39 z40 => if r39 < 0 then some ((-1000 : Int32), z40) else if ¬ (1 : Int32) = 0 then f10_command_217 z40 x1 (-1000) 1 v r19 r29 r39 else g_bd (f10_stands z40 64) fun r61 z62 => if ¬ r61 = 0 then f10_command_217 z62 x1 (-1000) 1 v r19 r29 r39 else some ((-1000 : Int32), z62) else some ((-1000 : Int32), z35) else some ((-1000 : Int32), z25) else some ((-1000 : Int32), z67)) = _ from s5 (-1000) _]
          have f5 := (p_fld_f t l 58 0 2 q4 f4).2.1
          simp only [p_bd]
          cases hc5 : p_fld t l 58 0 2 q4 with
          | mk z5 q5 =>
          rw [hc5] at y5 f5
          cases z5 with
          | none => exact ⟨M5, y5, k14.tr k5, rfl⟩
          | some w5 =>
            simp only [m_fr]
            obtain ⟨M6, y6, k6, s6⟩ := m_fl y5 hl f5 44 (lo := 1) (hi := 99) (by omega) (by omega)
            rw [show (g_bd (f10_stands M5 44) fun r24 z25 => if ¬ r24 = 0 then g_bd (f10_number z25 1 99) fun r29 z30 => if r29 < 0 then some ((-1000 : Int32), z30) else g_bd (f10_stands z30 120) fun r34 z35 => if ¬ r34 = 0 then g_bd (f10_number z35 1 99) fun r39 z40 => if r39 < 0 then some ((-1000 : Int32), z40) else if ¬ (1 : Int32) = 0 then f10_command_217 z40 x1 (-1000) 1 v (nI w5) r29 r39 else g_bd (f10_stands z40 64) fun r61 z62 => if ¬ r61 = 0 then f10_command_217 z62 x1 (-1000) 1 v (nI w5) r29 r39 else some ((-1000 : Int32), z62) else some ((-1000 : Int32), z35) else some ((-1000 : Int32), z25)) = _ from s6 (-1000) _]
            have f6 := (p_fld_f t l 44 1 99 q5 f5).2.1
            cases hc6 : p_fld t l 44 1 99 q5 with
            | mk z6 q6 =>
            rw [hc6] at y6 f6
            cases z6 with
            | none => exact ⟨M6, y6, (k14.tr k5).tr k6, rfl⟩
            | some w6 =>
              simp only [m_fr]
              obtain ⟨M7, y7, k7, s7⟩ := m_fl y6 hl f6 120 (lo := 1) (hi := 99) (by omega) (by omega)
              rw [show (g_bd (f10_stands M6 120) fun r34 z35 => if ¬ r34 = 0 then g_bd (f10_number z35 1 99) fun r39 z40 => if r39 < 0 then some ((-1000 : Int32), z40) else if ¬ (1 : Int32) = 0 then f10_command_217 z40 x1 (-1000) 1 v (nI w5) (nI w6) r39 else g_bd (f10_stands z40 64) fun r61 z62 => if ¬ r61 = 0 then f10_command_217 z62 x1 (-1000) 1 v (nI w5) (nI w6) r39 else some ((-1000 : Int32), z62) else some ((-1000 : Int32), z35)) = _ from s7 (-1000) _]
              cases hc7 : p_fld t l 120 1 99 q6 with
              | mk z7 q7 =>
              rw [hc7] at y7
              cases z7 with
              | none => exact ⟨M7, y7, ((k14.tr k5).tr k6).tr k7, rfl⟩
              | some w7 =>
                refine ⟨M7, y7, ((k14.tr k5).tr k6).tr k7, ?_⟩
                simp only [m_fr]
                rw [if_pos (by decide)]
                unfold f10_command_217 f10_command_233
                rw [if_neg (by decide), if_pos (Int32.le_refl 0), e5]
                by_cases cx : x1 = 0
                · rw [if_neg (not_not_intro cx)]
                  show _ = if x1 = 0 then _ else _
                  rw [if_pos cx]
                · rw [if_pos cx, if_neg (by decide), g_bd_id]
                  show _ = if x1 = 0 then _ else _
                  rw [if_neg cx]
                  rfl
      · rw [if_neg c3] at y3
        rw [if_neg c3, if_neg (not_not_intro rfl)]
        obtain ⟨M4, e4, y4, k4⟩ := m_stands y3 hl hp 111
        rw [e4, q_bd_s]
        have k14 := ((k1.tr k2).tr k3).tr k4
        by_cases c4 : p < l ∧ t p = 111
        · rw [if_pos c4] at y4
          rw [if_pos c4, if_pos (by decide)]
          have ec : p_cmd t l p = p_bd (p_fld t l 111 0 2 p) fun s q => p_bd (p_fld t l 44 1 99 q) fun w q => p_bd (p_fld t l 120 1 99 q) fun y q => p_bd (p_fld t l 64 0 999 q) fun d q => (some (3, s, w, y, d), q) := by unfold p_cmd; rw [if_neg c1, if_neg c2, if_neg c3, if_pos c4]
          unfold f10_command_103 f10_command_117
          rw [if_pos rfl, if_neg (by decide), if_pos rfl, ec]
          unfold f10_command_139
          obtain ⟨M5, y5, k5, v, e5, e6, e7⟩ := m_fl1 y4 hl c4 (lo := 0) (hi := 2) (by omega) (by omega)
          have e5' : f10_number M4 0 2 = some (v, M5) := e5
          have f5 := (p_fld_f t l 111 0 2 p hp).2.1
          rw [e5', q_bd_s]
          cases hc5 : p_fld t l 111 0 2 p with
          | mk z5 q5 =>
          rw [hc5] at y5 f5 e6 e7
          cases z5 with
          | none =>
            rw [if_pos (e7.mpr rfl)]
            exact ⟨M5, y5, k14.tr k5, rfl⟩
          | some w5 =>
            rw [if_neg (fun z => by have := e7.mp z; cases this)]
            obtain ⟨M6, y6, k6, s6⟩ := m_fl y5 hl f5 44 (lo := 1) (hi := 99) (by omega) (by omega)
            rw [show (g_bd (f10_stands M5 44) fun r24 z25 => if ¬ r24 = 0 then g_bd (f10_number z25 1 99) fun r29 z30 => if r29 < 0 then some ((-1000 : Int32), z30) else g_bd (f10_stands z30 120) fun r34 z35 => if ¬ r34 = 0 then g_bd (f10_number z35 1 99) fun r39 z40 => if r39 < 0 then some ((-1000 : Int32), z40) else if ¬ (0 : Int32) = 0 then f10_command_217 z40 x1 (-1000) 0 0 v r29 r39 else g_bd (f10_stands z40 64) fun r61 z62 => if ¬ r61 = 0 then f10_command_217 z62 x1 (-1000) 0 0 v r29 r39 else some ((-1000 : Int32), z62) else some ((-1000 : Int32), z35) else some ((-1000 : Int32), z25)) = _ from s6 (-1000) _]
            have f6 := (p_fld_f t l 44 1 99 q5 f5).2.1
            simp only [p_bd, not_true_eq_false, if_false]
            cases hc6 : p_fld t l 44 1 99 q5 with
            | mk z6 q6 =>
            rw [hc6] at y6 f6
            cases z6 with
            | none => exact ⟨M6, y6, (k14.tr k5).tr k6, rfl⟩
            | some w6 =>
              simp only [m_fr]
              obtain ⟨M7, y7, k7, s7⟩ := m_fl y6 hl f6 120 (lo := 1) (hi := 99) (by omega) (by omega)
              rw [show (g_bd (f10_stands M6 120) fun r34 z35 => if ¬ r34 = 0 then g_bd (f10_number z35 1 99) fun r39 z40 => if r39 < 0 then some ((-1000 : Int32), z40) else g_bd (f10_stands z40 64) fun r61 z62 => if ¬ r61 = 0 then f10_command_217 z62 x1 (-1000) 0 0 v (nI w6) r39 else some ((-1000 : Int32), z62) else some ((-1000 : Int32), z35)) = _ from s7 (-1000) _]
              have f7 := (p_fld_f t l 120 1 99 q6 f6).2.1
              cases hc7 : p_fld t l 120 1 99 q6 with
              | mk z7 q7 =>
              rw [hc7] at y7 f7
              cases z7 with
              | none => exact ⟨M7, y7, ((k14.tr k5).tr k6).tr k7, rfl⟩
              | some w7 =>
                simp only [m_fr]
                obtain ⟨M8, e8, y8, k8⟩ := m_stands y7 hl f7 64
                rw [e8, q_bd_s]
                by_cases c8 : q7 < l ∧ t q7 = 64
                · rw [if_pos c8] at y8
                  rw [if_pos c8, if_pos (by decide)]
                  obtain ⟨M9, y9, k9, v9, e9, e10, e11⟩ := m_fl1 y8 hl c8 (lo := 0) (hi := 999) (by omega) (by omega)
                  have e9' : f10_number M8 0 999 = some (v9, M9) := e9
                  unfold f10_command_217 f10_command_233
                  rw [if_pos rfl, e9', q_bd_s]
                  have kk := ((((k14.tr k5).tr k6).tr k7).tr k8).tr k9
                  cases hc9 : p_fld t l 64 0 999 q7 with
                  | mk z9 q9 =>
                  rw [hc9] at y9 e10 e11
                  cases z9 with
                  | none =>
                    refine ⟨M9, y9, kk, ?_⟩
                    rw [if_neg (fun z => (i_nlt v9 0).mp (e11.mpr rfl) z)]
                    rfl
                  | some w9 =>
                    refine ⟨M9, y9, kk, ?_⟩
                    rw [if_pos (Int32.not_lt.mp (fun z => by have := e11.mp z; cases this)), e10, e6]
                    by_cases cx : x1 = 0
                    · rw [if_neg (not_not_intro cx)]
                      show _ = if x1 = 0 then _ else _
                      rw [if_pos cx]
                    · rw [if_pos cx, if_pos rfl, g_bd_id]
                      show _ = if x1 = 0 then _ else _
                      rw [if_neg cx]
                      rfl
                · rw [if_neg c8] at y8
                  rw [if_neg c8, if_neg (not_not_intro rfl), p_fld_n 0 999 c8]
                  exact ⟨M8, y8, (((k14.tr k5).tr k6).tr k7).tr k8, rfl⟩
        · rw [if_neg c4] at y4
          rw [if_neg c4, if_neg (not_not_intro rfl)]
          have ec : p_cmd t l p = (none, p) := by unfold p_cmd; rw [if_neg c1, if_neg c2, if_neg c3, if_neg c4]
          rw [ec]
          exact ⟨M4, y4, k14, rfl⟩
/-- the reference's count of commands, or none at the fault -/
theorem m_run {t : Nat → Int32} {l : Nat} (hl : l ≤ 60) : ∀ (e n p c : Nat) (M : gMo), y_at t l p M → p ≤ l → l + 1 ≤ p + 3 * e → e ≤ n → ∃ M2, f10_commands_7 n M (nI c) = some (match (p_run t l e p).1 with | none => 0 | some cs => nI (c + cs.length), M2) ∧ y_at t l (p_run t l e p).2 M2 ∧ y_k M M2 := by
  intro e
  induction e with
  | zero => intro n p c M h hp he; omega
  | succ e ih =>
    intro n p c M h hp he hn
    obtain ⟨n, rfl⟩ : ∃ k, n = k + 1 := ⟨n - 1, by omega⟩
    obtain ⟨M1, y1, k1, e1⟩ := m_cmd h hl hp 0
    obtain ⟨f1, f2, f3⟩ := p_cmd_f t hp
    rw [f10_commands_7, e1]
    cases hcm : p_cmd t l p with
    | mk y q =>
    rw [hcm] at y1 f1 f2 f3
    cases y with
    | none =>
      rw [p_run_n hcm, show m_cr ((none : Option gCm), q) 0 M1 = some (-1000, M1) from rfl, q_bd_s, if_pos (by decide)]
      exact ⟨M1, rfl, y1, k1⟩
    | some cm =>
      have fq : p + 2 ≤ q := (f3 cm rfl).2
      have ql : q ≤ l := f2
      rw [p_run_s hcm, show m_cr (some cm, q) 0 M1 = some (0, M1) from rfl, q_bd_s, if_neg (by decide), y1.2.1, y1.2.2]
      by_cases c1 : l ≤ q
      · have eq : q = l := by omega
        rw [if_neg (not_not_intro (by rw [eq])), if_pos c1, show nI c + (1 : Int32) = nI (c + 1) from nI_add c 1]
        exact ⟨M1, rfl, y1, k1⟩
      · rw [if_pos (by rw [nI_eq (by omega) (by omega)]; omega), if_neg c1]
        obtain ⟨M2, e2, y2, k2⟩ := m_stands y1 hl ql 59
        rw [e2, q_bd_s]
        by_cases c2 : t q = 59
        · have c3 : q < l ∧ t q = 59 := ⟨by omega, c2⟩
          rw [if_pos c3] at y2
          rw [if_pos c3, if_pos (by decide), if_pos c2, show nI c + 1 = nI (c + 1) from nI_add c 1]
          obtain ⟨M3, i1, i2, i3⟩ := ih n (q + 1) (c + 1) M2 y2 (by omega) (by omega) (by omega)
          rw [i1]
          refine ⟨M3, ?_, i2, (k1.tr k2).tr i3⟩
          cases hr : (p_run t l e (q + 1)).1 with
          | none => rfl
          | some ds =>
            show some (nI (c + 1 + ds.length), M3) = some (nI (c + (cm :: ds).length), M3)
            rw [List.length_cons, show c + 1 + ds.length = c + (ds.length + 1) by omega]
        · have c3 : ¬ (q < l ∧ t q = 59) := fun z => c2 z.2
          rw [if_neg c3] at y2
          rw [if_neg c3, if_neg (not_not_intro rfl), if_neg c2]
          exact ⟨M2, rfl, y2, k1.tr k2⟩
