/-! BOTH SYSTEMS: what would be, and the order of orders -/
theorem i_sub4 (a b c d : Int32) : a - b - (c + d) = a - b - c - d := by
  rw [Int32.sub_eq_add_neg (a - b - c) d, Int32.sub_eq_add_neg (a - b) c, Int32.sub_eq_add_neg (a - b) (c + d), Int32.neg_add, Int32.sub_eq_add_neg (-c) d, Int32.add_assoc]
def w_wd (a : aSt) (o : gOd) (s : gSh) (n : Nat) (x : Int32) : Int32 := if x = 0 then c_lie a.1 o s else if x = 1 then c_ba a.1 o s else if x = 2 then c_aa a.1 o s else if x = 3 then c_kept a.1 o s else if x = 4 then c_scr a.1 o s else if x = 5 then c_lost a.1 o s else nI n + 1
theorem m_would {a : aSt} (ha : a_ok a) {M : gMo} (hm : r_m a (M.1 0)) {r p k : Nat} {s : gSh} {o : gOd} (hr : r < 4) (hs : (a.2.1 r)[p]? = some s) (hk : a.2.2[k]? = some o) {x : Int32} (hx : 0 ≤ x ∧ x ≤ 6) : f10_would M (nI k) s.1 x = some (if c_lie a.1 o s = -1 then -5 else w_wd a o s ((a.2.1 r).length - 1 - p) x) := by
  have rd := m_rd_of ha hm hr hs hk
  have hkl := (List.getElem?_eq_some_iff.mp hk).1
  unfold f10_would
  rw [m_isOrder_y ha.2.2 hm.2.2.2.2 hkl, q_b1_s, if_neg (by decide), m_isSheet_y ha hm hr hs, q_b1_s, if_pos (show ¬ (1 : Int32) = 0 by decide), f10_in_e, q_b1_s, if_pos hx, if_pos (show ¬ (1 : Int32) = 0 by decide), m_lies rd, q_b1_s]
  by_cases c : c_lie a.1 o s = -1
  · rw [if_neg (fun q => (c_lie_ge _ _ _).mp q c), if_pos c]
  · rw [if_pos ((c_lie_ge _ _ _).mpr c), if_neg c, (m_area rd).1, (m_area rd).2, m_kept rd, m_scr rd, m_before ha hm hr hs, (m_its ha hm hr hs).2.2.2.2.2, rd.2.1, rd.2.2.1]
    simp only [q_b1_s, q_let]
    obtain ⟨j, hj, rfl⟩ := i_nat (n := 6) (by omega) hx.1 hx.2
    have : j = 0 ∨ j = 1 ∨ j = 2 ∨ j = 3 ∨ j = 4 ∨ j = 5 ∨ j = 6 := by omega
    unfold w_wd
    rcases this with rfl | rfl | rfl | rfl | rfl | rfl | rfl
    · rw [if_neg (by decide), if_neg (by decide), if_pos (by decide)]
    · rw [if_neg (by decide), if_pos (by decide), show nI 1 - (1 : Int32) = 0 by decide, (m_area rd).1, q_b1_s, if_neg (by decide), if_pos (by decide)]
    · rw [if_neg (by decide), if_pos (by decide), show nI 2 - (1 : Int32) = 1 by decide, (m_area rd).2, q_b1_s, if_neg (by decide), if_neg (by decide), if_pos (by decide)]
    · rw [if_pos (by decide), if_pos (by decide), if_neg (by decide), if_neg (by decide), if_neg (by decide), if_neg (by decide), if_pos (by decide)]
    · rw [if_pos (by decide), if_pos (by decide), if_pos (by decide), if_neg (by decide), if_neg (by decide), if_neg (by decide), if_neg (by decide), if_neg (by decide), if_pos (by decide)]
    · rw [if_pos (by decide), if_pos (by decide), if_pos (by decide), if_pos (by decide), if_neg (by decide), if_neg (by decide), if_neg (by decide), if_neg (by decide), if_neg (by decide), if_pos (by decide), i_sub4]
      rfl
    · rw [if_pos (by decide), if_neg (by decide), if_neg (by decide), if_neg (by decide), if_neg (by decide), if_neg (by decide), if_neg (by decide), if_neg (by decide), Int32.add_comm]
theorem c_lie_01 {g : Nat → Int32} {o : gOd} {s : gSh} (h : ¬ c_lie g o s = -1) : (if c_lie g o s = 0 then (0 : Int32) else 1) = c_lie g o s := by
  unfold c_lie at h ⊢
  split
  · next c => rw [if_pos c] at h; exact absurd rfl h
  · next c =>
    rw [if_neg c] at h
    split
    · rfl
    · next c2 =>
      rw [if_neg c2] at h
      split
      · rfl
      · next c3 => rw [if_neg c3] at h; exact absurd rfl h
theorem j_would {μ : gMu} (h : j_inv μ) (p1 p2 p3 : Int32) : ∃ r μ1, f9_would μ p1 p2 p3 = some (r, μ1) ∧ f10_would μ1.2.2.2.2 p1 p2 p3 = some r ∧ j_inv μ1 := by
  have hh := h
  obtain ⟨a, hs, sn, t, l, ho, h1, h2⟩ := h
  have ha := ho.1
  have hos := ho.1.2.2
  have hc := h1.1
  have hm := h2.1.2.2.2.2
  have badm : (∀ k, k < a.2.2.length → p1 ≠ nI k) → f10_would μ.2.2.2.2 p1 p2 p3 = some (-1) := fun hx => by
    unfold f10_would
    rw [m_isOrder_n hos hm hx, q_b1_s, if_pos rfl]
  rcases o_find a.2.2 p1 with ⟨k, o, hk, rfl⟩ | hx
  · have hkl := (List.getElem?_eq_some_iff.mp hk).1
    have hle := hos.1
    rcases k_find a.2.1 p2 with ⟨r, p, s, hr, hsx, rfl⟩ | hy
    · obtain ⟨hn, ⟨m, hm2, hk4⟩, -⟩ := ho.1
      have hl := hk4.2.1 r hr
      have hp : p < (a.2.1 r).length := (List.getElem?_eq_some_iff.mp hsx).1
      unfold f9_would
      rw [r_numb hc.2.2.2 (by omega), q_b1_s, hk, q_oc_s, r_slot hc.2.2.1 hk4.2.2.1 hr hl hsx, q_b1_s, r_slot_in hc.2.2.1 hr hl hsx, q_b1_s, q_oc_s]
      by_cases c : 0 ≤ p3 ∧ p3 ≤ 6
      · obtain ⟨z2, y1, y2, y3⟩ := r_lay hc hn (hos.2 k o hk).1 (hk4.2.2.2 r p s hr hsx).1
        have mw := m_would ha h2.1 hr hsx hk c
        have j2 : j_inv (g_setS μ 0 z2) := ⟨a, hs, sn, t, l, ho, h1.set0 y2, h2⟩
        rw [if_neg (fun q => (i_nlt p3 0).mp q c.1), if_pos c.2, y1, q_bd_s, q_let]
        have eM : (g_setS μ 0 z2).2.2.2.2 = μ.2.2.2.2 := rfl
        by_cases cl : c_lie a.1 o s = -1
        · rw [if_pos cl, if_neg (not_not_intro rfl)]
          rw [if_pos cl] at mw
          exact ⟨_, _, rfl, mw, j2⟩
        · rw [if_neg cl, if_pos (show ¬ (1 : Int32) = 0 by decide)]
          rw [if_neg cl] at mw
          obtain ⟨q14, q15, q16, q17, q18, q19, q20, q21, q22, q23⟩ := y3 cl
          have e0 : (g_setS μ 0 z2).1 0 = z2 := rfl
          rw [e0, q14, q17, q20, q21, q22, q23, r_before y2.2.2.1 hr hl hp, q_b1_s]
          refine ⟨w_wd a o s ((a.2.1 r).length - 1 - p) p3, g_setS μ 0 z2, ?_, mw, j2⟩
          unfold w_wd
          by_cases c0 : p3 = 0
          · rw [if_pos c0, if_pos c0]
            have e := c_lie_01 cl
            by_cases c00 : c_lie a.1 o s = 0
            · rw [if_pos c00, c00]
            · rw [if_neg c00] at e ⊢
              rw [← e]
          · rw [if_neg c0, if_neg c0]
            by_cases c1 : p3 = 1
            · rw [if_pos c1, if_pos c1]
            · rw [if_neg c1, if_neg c1]
              by_cases c2 : p3 = 2
              · rw [if_pos c2, if_pos c2]
              · rw [if_neg c2, if_neg c2]
                by_cases c3 : p3 = 3
                · rw [if_pos c3, if_pos c3]
                · rw [if_neg c3, if_neg c3]
                  by_cases c4 : p3 = 4
                  · rw [if_pos c4, if_pos c4]
                  · rw [if_neg c4, if_neg c4]
                    by_cases c5 : p3 = 5
                    · rw [if_pos c5, if_pos c5]
                    · rw [if_neg c5, if_neg c5]
      · have em : f10_would μ.2.2.2.2 (nI k) s.1 p3 = some (-2) := by
          unfold f10_would
          rw [m_isOrder_y hos hm hkl, q_b1_s, if_neg (by decide), m_isSheet_y ha h2.1 hr hsx, q_b1_s, if_pos (show ¬ (1 : Int32) = 0 by decide), f10_in_e, q_b1_s, if_neg c, if_neg (not_not_intro rfl)]
        by_cases c2 : p3 < 0
        · rw [if_pos c2]
          exact ⟨_, _, rfl, em, hh⟩
        · rw [if_neg c2, if_neg (fun q => c ⟨Int32.not_lt.mp c2, q⟩)]
          exact ⟨_, _, rfl, em, hh⟩
    · obtain ⟨hn, ⟨m, hm2, hk4⟩, -⟩ := ho.1
      refine ⟨-1, μ, ?_, ?_, hh⟩
      · unfold f9_would
        rw [r_numb hc.2.2.2 (by omega), q_b1_s, hk, q_oc_s, r_slot_none hc.2.2.1 hk4.2.1 hy, q_b1_s, r_inslot_m, q_b1_s, q_oc_n]
      · unfold f10_would
        rw [m_isOrder_y hos hm hkl, q_b1_s, if_neg (by decide), m_isSheet_n ha h2.1 hy, q_b1_s, if_neg (not_not_intro rfl)]
  · refine ⟨-1, μ, ?_, badm hx, hh⟩
    obtain ⟨v, w, s1, s2⟩ := r_slot_any ha hc p2
    unfold f9_would
    rw [r_numb_n hc.2.2.2 hx, q_b1_s, q_oc_n, s1, q_b1_s, s2, q_b1_s]
    cases w <;> rfl
/-! the orders in a plan's order -/
def w_rank (os : List gOd) : Nat → Option gOd → Option gOd
  | 0, v => v
  | _ + 1, none => none
  | n + 1, some o => w_rank os n (o_best (o_nx (some o)) none os)
theorem r_rank {os : List gOd} {z : gSt} (h : r_ol os z.2.2) (hos : r_os os) {R : Nat} (hR : R < 12) : ∀ (d n k : Nat) (v : Option gOd), k + d = R → d < n → (∀ o, v = some o → ∃ k : Nat, os[k]? = some o) → f4_openAtRank_16 n z (nI R) v (nI k) = some (w_rank os d v) := by
  intro d
  induction d with
  | zero =>
    intro n k v hk hn hv
    obtain ⟨n, rfl⟩ : ∃ k, n = k + 1 := ⟨n - 1, by omega⟩
    rw [f4_openAtRank_16]
    cases v with
    | none => rw [q_oc_n, ite_self]; rfl
    | some o => rw [q_oc_s, if_pos ((nI_leI (by omega) (by omega)).mpr (by omega))]; rfl
  | succ d ih =>
    intro n k v hk hn hv
    obtain ⟨n, rfl⟩ : ∃ k, n = k + 1 := ⟨n - 1, by omega⟩
    rw [f4_openAtRank_16]
    cases v with
    | none => rw [q_oc_n, ite_self]; rfl
    | some o =>
      obtain ⟨j, hj⟩ := hv o rfl
      rw [q_oc_s, if_neg (by rw [nI_leI (by omega) (by omega)]; omega), r_next h hos (some o) (fun l q => by cases q; exact hos.num hj), q_b1_s, show nI k + 1 = nI (k + 1) from nI_add k 1, w_rank]
      have i1 := ih n (k + 1) (o_best (o_nx (some o)) none os) (by omega) (by omega) (fun o2 q => o_best_at q)
      generalize o_best (o_nx (some o)) none os = b at i1 ⊢
      cases b with
      | none => rw [q_oc_n]; exact i1
      | some b => rw [q_oc_s]; exact i1
theorem w_rank_no {os : List gOd} : ∀ (d : Nat) (last : Option gOd), os.countP (o_nx last) ≤ d → w_rank os d (o_best (o_nx last) none os) = none := by
  intro d
  induction d with
  | zero =>
    intro last h
    cases hb : o_best (o_nx last) none os with
    | none => rfl
    | some o =>
      obtain ⟨h3, -, -⟩ := o_best_le _ _ _ _ hb
      rcases h3 with q | q
      · cases q
      · have := List.countP_pos_iff.mpr ⟨o, q.1, q.2⟩
        omega
  | succ d ih =>
    intro last h
    cases hb : o_best (o_nx last) none os with
    | none => rfl
    | some o =>
      obtain ⟨k, hk⟩ := o_best_at hb
      have := s_fall hk hb rfl (fun _ _ h _ => h)
      rw [w_rank]
      exact ih (some o) (by omega)
theorem m_rank {os : List gOd} {M : gMo} (hos : r_os os) (hm : m_od os (M.1 0)) {R : Nat} (hR : R < 2 ^ 31) : ∀ (n d k S : Nat) (last : Option gOd), k + d = R → s_in os S last → S < 4096 → os.countP (o_nx last) < n → f10_next_18 n M (nI R) (nI S) (m_nm (o_best (o_nx last) none os)) (nI k) = some (m_nm (w_rank os d (o_best (o_nx last) none os))) := by
  intro n
  induction n with
  | zero => intro d k S last _ _ _ h; omega
  | succ n ih =>
    intro d k S last hk hs hS hc
    rw [f10_next_18]
    cases d with
    | zero =>
      rw [if_pos ((nI_leI (by omega) (by omega)).mpr (by omega))]
      rfl
    | succ d =>
      rw [if_neg (by rw [nI_leI (by omega) (by omega)]; omega)]
      cases hb : o_best (o_nx last) none os with
      | none =>
        rw [if_pos (show m_nm none = -5 from rfl)]
        rfl
      | some o =>
        obtain ⟨j, hj⟩ := o_best_at hb
        have hjl : j < 12 := by have := (List.getElem?_eq_some_iff.mp hj).1; have := hos.1; omega
        have en : m_nm (some o) = nI j := (hos.2 j o hj).2
        have hs2 : s_in os (S ||| 2 ^ j) (some o) := hs.next hos hj hb (fun _ _ h _ => h)
        have hf := s_fall hj hb rfl (fun _ _ h _ => h)
        rw [en, if_neg (nI_m5 (by omega)), s_set S hjl, q_let, m_first hos hm (s_lt hS hjl), q_b1_s, hs2.best hos, show nI k + 1 = nI (k + 1) from nI_add k 1, w_rank]
        exact ih d (k + 1) (S ||| 2 ^ j) (some o) (by omega) hs2 (s_lt hS hjl) (by omega)
theorem j_next {μ : gMu} (h : j_inv μ) (p1 : Int32) : ∃ r, f9_next μ p1 = some r ∧ f10_next μ.2.2.2.2 p1 = some r := by
  obtain ⟨a, hs, sn, t, l, ho, h1, h2⟩ := h
  have hos := ho.1.2.2
  have hc := h1.1
  have hm := h2.1.2.2.2.2
  unfold f9_next f10_next
  by_cases c : 0 ≤ p1
  · rw [if_pos c, if_pos c]
    obtain ⟨R, hR, rfl⟩ := nI_of (Int32.not_lt.mpr c)
    have e1 := m_first hos hm (S := 0) (by omega)
    rw [(s_in0 a.2.2).best hos] at e1
    have e2 := m_rank hos hm hR 70 R 0 0 none (by omega) (s_in0 a.2.2) (by omega) (by have := List.countP_le_length (p := o_nx none) (l := a.2.2); have := hos.1; omega)
    rw [nI_0] at e1 e2
    rw [e1, q_b1_s, e2]
    unfold f4_openAtRank
    by_cases c2 : R < 12
    · rw [if_pos (by rw [l12, nI_ltI (by omega) (by omega)]; exact c2), r_next hc.2.2.2 hos none (fun l q => by cases q), q_b1_s]
      have e3 := r_rank hc.2.2.2 hos c2 R 70 0 (o_best (o_nx none) none a.2.2) (by omega) (by omega) (fun o q => o_best_at q)
      rw [nI_0] at e3
      have e4 : (g_oc (o_best (o_nx none) none a.2.2) (f4_openAtRank_16 70 (μ.1 0) (nI R) none 0) fun v7 => f4_openAtRank_16 70 (μ.1 0) (nI R) (some v7) 0) = some (w_rank a.2.2 R (o_best (o_nx none) none a.2.2)) := by
        generalize o_best (o_nx none) none a.2.2 = b at e3 ⊢
        cases b with
        | none => rw [q_oc_n]; exact e3
        | some b => rw [q_oc_s]; exact e3
      rw [e4, q_b1_s]
      cases w_rank a.2.2 R (o_best (o_nx none) none a.2.2) with
      | none => exact ⟨_, rfl, rfl⟩
      | some o => exact ⟨_, rfl, rfl⟩
    · rw [if_neg (by rw [l12, nI_ltI (by omega) (by omega)]; exact c2), q_b1_s, q_oc_n, w_rank_no R none (by have := List.countP_le_length (p := o_nx none) (l := a.2.2); have := hos.1; omega)]
      exact ⟨_, rfl, rfl⟩
  · rw [if_neg c, if_neg c]
    exact ⟨_, rfl, rfl⟩
theorem w_plan_does {a : aSt} {c : Int32} (hc : 0 ≤ c ∧ c ≤ 2) : (w_plan a c).2 = (w_does a c).2 ∧ (if 0 ≤ (w_plan a c).1 then (w_plan a c).1 else 0) = (w_does a c).1 := by
  rw [w_plan_e, if_pos hc]
  by_cases h : o_best (o_nx none) none a.2.2 = none
  · rw [if_pos h, w_does_n c h]
    exact ⟨rfl, rfl⟩
  · rw [if_neg h, if_pos (Int32.not_lt.mp (w_does_nn a c))]
    exact ⟨rfl, rfl⟩
theorem j_wouldPlan {μ : gMu} (h : j_inv μ) (p1 p2 : Int32) : ∃ r μ1 M1, f9_wouldPlan μ p1 p2 = some (r, μ1) ∧ f10_wouldPlan μ1.2.2.2.2 p1 p2 = some (r, M1) ∧ j_inv (g_setM μ1 M1) := by
  have hh := h
  obtain ⟨a, hs, sn, t, l, ho, h1, h2⟩ := h
  have ha := ho.1
  unfold f9_wouldPlan
  rw [f9_choice_e, q_b1_s]
  by_cases c1 : 0 ≤ p1 ∧ p1 ≤ 2
  · rw [if_pos c1, if_neg (show ¬ (1 : Int32) = 0 by decide)]
    by_cases c2 : 0 ≤ p2 ∧ p2 ≤ 3
    · rw [if_neg (fun q => (i_nlt p2 0).mp q c2.1), if_pos c2.2]
      obtain ⟨z1, y1, x1⟩ := r_copy h1.1 (μ.1 1)
      obtain ⟨z2, y2, x2, -⟩ := r_plan ha x1 p1
      rw [y1, q_b1_s, q_let, show (g_setS μ 1 z1).1 1 = z1 from rfl, y2, q_bd_s, q_let]
      obtain ⟨wp1, wp2⟩ := w_plan_does (a := a) c1
      rw [wp1] at x2
      have j1 := (h1.set1 z1).set1 z2
      obtain ⟨M2, e2, g2, k2, -⟩ := h2.copy1 ha
      obtain ⟨M3, e3, k3, r3⟩ := m_plans ha g2.1 p1
      have g3 := g2.eq k3 r3
      obtain ⟨M4, e4, v2, v3, v4⟩ := m_copy (b0 := 1) (b1 := 0) rfl rfl (by omega) M3
      have k3' : r_m a (M3.1 1) := by rw [k3.2 1 (by omega)]; exact k2
      have g4 : jm a hs sn t l M4 := g3.eq ⟨v2, v3⟩ (k3'.cg ha v4)
      have ev : ∀ (k : Nat), k < 13 → ((g_setS (g_setS μ 1 z1) 1 z2).1 1).1 k = (w_does a p1).2.1 k := fun k hk => x2.1 k hk
      have e0 : ∀ (k : Nat), k < 13 → ((g_setS (g_setS μ 1 z1) 1 z2).1 0).1 k = a.1 k := fun k hk => h1.1.1 k hk
      rw [ev 8 (by omega), ev 11 (by omega), ev 9 (by omega), e0 8 (by omega), e0 11 (by omega), e0 9 (by omega)]
      have mv : ∀ (v : Int32), f10_wouldPlan_83 M3 v = some (v, M4) := fun v => by
        unfold f10_wouldPlan_83
        rw [e4, q_b1_s]
      have m58 : ∀ (c : Nat) (y : Int32), c < 1134 → y = nI c → ¬ p2 = 0 → f10_wouldPlan_58 M3 p2 (w_does a p1).1 y = some (M3.1 0 c - M3.1 1 c, M4) := fun c y hc hy hp => by
        unfold f10_wouldPlan_58
        rw [if_pos hp, hy, if_pos (by rw [q_in (by omega)]; exact hc), if_pos (by rw [q_in (by omega)]; exact hc), nI_clamp (by omega), mv]
      have fin : ∀ r : Int32, (if ¬ p2 = 1 then if ¬ p2 = 2 then f10_wouldPlan_58 M3 p2 (w_does a p1).1 4 else f10_wouldPlan_58 M3 p2 (w_does a p1).1 6 else f10_wouldPlan_58 M3 p2 (w_does a p1).1 3) = some (r, M4) → f10_wouldPlan (g_setS (g_setS μ 1 z1) 1 z2).2.2.2.2 p1 p2 = some (r, M4) := fun r hr => by
        show f10_wouldPlan μ.2.2.2.2 p1 p2 = _
        unfold f10_wouldPlan
        rw [f10_in_e, q_b1_s, if_pos c1, if_neg (show ¬ (1 : Int32) = 0 by decide), f10_in_e, q_b1_s, if_pos c2, if_pos (show ¬ (1 : Int32) = 0 by decide), e2, q_b1_s, e3, q_bd_s]
        exact hr
      have done : j_inv (g_setM (g_setS (g_setS μ 1 z1) 1 z2) M4) := ⟨a, hs, sn, t, l, ho, j1, g4⟩
      by_cases d0 : p2 = 0
      · subst d0
        rw [if_pos rfl]
        have f0 := fin (w_does a p1).1 (by
          rw [if_pos (by decide), if_pos (by decide)]
          unfold f10_wouldPlan_58
          rw [if_neg (not_not_intro rfl), mv])
        by_cases cn : 0 ≤ (w_plan a p1).1
        · rw [if_pos cn] at wp2 ⊢
          rw [wp2]
          exact ⟨_, _, M4, rfl, f0, done⟩
        · rw [if_neg cn] at wp2 ⊢
          rw [← wp2] at f0
          exact ⟨_, _, M4, rfl, f0, done⟩
      · rw [if_neg d0]
        by_cases d1 : p2 = 1
        · rw [if_pos d1]
          exact ⟨_, _, M4, rfl, fin _ (by rw [if_neg (not_not_intro d1), m58 3 3 (by omega) rfl d0, r3.1.at.2.2.2.2.1, k3'.1.at.2.2.2.2.1]), done⟩
        · rw [if_neg d1]
          by_cases d2 : p2 = 2
          · rw [if_pos d2]
            exact ⟨_, _, M4, rfl, fin _ (by rw [if_pos d1, if_neg (not_not_intro d2), m58 6 6 (by omega) rfl d0, r3.1.at.2.1, k3'.1.at.2.1]), done⟩
          · rw [if_neg d2]
            exact ⟨_, _, M4, rfl, fin _ (by rw [if_pos d1, if_pos d2, m58 4 4 (by omega) rfl d0, r3.1.at.2.2.1, k3'.1.at.2.2.1]), done⟩
    · have em : f10_wouldPlan μ.2.2.2.2 p1 p2 = some (-2, μ.2.2.2.2) := by
        unfold f10_wouldPlan
        rw [f10_in_e, q_b1_s, if_pos c1, if_neg (show ¬ (1 : Int32) = 0 by decide), f10_in_e, q_b1_s, if_neg c2, if_neg (not_not_intro rfl)]
      by_cases c3 : p2 < 0
      · rw [if_pos c3]
        exact ⟨_, _, _, rfl, em, hh⟩
      · rw [if_neg c3, if_neg (fun q => c2 ⟨Int32.not_lt.mp c3, q⟩)]
        exact ⟨_, _, _, rfl, em, hh⟩
  · rw [if_neg c1, if_pos rfl]
    refine ⟨_, _, μ.2.2.2.2, rfl, ?_, hh⟩
    unfold f10_wouldPlan
    rw [f10_in_e, q_b1_s, if_neg c1, if_pos rfl]
