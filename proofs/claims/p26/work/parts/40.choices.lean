/-! THE LAW: choices -/
def ms3 (a : aSt) (o : gOd) (c r p : Nat) (s : gSh) : Int32 := if c = 0 then s.2.2.1 * s.2.2.2.1 else if c = 1 then nI ((a.2.1 r).length - 1 - p) else c_scr a.1 o s
theorem ms3_e {a : aSt} {o : gOd} {c r p : Nat} {s : gSh} (hc : c < 3) (hp : p < 8) : ch_ms a o (nI c) (8 * r + p) s = ms3 a o c r p s := by
  unfold ch_ms ms3
  rw [show (8 * r + p) / 8 = r by omega, show (8 * r + p) % 8 = p by omega]
  have : c = 0 ∨ c = 1 ∨ c = 2 := by omega
  rcases this with rfl | rfl | rfl
  · rw [if_pos (show nI 0 = 0 from rfl), if_pos (show (0 : Nat) = 0 from rfl)]
  · rw [if_neg (show ¬ nI 1 = 0 by decide), if_pos (show nI 1 = 1 from rfl), if_neg (show ¬ (1 : Nat) = 0 by decide), if_pos (show (1 : Nat) = 1 from rfl)]
  · rw [if_neg (show ¬ nI 2 = 0 by decide), if_neg (show ¬ nI 2 = 1 by decide), if_neg (show ¬ (2 : Nat) = 0 by decide), if_neg (show ¬ (2 : Nat) = 1 by decide)]
/-- a sheet of the racks that a pane fits on, with its number -/
def fit (a : aSt) (o : gOd) (r p : Nat) (s : gSh) (i : Nat) : Prop := r < 4 ∧ (a.2.1 r)[p]? = some s ∧ s.1 = nI i ∧ i < 200 ∧ ¬ c_lie a.1 o s = -1
/-- the best of the sheets with numbers below S -/
def cb (a : aSt) (o : gOd) (c S : Nat) (best least : Int32) : Prop := (best = -5 ∧ ∀ r p s i, fit a o r p s i → ¬ i < S) ∨
  ∃ r p s i, fit a o r p s i ∧ i < S ∧ best = nI i ∧ least = ms3 a o c r p s ∧ ∀ r2 p2 s2 i2, fit a o r2 p2 s2 i2 → i2 < S → least < ms3 a o c r2 p2 s2 ∨ (least = ms3 a o c r2 p2 s2 ∧ i ≤ i2)
theorem fit.eq {a : aSt} (ha : a_ok a) {o : gOd} {r p r2 p2 i : Nat} {s s2 : gSh} (h : fit a o r p s i) (h2 : fit a o r2 p2 s2 i) : r2 = r ∧ p2 = p ∧ s2 = s := by
  obtain ⟨hn, ⟨m, hm, hk4⟩, hos⟩ := ha
  obtain ⟨e1, e2⟩ := hk4.2.2.1 r2 r p2 p s2 s h2.1 h.1 h2.2.1 h.2.1 (h2.2.2.1.trans h.2.2.1.symm)
  subst e1
  subst e2
  exact ⟨rfl, rfl, Option.some.inj (h2.2.1.symm.trans h.2.1)⟩
theorem cb.skip {a : aSt} {o : gOd} {c S : Nat} {best least : Int32} (h : cb a o c S best least) (hn : ∀ r p s, ¬ fit a o r p s S) : cb a o c (S + 1) best least := by
  have lt : ∀ r p s i, fit a o r p s i → i < S + 1 → i < S := fun r p s i hf hi => by
    by_cases e : i = S
    · subst e; exact absurd hf (hn r p s)
    · omega
  rcases h with ⟨h1, h2⟩ | ⟨r, p, s, i, h1, h2, h3, h4, h5⟩
  · exact Or.inl ⟨h1, fun r p s i hf hi => h2 r p s i hf (lt r p s i hf hi)⟩
  · exact Or.inr ⟨r, p, s, i, h1, by omega, h3, h4, fun r2 p2 s2 i2 hf hi => h5 r2 p2 s2 i2 hf (lt r2 p2 s2 i2 hf hi)⟩
theorem cb.new {a : aSt} (ha : a_ok a) {o : gOd} {c S r p : Nat} {s : gSh} {best least : Int32} (h : cb a o c S best least) (hf : fit a o r p s S) (hl : best < 0 ∨ ¬ least ≤ ms3 a o c r p s) : cb a o c (S + 1) (nI S) (ms3 a o c r p s) := by
  refine Or.inr ⟨r, p, s, S, hf, by omega, rfl, rfl, fun r2 p2 s2 i2 hf2 hi => ?_⟩
  by_cases e : i2 = S
  · subst e
    obtain ⟨e1, e2, e3⟩ := fit.eq ha hf hf2
    rw [e1, e2, e3]
    exact Or.inr ⟨rfl, Nat.le_refl _⟩
  · rcases h with ⟨h1, h2⟩ | ⟨r1, p1, s1, i, h1, h2, h3, h4, h5⟩
    · exact absurd (show i2 < S by omega) (h2 r2 p2 s2 i2 hf2)
    · rcases hl with q | q
      · rw [h3] at q
        have i200 := h1.2.2.2.1
        exact absurd q (nI_pos (by omega))
      · have q2 := Int32.not_le.mp q
        rcases h5 r2 p2 s2 i2 hf2 (by omega) with z | z
        · exact Or.inl (Int32.lt_trans q2 z)
        · exact Or.inl (by rw [← z.1]; exact q2)
theorem cb.keep {a : aSt} (ha : a_ok a) {o : gOd} {c S r p : Nat} {s : gSh} {best least : Int32} (h : cb a o c S best least) (hf : fit a o r p s S) (h0 : ¬ best < 0) (hl : least ≤ ms3 a o c r p s) : cb a o c (S + 1) best least := by
  rcases h with ⟨h1, h2⟩ | ⟨r1, p1, s1, i, h1, h2, h3, h4, h5⟩
  · rw [h1] at h0
    exact absurd (by decide) h0
  · refine Or.inr ⟨r1, p1, s1, i, h1, by omega, h3, h4, fun r2 p2 s2 i2 hf2 hi => ?_⟩
    by_cases e : i2 = S
    · subst e
      obtain ⟨e1, e2, e3⟩ := fit.eq ha hf hf2
      rw [e1, e2, e3]
      by_cases z : least = ms3 a o c r p s
      · exact Or.inr ⟨z, by omega⟩
      · refine Or.inl ?_
        rcases Classical.em (least < ms3 a o c r p s) with q | q
        · exact q
        · exact absurd (Int32.le_antisymm hl (Int32.not_lt.mp q)) z
    · exact h5 r2 p2 s2 i2 hf2 (by omega)
section CHO
variable {a : aSt} {hs : List aSt}
theorem choices_59 {k c : Nat} (hc : c < 3) {o : gOd} (ho : a.2.2[k]? = some o) {m : Nat} (hm : a.1 12 = nI m) (hml : m ≤ 200) (told : Int32) (hfin : ∀ best least, cb a o c m best least → told = best) : ∀ (d n S : Nat) (μ : gMu) (best least : Int32), S + d = m → d < n → JJ a hs μ → cb a o c S best least → ∃ μ2, fL_choices_59 n μ (nI k) (nI c) told best least (nI S) = some (1, μ2) ∧ JJ a hs μ2 := by
  have qd : ∀ (v : Int32) (w : gMu) (f : Int32 → gMu → Option (Int32 × gMu)), g_bd (some (v, w)) f = f v w := fun _ _ _ => rfl
  have qb : ∀ (v : Int32) (f : Int32 → Option (Int32 × gMu)), g_b1 (some v) f = f v := fun _ _ => rfl
  have ql : ∀ (v : Int32) (f : Int32 → Option (Int32 × gMu)), g_let v f = f v := fun _ _ => rfl
  intro d
  induction d with
  | zero =>
    intro n S μ best least hS hn h hcb
    obtain ⟨n, rfl⟩ : ∃ k, n = k + 1 := ⟨n - 1, by omega⟩
    obtain rfl : S = m := by omega
    rw [fL_choices_59, k_c12 h.r, qb, hm, if_pos (Int32.le_refl _), if_neg (not_not_intro (hfin best least hcb))]
    exact ⟨μ, rfl, h⟩
  | succ d ih =>
    intro n S μ best least hS hn h hcb
    obtain ⟨n, rfl⟩ : ∃ k, n = k + 1 := ⟨n - 1, by omega⟩
    have ha := h.1
    obtain ⟨hnn, ⟨m', hm', hk4⟩, hos⟩ := id h.1
    have next : ∀ (μ' : gMu) (b l : Int32), JJ a hs μ' → cb a o c (S + 1) b l → ∃ μ2, fL_choices_59 n μ' (nI k) (nI c) told b l (nI S + 1) = some (1, μ2) ∧ JJ a hs μ2 := fun μ' b l j q => by
      rw [show nI S + 1 = nI (S + 1) from nI_add S 1]
      exact ih n (S + 1) μ' b l (by omega) (by omega) j q
    rw [fL_choices_59, k_c12 h.r, qb, hm, if_neg (show ¬ nI m ≤ nI S from by rw [nI_leI (by omega) (by omega)]; omega)]
    rcases k_find a.2.1 (nI S) with ⟨r, p, s, hr, hsx, es⟩ | hy
    · obtain ⟨μ0, w0, j0⟩ := k_would h hr hsx ho (x := 0) (by decide)
      rw [← es, w0, qd]
      by_cases cl : c_lie a.1 o s = -1
      · rw [if_pos cl, if_neg (show ¬ (0 : Int32) ≤ -5 by decide), es]
        refine next μ0 best least j0 (hcb.skip (fun r2 p2 s2 hf => ?_))
        obtain ⟨e1, e2⟩ := hk4.2.2.1 r2 r p2 p s2 s hf.1 hr hf.2.1 hsx (hf.2.2.1.trans es.symm)
        subst e1
        subst e2
        have e3 := Option.some.inj (hf.2.1.symm.trans hsx)
        rw [e3] at hf
        exact hf.2.2.2.2 cl
      · have hf : fit a o r p s S := ⟨hr, hsx, es, by omega, cl⟩
        have hso := (hk4.2.2.2 r p s hr hsx).1
        have hoo := (hos.2 k o ho).1
        obtain ⟨LO, KE, SC, q1, q2, q3, q4, q5, q6, q7⟩ := c_all hnn hoo hso cl
        have b1 : c_ba a.1 o s = nI (n_pc (c_bw a.1 o s) (c_bh a.1 o s)) := n_pc_e _ _
        have b2 : c_aa a.1 o s = nI (n_pc (c_aw a.1 o s) (c_ah a.1 o s)) := n_pc_e _ _
        obtain ⟨μ1, w1, j1⟩ := k_would j0 hr hsx ho (x := 5) (by decide)
        obtain ⟨μ2, w2, j2⟩ := k_would j1 hr hsx ho (x := 1) (by decide)
        obtain ⟨μ3, w3, j3⟩ := k_would j2 hr hsx ho (x := 2) (by decide)
        obtain ⟨μ4, w4, j4⟩ := k_would j3 hr hsx ho (x := 3) (by decide)
        obtain ⟨μ5, w5, j5⟩ := k_would j4 hr hsx ho (x := 4) (by decide)
        obtain ⟨μ6, w6, j6⟩ := k_would j5 hr hsx ho (x := 6) (by decide)
        obtain ⟨μ7, w7, j7⟩ := k_would j6 hr hsx ho (x := 4) (by decide)
        rw [if_neg cl] at w0 w1 w2 w3 w4 w5 w6 w7
        have l0 : w_wd a o s ((a.2.1 r).length - 1 - p) 0 = c_lie a.1 o s := rfl
        have l1' : w_wd a o s ((a.2.1 r).length - 1 - p) 1 = c_ba a.1 o s := rfl
        have l2' : w_wd a o s ((a.2.1 r).length - 1 - p) 2 = c_aa a.1 o s := rfl
        have l3' : w_wd a o s ((a.2.1 r).length - 1 - p) 3 = c_kept a.1 o s := rfl
        have l4' : w_wd a o s ((a.2.1 r).length - 1 - p) 4 = c_scr a.1 o s := rfl
        have l5' : w_wd a o s ((a.2.1 r).length - 1 - p) 5 = c_lost a.1 o s := rfl
        have l6' : w_wd a o s ((a.2.1 r).length - 1 - p) 6 = nI ((a.2.1 r).length - 1 - p) + 1 := rfl
        have s1 : f9_sheet μ0 s.1 1 = some s.2.2.1 := k_sheet j0.1 j0.r hr hsx 1
        have s2 : f9_sheet μ0 s.1 2 = some s.2.2.2.1 := k_sheet j0.1 j0.r hr hsx 2
        have s4 : f9_sheet μ6 s.1 4 = some (nI ((a.2.1 r).length - 1 - p)) := k_sheet j6.1 j6.r hr hsx 4
        have o1 : f9_ordered μ0 (nI k) 1 = some o.2.2.1 := k_ordered j0.1 j0.r ho 1
        have o2 : f9_ordered μ0 (nI k) 2 = some o.2.2.2.1 := k_ordered j0.1 j0.r ho 2
        rw [if_neg cl, l0, if_pos ((c_lie_ge _ _ _).mpr cl), s1, qb, s2, qb, ql, o1, qb, o2, qb, ql, w1, qd, w2, qd, w3, qd, l5', l1', l2', (n_ar_e hso).1, (o_ar_e hoo).1, q1, b1, b2, nI_add, nI_add, nI_add, if_neg (not_not_intro (congrArg nI (by omega))), w4, qd, w5, qd, l3', l4', q2, q3, nI_add, nI_add, nI_add, if_neg (not_not_intro (congrArg nI (by omega))), if_neg (nI_pos (show LO < 2 ^ 31 by omega)), w6, qd, l6', s4, qb, if_pos (Int32.add_comm _ _)]
        have upd : ∀ (μ' : gMu) (v : Int32), JJ a hs μ' → v = ms3 a o c r p s → ∃ μ2, (if best < 0 then fL_choices_59 n μ' (nI k) (nI c) told s.1 v (s.1 + 1) else if least ≤ v then fL_choices_59 n μ' (nI k) (nI c) told best least (s.1 + 1) else fL_choices_59 n μ' (nI k) (nI c) told s.1 v (s.1 + 1)) = some (1, μ2) ∧ JJ a hs μ2 := fun μ' v j e => by
          rw [es, e]
          by_cases z : best < 0
          · rw [if_pos z]
            exact next μ' _ _ j (hcb.new ha hf (Or.inl z))
          · rw [if_neg z]
            by_cases z2 : least ≤ ms3 a o c r p s
            · rw [if_pos z2]
              exact next μ' _ _ j (hcb.keep ha hf z z2)
            · rw [if_neg z2]
              exact next μ' _ _ j (hcb.new ha hf (Or.inr z2))
        by_cases c0 : c = 0
        · subst c0
          rw [if_neg (not_not_intro (show nI 0 = 0 from rfl))]
          exact upd μ6 _ j6 (n_ar_e hso).1.symm
        · rw [if_pos (show ¬ nI c = 0 from nI_ne0 (by omega) (by omega))]
          by_cases c1 : c = 1
          · subst c1
            rw [if_neg (not_not_intro (show nI 1 = 1 from rfl)), qb]
            exact upd μ6 _ j6 rfl
          · rw [if_pos (show ¬ nI c = 1 from fun q => c1 ((nI_eq (b := 1) (by omega) (by omega)).mp q)), w7, qd, l4']
            refine upd μ7 _ j7 ?_
            unfold ms3
            rw [if_neg c0, if_neg c1]
    · rw [k_would_n h ho hy, qd, if_neg (show ¬ (0 : Int32) ≤ -1 by decide)]
      exact next μ best least h (hcb.skip (fun r2 p2 s2 hf => hy r2 p2 s2 hf.1 hf.2.1 hf.2.2.1))
theorem choices_ok {μ : gMu} (h : JJ a hs μ) (hn0 : 0 < a.2.2.length) (p1 : Int32) : ∃ μ2, fL_choices μ p1 = some (1, μ2) ∧ JJ a hs μ2 := by
  obtain ⟨hn, ⟨m, hm, hk4⟩, hos⟩ := id h.1
  have hml := hk4.1
  have hle := hos.1
  obtain ⟨k, hk, e1⟩ := low_e p1 (n := a.2.2.length) hn0 (by omega)
  obtain ⟨c, hc, e2⟩ : ∃ j, j < 3 ∧ fL_low (p1 >>> ((4 : Int32) &&& 31)) (3 : Int32) = some (nI j) := low_e _ (n := 3) (by omega) (by omega)
  have ho : a.2.2[k]? = some (a.2.2[k]'hk) := List.getElem?_eq_getElem _
  generalize a.2.2[k]'hk = o at ho
  unfold fL_choices
  rw [k_c9 h.r, q_b1_s, e1, q_b1_s, e2, q_b1_s]
  by_cases st : o.2.2.2.2.2.1 = 0
  · obtain ⟨μ1, w, e, w1, w2, j1⟩ := k_choice h ho (c_02 hc) (show o_op o = true from decide_eq_true st)
    obtain ⟨told, et, w1⟩ : ∃ told, ((w = none ∧ told = -5) ∨ ∃ v, w = some v ∧ told = v.1) ∧ f9_choice μ (nI k) (nI c) = some (told, μ1) := by
      cases w with
      | none => exact ⟨-5, Or.inl ⟨rfl, rfl⟩, w1⟩
      | some v => exact ⟨v.1, Or.inr ⟨v, rfl, rfl⟩, w1⟩
    have t4 : f9_ordered μ1 (nI k) 4 = some o.2.2.2.2.2.1 := k_ordered j1.1 j1.r ho 4
    rw [w1, q_bd_s, t4, q_b1_s, if_pos st]
    have ex := choices_59 hc ho hm hml told (fun best least hcb => ?_) m 300 0 μ1 (-5) 0 (by omega) (by omega) j1 (Or.inl ⟨rfl, fun r p s i _ => by omega⟩)
    · rw [nI_0] at ex
      exact ex
    · rcases et with ⟨rfl, rfl⟩ | ⟨v, rfl, rfl⟩
      · rcases hcb with ⟨h1, -⟩ | ⟨r, p, s, i, h1, -⟩
        · exact h1.symm
        · have hp := (List.getElem?_eq_some_iff.mp h1.2.1).1
          have hl := hk4.2.1 r h1.1
          have r4 := h1.1
          exact absurd ⟨by rw [show (8 * r + p) / 8 = r by omega, show (8 * r + p) % 8 = p by omega]; exact h1.2.1, h1.2.2.2.2⟩ (w2 (8 * r + p) s (by omega))
      · obtain ⟨⟨kk, k1, k2, k3⟩, k4⟩ := w2
        have hv := hk4.2.2.2 (kk / 8) (kk % 8) v (by omega) k2.1
        obtain ⟨-, iv, hiv, eiv⟩ := hv
        have ekk : 8 * (kk / 8) + kk % 8 = kk := by omega
        have fv : fit a o (kk / 8) (kk % 8) v iv := ⟨by omega, k2.1, eiv, by omega, k2.2⟩
        have mv := ms3_e (a := a) (o := o) (r := kk / 8) (s := v) hc (show kk % 8 < 8 by omega)
        rw [ekk] at mv
        have miv : iv < m := by
          rcases hk4.2.2.2 (kk / 8) (kk % 8) v (by omega) k2.1 with ⟨-, i2, h2, e2⟩
          rw [eiv] at e2
          have := (nI_eq (by omega) (by omega)).mp e2
          have hm' := hm
          omega
        show v.1 = best
        rcases hcb with ⟨h1, h2⟩ | ⟨r, p, s, i, h1, h2, h3, h4, h5⟩
        · exact absurd miv (h2 _ _ _ _ fv)
        · have hp := (List.getElem?_eq_some_iff.mp h1.2.1).1
          have hl := hk4.2.1 r h1.1
          have r4 := h1.1
          have ms := ms3_e (a := a) (o := o) (r := r) (s := s) hc (show p < 8 by omega)
          have g1 := k4 (8 * r + p) s (by omega) ⟨by rw [show (8 * r + p) / 8 = r by omega, show (8 * r + p) % 8 = p by omega]; exact h1.2.1, h1.2.2.2.2⟩
          have g2 := h5 _ _ _ _ fv miv
          have i200 := h1.2.2.2.1
          rw [ms, ← h4] at g1
          rw [← mv, ← k3] at g2
          rw [h3, eiv]
          rw [eiv, h1.2.2.1] at g1
          rcases g1 with g1 | ⟨g1, g3⟩
          · rcases g2 with g2 | ⟨g2, -⟩
            · exact absurd (Int32.lt_trans g1 g2) Int32.lt_irrefl
            · rw [g2] at g1
              exact absurd g1 Int32.lt_irrefl
          · rcases g2 with g2 | ⟨-, g4⟩
            · rw [g1] at g2
              exact absurd g2 Int32.lt_irrefl
            · have := (nI_leI (by omega) (by omega)).mp g3
              congr 1
              omega
  · have e := k_choice_n h ho (c_02 hc) (show ¬ o_op o = true from fun q => st (of_decide_eq_true q))
    have t4 : f9_ordered μ (nI k) 4 = some o.2.2.2.2.2.1 := k_ordered h.1 h.r ho 4
    rw [e, q_bd_s, t4, q_b1_s, if_neg st, if_neg (not_not_intro rfl)]
    exact ⟨μ, rfl, h⟩
end CHO
