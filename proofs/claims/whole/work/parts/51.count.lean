/-! BOTH SYSTEMS: what is counted -/
def a_ar (s : gSh) : Int32 := s.2.2.1 * s.2.2.2.1
def a_sa : List gSh → Int32
  | [] => 0
  | s :: F => a_ar s + a_sa F
def a_sm (K : Nat) : List gSh → Int32
  | [] => 0
  | s :: F => (if s.1.toNatClampNeg < K then a_ar s else 0) + a_sm K F
def a_cn (K : Nat) : List gSh → Nat
  | [] => 0
  | s :: F => (if s.1.toNatClampNeg < K then 1 else 0) + a_cn K F
theorem a_sa_app : ∀ (F G : List gSh), a_sa (F ++ G) = a_sa F + a_sa G := by
  intro F
  induction F with
  | nil => intro G; show a_sa G = 0 + a_sa G; rw [Int32.zero_add]
  | cons s F ih => intro G; show a_ar s + a_sa (F ++ G) = a_ar s + a_sa F + a_sa G; rw [ih, Int32.add_assoc]
theorem a_sm_all {K : Nat} : ∀ (F : List gSh), (∀ s ∈ F, s.1.toNatClampNeg < K) → a_sm K F = a_sa F ∧ a_cn K F = F.length := by
  intro F
  induction F with
  | nil => intro _; exact ⟨rfl, rfl⟩
  | cons s F ih =>
    intro h
    obtain ⟨i1, i2⟩ := ih (fun x hx => h x (List.mem_cons_of_mem _ hx))
    unfold a_sm a_cn
    rw [if_pos (h s List.mem_cons_self), if_pos (h s List.mem_cons_self), i1, i2, List.length_cons, Nat.add_comm]
    exact ⟨rfl, rfl⟩
theorem a_sm_out {K : Nat} : ∀ (F : List gSh), (∀ s ∈ F, s.1.toNatClampNeg ≠ K) → a_sm (K + 1) F = a_sm K F ∧ a_cn (K + 1) F = a_cn K F := by
  intro F
  induction F with
  | nil => intro _; exact ⟨rfl, rfl⟩
  | cons s F ih =>
    intro h
    obtain ⟨i1, i2⟩ := ih (fun x hx => h x (List.mem_cons_of_mem _ hx))
    have := h s List.mem_cons_self
    unfold a_sm a_cn
    rw [i1, i2]
    by_cases c : s.1.toNatClampNeg < K
    · rw [if_pos c, if_pos c, if_pos (by omega), if_pos (by omega)]
      exact ⟨rfl, rfl⟩
    · rw [if_neg c, if_neg c, if_neg (by omega), if_neg (by omega)]
      exact ⟨rfl, rfl⟩
theorem a_sm_in {K : Nat} {x : gSh} (hx : x.1.toNatClampNeg = K) : ∀ (F : List gSh), F.Pairwise (fun u v => u.1.toNatClampNeg ≠ v.1.toNatClampNeg) → x ∈ F → a_sm (K + 1) F = a_sm K F + a_ar x ∧ a_cn (K + 1) F = a_cn K F + 1 := by
  intro F
  induction F with
  | nil => intro _ h; cases h
  | cons s F ih =>
    intro hp h
    obtain ⟨p1, p2⟩ := List.pairwise_cons.mp hp
    unfold a_sm a_cn
    rcases List.mem_cons.mp h with rfl | h
    · obtain ⟨i1, i2⟩ := a_sm_out (K := K) F (fun y hy q => p1 y hy (by rw [hx, q]))
      rw [i1, i2, if_pos (by omega), if_neg (by omega), if_pos (by omega), if_neg (by omega), Int32.zero_add, Int32.add_comm]
      exact ⟨rfl, by omega⟩
    · obtain ⟨i1, i2⟩ := ih p2 h
      have hne : s.1.toNatClampNeg ≠ K := by rw [← hx]; exact p1 x h
      rw [i1, i2]
      by_cases c : s.1.toNatClampNeg < K
      · rw [if_pos c, if_pos c, if_pos (by omega), if_pos (by omega), Int32.add_assoc]
        exact ⟨rfl, by omega⟩
      · rw [if_neg c, if_neg c, if_neg (by omega), if_neg (by omega), Int32.add_assoc]
        exact ⟨rfl, by omega⟩
def a_all (L : Nat → List gSh) : List gSh := L 0 ++ (L 1 ++ (L 2 ++ L 3))
theorem a_all_mem {L : Nat → List gSh} {s : gSh} : s ∈ a_all L ↔ ∃ r, r < 4 ∧ s ∈ L r := by
  unfold a_all
  simp only [List.mem_append]
  constructor
  · rintro (h | h | h | h)
    · exact ⟨0, by omega, h⟩
    · exact ⟨1, by omega, h⟩
    · exact ⟨2, by omega, h⟩
    · exact ⟨3, by omega, h⟩
  · rintro ⟨r, hr, h⟩
    have : r = 0 ∨ r = 1 ∨ r = 2 ∨ r = 3 := by omega
    rcases this with rfl | rfl | rfl | rfl
    · exact Or.inl h
    · exact Or.inr (Or.inl h)
    · exact Or.inr (Or.inr (Or.inl h))
    · exact Or.inr (Or.inr (Or.inr h))
theorem a_all_pw {m : Nat} {L : Nat → List gSh} (h : k_ok m L) : (a_all L).Pairwise (fun u v => u.1.toNatClampNeg ≠ v.1.toNatClampNeg) := by
  obtain ⟨h1, h2, h3, h4⟩ := k_ok_iff.mp h
  obtain ⟨u1, u2⟩ := r_un_iff.mp h3
  have inj : ∀ r r2, r < 4 → r2 < 4 → ∀ x ∈ L r, ∀ y ∈ L r2, x.1 ≠ y.1 → x.1.toNatClampNeg ≠ y.1.toNatClampNeg := by
    intro r r2 hr hr2 x hx y hy hne q
    obtain ⟨-, j, hj, ej⟩ := h4 r hr x hx
    obtain ⟨-, k, hk, ek⟩ := h4 r2 hr2 y hy
    rw [ej, ek, nI_clamp (by omega), nI_clamp (by omega)] at q
    exact hne (by rw [ej, ek, q])
  have inn : ∀ r, r < 4 → (L r).Pairwise (fun u v => u.1.toNatClampNeg ≠ v.1.toNatClampNeg) := fun r hr => (u1 r hr).imp_of_mem (fun {x y} hx hy hne => inj r r hr hr x hx y hy hne)
  have cr : ∀ r r2, r < 4 → r2 < 4 → r ≠ r2 → ∀ x ∈ L r, ∀ y ∈ L r2, x.1.toNatClampNeg ≠ y.1.toNatClampNeg := fun r r2 hr hr2 hne x hx y hy => inj r r2 hr hr2 x hx y hy (u2 r r2 hr hr2 hne x hx y hy)
  unfold a_all
  refine List.pairwise_append.mpr ⟨inn 0 (by omega), List.pairwise_append.mpr ⟨inn 1 (by omega), List.pairwise_append.mpr ⟨inn 2 (by omega), inn 3 (by omega), cr 2 3 (by omega) (by omega) (by omega)⟩, fun x hx y hy => ?_⟩, fun x hx y hy => ?_⟩
  · rcases List.mem_append.mp hy with hy | hy
    · exact cr 1 2 (by omega) (by omega) (by omega) x hx y hy
    · exact cr 1 3 (by omega) (by omega) (by omega) x hx y hy
  · rcases List.mem_append.mp hy with hy | hy
    · exact cr 0 1 (by omega) (by omega) (by omega) x hx y hy
    · rcases List.mem_append.mp hy with hy | hy
      · exact cr 0 2 (by omega) (by omega) (by omega) x hx y hy
      · exact cr 0 3 (by omega) (by omega) (by omega) x hx y hy
/-! the class's sums over its slots -/
def s_ra (L : Nat → List gSh) : Nat → List gSh
  | 0 => []
  | m + 1 => match (L ((31 - m) / 8))[(31 - m) % 8]? with
    | none => s_ra L m
    | some s => s :: s_ra L m
theorem s_ra_rk {L : Nat → List gSh} (hl : ∀ r, r < 4 → (L r).length ≤ 8) {r : Nat} (hr : r < 4) : ∀ (d p : Nat), p + d = 8 → s_ra L (32 - (8 * r + p)) = (L r).drop p ++ s_ra L (32 - (8 * r + 8)) := by
  intro d
  induction d with
  | zero =>
    intro p hp
    obtain rfl : p = 8 := by omega
    rw [List.drop_eq_nil_of_le (hl r hr), List.nil_append]
  | succ d ih =>
    intro p hp
    have e1 : 32 - (8 * r + p) = (31 - (8 * r + p)) + 1 := by omega
    have e2 : 31 - (31 - (8 * r + p)) = 8 * r + p := by omega
    have e3 : 31 - (8 * r + p) = 32 - (8 * r + (p + 1)) := by omega
    rw [e1, s_ra, e2, show (8 * r + p) / 8 = r by omega, show (8 * r + p) % 8 = p by omega, e3, ih (p + 1) (by omega)]
    cases e : (L r)[p]? with
    | none =>
      have : (L r).length ≤ p := by simpa using e
      rw [List.drop_eq_nil_of_le this, List.drop_eq_nil_of_le (by omega)]
    | some s => rw [drop_at e]; rfl
theorem s_ra_all {L : Nat → List gSh} (hl : ∀ r, r < 4 → (L r).length ≤ 8) : s_ra L 32 = a_all L := by
  have h0 := s_ra_rk hl (r := 0) (by omega) 8 0 (by omega)
  have h1 := s_ra_rk hl (r := 1) (by omega) 8 0 (by omega)
  have h2 := s_ra_rk hl (r := 2) (by omega) 8 0 (by omega)
  have h3 := s_ra_rk hl (r := 3) (by omega) 8 0 (by omega)
  rw [List.drop_zero] at h0 h1 h2 h3
  have h1' : s_ra L 24 = L 1 ++ s_ra L 16 := h1
  have h2' : s_ra L 16 = L 2 ++ s_ra L 8 := h2
  have h3' : s_ra L 8 = L 3 ++ s_ra L 0 := h3
  have h0' : s_ra L 32 = L 0 ++ s_ra L 24 := h0
  rw [h0', h1', h2', h3']
  unfold a_all
  rw [show s_ra L 0 = [] from rfl, List.append_nil]
theorem s_ra_len (L : Nat → List gSh) : ∀ m, (s_ra L m).length ≤ m := by
  intro m
  induction m with
  | zero => exact Nat.le_refl _
  | succ m ih =>
    rw [s_ra]
    split
    · omega
    · rw [List.length_cons]; omega
theorem f5_there_l {L : Nat → List gSh} {z : gSt} (h : r_sl L z.2.1) : ∀ (m n acc : Nat), m ≤ 32 → m < n → f5_sheetsThere_4 n z (nI acc) (nI (32 - m)) = some (nI (acc + (s_ra L m).length)) := by
  intro m
  induction m with
  | zero =>
    intro n acc _ hn
    obtain ⟨n, rfl⟩ : ∃ k, n = k + 1 := ⟨n - 1, by omega⟩
    rw [f5_sheetsThere_4, if_pos (by decide)]
    rfl
  | succ m ih =>
    intro n acc hm hn
    obtain ⟨n, rfl⟩ : ∃ k, n = k + 1 := ⟨n - 1, by omega⟩
    rw [f5_sheetsThere_4, if_neg (by rw [l32, nI_leI (by omega) (by omega)]; omega), if_pos (by rw [q_in (by omega)]; omega), nI_clamp (by omega), show 32 - (m + 1) = 31 - m by omega, h.at (show 31 - m < 32 by omega), show nI (31 - m) + 1 = nI (32 - m) from (nI_add (31 - m) 1).trans (by congr 1; omega), show nI acc + 1 = nI (acc + 1) from nI_add acc 1, s_ra]
    cases e : (L ((31 - m) / 8))[(31 - m) % 8]? with
    | none => rw [q_oc_n, ih n acc (by omega) (by omega)]
    | some s =>
      rw [q_oc_s, ih n (acc + 1) (by omega) (by omega), List.length_cons]
      congr 2
      omega
theorem f5_area_l {L : Nat → List gSh} {z : gSt} (h : r_sl L z.2.1) : ∀ (m n : Nat) (acc : Int32), m ≤ 32 → m < n → f5_areaThere_4 n z acc (nI (32 - m)) = some (acc + a_sa (s_ra L m)) := by
  intro m
  induction m with
  | zero =>
    intro n acc _ hn
    obtain ⟨n, rfl⟩ : ∃ k, n = k + 1 := ⟨n - 1, by omega⟩
    rw [f5_areaThere_4, if_pos (by decide), show a_sa (s_ra L 0) = 0 from rfl, Int32.add_zero]
  | succ m ih =>
    intro n acc hm hn
    obtain ⟨n, rfl⟩ : ∃ k, n = k + 1 := ⟨n - 1, by omega⟩
    rw [f5_areaThere_4, if_neg (by rw [l32, nI_leI (by omega) (by omega)]; omega), if_pos (by rw [q_in (by omega)]; omega), nI_clamp (by omega), show 32 - (m + 1) = 31 - m by omega, h.at (show 31 - m < 32 by omega), show nI (31 - m) + 1 = nI (32 - m) from (nI_add (31 - m) 1).trans (by congr 1; omega), s_ra]
    cases e : (L ((31 - m) / 8))[(31 - m) % 8]? with
    | none => rw [q_oc_n, ih n acc (by omega) (by omega)]
    | some s =>
      rw [q_oc_s, show f7_area s = some (a_ar s) from rfl, q_b1_s, q_let, ih n (acc + a_ar s) (by omega) (by omega), Int32.add_assoc]
      rfl
/-- the reference's answer, when all have been counted -/
def m_tl (M : gMo) (x n size : Int32) : Option Int32 :=
  g_b1 (f10_in x 20 24) fun r2 =>
    if r2 = 0 then
      g_b1 (f10_in x 0 14) fun r6 =>
      if ¬ r6 = 0 then
        if (3 : Int32) ≤ x then
          if (10 : Int32) ≤ x then
            if ¬ x = (10 : Int32) then
              if ¬ x = (11 : Int32) then
                if ¬ x = (12 : Int32) then
                  if ¬ x = (13 : Int32) then some (M.2 6) else some (M.2 5)
                else some (M.1 0 (8 : Int32).toNatClampNeg)
              else g_b1 (f10_late M) fun r16 => some r16
            else g_b1 (f10_open M) fun r19 => some r19
          else if g_in (x - (2 : Int32)) 1134 then some (M.1 0 (x - (2 : Int32)).toNatClampNeg) else none
        else if ¬ x = 0 then if ¬ x = (1 : Int32) then some size else some n else some (M.1 0 (0 : Int32).toNatClampNeg)
      else some (-2 : Int32)
    else g_b1 (f10_setting M (x - (20 : Int32))) fun r25 => some r25
theorem m_count_l {a : aSt} (ha : a_ok a) {M : gMo} (hm : r_m a (M.1 0)) {m : Nat} (hm2 : a.1 12 = nI m) (hk4 : k_ok m a.2.1) (x : Int32) : ∀ (d n K : Nat), K + d = m → d < n → f10_count_7 n M x (nI (a_cn K (a_all a.2.1))) (a_sm K (a_all a.2.1)) (nI K) = m_tl M x (nI (a_cn m (a_all a.2.1))) (a_sm m (a_all a.2.1)) := by
  have hle := hk4.1
  have v8 : M.1 0 8 = nI m := hm.1.at.2.2.2.1.trans hm2
  intro d
  induction d with
  | zero =>
    intro n K hK hn
    obtain ⟨n, rfl⟩ : ∃ k, n = k + 1 := ⟨n - 1, by omega⟩
    obtain rfl : K = m := by omega
    rw [f10_count_7]
    have e : M.1 0 (8 : Int32).toNatClampNeg ≤ nI K := by rw [n8, v8]; exact Int32.le_refl _
    rw [if_pos e]
    rfl
  | succ d ih =>
    intro n K hK hn
    obtain ⟨n, rfl⟩ : ∃ k, n = k + 1 := ⟨n - 1, by omega⟩
    rw [f10_count_7]
    have e : ¬ M.1 0 (8 : Int32).toNatClampNeg ≤ nI K := by
      rw [n8, v8, nI_leI (by omega) (by omega)]
      omega
    rw [if_neg e, show nI K + 1 = nI (K + 1) from nI_add K 1]
    rcases k_find a.2.1 (nI K) with ⟨r, p, s, hr, hs, es⟩ | hno
    · have hin := m_its ha hm hr hs
      rw [es] at hin
      obtain ⟨i1, i2⟩ := a_sm_in (K := K) (x := s) (by rw [es, nI_clamp (by omega)]) (a_all a.2.1) (a_all_pw hk4) (a_all_mem.mpr ⟨r, hr, List.mem_of_getElem? hs⟩)
      rw [hin.2.2.2.1, q_b1_s, if_neg (nI_pos (by omega)), q_let, hin.2.2.2.2.2, q_b1_s, q_let, show nI (a_cn K (a_all a.2.1)) + 1 = nI (a_cn K (a_all a.2.1) + 1) from nI_add _ 1, ← i2, show a_sm K (a_all a.2.1) + s.2.2.1 * s.2.2.2.1 = a_sm (K + 1) (a_all a.2.1) from i1.symm]
      exact ih n (K + 1) (by omega) (by omega)
    · obtain ⟨m3, hm3, hmno⟩ := hm.2.2.2.1
      have e3 : f10_its M (nI K) 3 = some (-1) := by
        rw [l3, f10_its_e M (by omega), hmno K (by
          rw [hm2] at hm3
          by_cases hb : m3 < 2 ^ 31
          · have := (nI_eq (by omega) hb).mp hm3
            omega
          · omega) hno]
      obtain ⟨i1, i2⟩ := a_sm_out (K := K) (a_all a.2.1) (fun y hy q => by
        obtain ⟨r, hr, hy2⟩ := a_all_mem.mp hy
        obtain ⟨p, hp⟩ := List.getElem?_of_mem hy2
        obtain ⟨-, j, hj, ej⟩ := hk4.2.2.2 r p y hr hp
        rw [ej, nI_clamp (by omega)] at q
        exact hno r p y hr hp (by rw [ej, q]))
      rw [e3, q_b1_s, if_pos (by decide), q_let, q_let, Int32.add_zero, Int32.add_zero, ← i1, ← i2]
      exact ih n (K + 1) (by omega) (by omega)
theorem j_count {μ : gMu} (h : j_inv μ) (p1 : Int32) : ∃ r, f9_count μ p1 = some r ∧ f10_count μ.2.2.2.2 p1 = some r := by
  obtain ⟨a, hs, sn, t, l, ho, h1, h2⟩ := h
  have ha := ho.1
  have hos := ha.2.2
  obtain ⟨m, hm2, hk4⟩ := ha.2.1
  have hle := hk4.1
  have hc := h1.1
  have hm := h2.1
  have hall : ∀ s ∈ a_all a.2.1, s.1.toNatClampNeg < m := fun y hy => by
    obtain ⟨r, hr, hy2⟩ := a_all_mem.mp hy
    obtain ⟨p, hp⟩ := List.getElem?_of_mem hy2
    obtain ⟨-, j, hj, ej⟩ := hk4.2.2.2 r p y hr hp
    rw [ej, nI_clamp (by omega)]
    exact hj
  obtain ⟨s1, s2⟩ := a_sm_all (a_all a.2.1) hall
  have em := m_count_l ha hm hm2 hk4 p1 m 300 0 (by omega) (by omega)
  have e00 : a_sm 0 (a_all a.2.1) = 0 ∧ a_cn 0 (a_all a.2.1) = 0 := by
    have : ∀ F : List gSh, a_sm 0 F = 0 ∧ a_cn 0 F = 0 := by
      intro F
      induction F with
      | nil => exact ⟨rfl, rfl⟩
      | cons s F ih =>
        unfold a_sm a_cn
        rw [ih.1, ih.2, if_neg (by omega), if_neg (by omega)]
        exact ⟨rfl, rfl⟩
    exact this _
  rw [e00.1, e00.2, s1, s2, nI_0] at em
  unfold f10_count
  rw [em]
  have c1 : f5_sheetsThere (μ.1 0) = some (nI (a_all a.2.1).length) := by
    have := f5_there_l hc.2.2.1 32 70 0 (by omega) (by omega)
    rw [s_ra_all hk4.2.1, Nat.sub_self, nI_0, Nat.zero_add] at this
    exact this
  have c2 : f5_areaThere (μ.1 0) = some (a_sa (a_all a.2.1)) := by
    have := f5_area_l hc.2.2.1 32 70 0 (by omega) (by omega)
    rw [s_ra_all hk4.2.1, Nat.sub_self, nI_0, Int32.zero_add] at this
    exact this
  obtain ⟨w12, w6, w4, w8, w3, w2, w5, w0, w1⟩ := hm.1.at
  have w7 : μ.2.2.2.2.1 0 7 = nI a.2.2.length := hm.2.2.2.2.1
  have wh : μ.2.2.2.2.2 5 = nI hs.length := h2.2.1.1
  have wl : μ.2.2.2.2.2 6 = nI l := h2.2.2.2.2
  have kh : μ.2.1.2 = nI hs.length := h1.2.1.1
  have kl : μ.2.2.1.2 1 = nI l := h1.2.2.2.2
  have bad : (∀ j, j ≤ 14 → p1 ≠ nI j) → (∀ j, j ≤ 4 → p1 ≠ nI (20 + j)) → m_tl μ.2.2.2.2 p1 (nI (a_all a.2.1).length) (a_sa (a_all a.2.1)) = some (-2) := by
    intro b1 b2
    unfold m_tl
    have q1 : ¬ (20 ≤ p1 ∧ p1 ≤ 24) := fun q => by
      obtain ⟨j, hj, e⟩ := i_nat (n := 24) (by omega) (Int32.le_trans (by decide) q.1) q.2
      have q2 := q.1
      rw [e] at q2
      have : 20 ≤ j := (nI_leI (a := 20) (by omega) (by omega)).mp q2
      exact b2 (j - 20) (by omega) (by rw [e]; congr 1; omega)
    have q2 : ¬ (0 ≤ p1 ∧ p1 ≤ 14) := fun q => by
      obtain ⟨j, hj, e⟩ := i_nat (n := 14) (by omega) q.1 q.2
      exact b1 j hj e
    rw [f10_in_e, q_b1_s, if_neg q1, if_pos rfl, f10_in_e, q_b1_s, if_neg q2, if_neg (not_not_intro rfl)]
  have small : ∀ j, j ≤ 14 → p1 = nI j → f10_in p1 20 24 = some 0 ∧ f10_in p1 0 14 = some 1 := by
    intro j hj e
    rw [f10_in_e, f10_in_e, e, if_neg (show ¬ (20 ≤ nI j ∧ nI j ≤ 24) from fun q => by have := (nI_leI (a := 20) (by omega) (by omega)).mp q.1; omega), if_pos (show 0 ≤ nI j ∧ nI j ≤ 14 from ⟨nI_pos' (by omega), (nI_leI (b := 14) (by omega) (by omega)).mpr hj⟩)]
    exact ⟨rfl, rfl⟩
  have big : ∀ j, j ≤ 4 → p1 = nI (20 + j) → m_tl μ.2.2.2.2 p1 (nI (a_all a.2.1).length) (a_sa (a_all a.2.1)) = some (a.1 j) := by
    intro j hj e
    unfold m_tl
    rw [f10_in_e, q_b1_s, e, if_pos (show 20 ≤ nI (20 + j) ∧ nI (20 + j) ≤ 24 from ⟨(nI_leI (a := 20) (by omega) (by omega)).mpr (by omega), (nI_leI (b := 24) (by omega) (by omega)).mpr (by omega)⟩), if_neg (by decide), show nI (20 + j) - (20 : Int32) = nI j from (pk_sub (b := 20) (by omega)).trans (by congr 1; omega), m_set hm.1 (by omega), q_b1_s]
  have low : ∀ j, 3 ≤ j → j < 10 → p1 = nI j → m_tl μ.2.2.2.2 p1 (nI (a_all a.2.1).length) (a_sa (a_all a.2.1)) = some (μ.2.2.2.2.1 0 (j - 2)) := by
    intro j h3 h10 e
    obtain ⟨q1, q2⟩ := small j (by omega) e
    unfold m_tl
    rw [q1, q_b1_s, if_pos rfl, q2, q_b1_s, if_pos (by decide), e, if_pos (by rw [l3, nI_leI (by omega) (by omega)]; exact h3), if_neg (by rw [l10, nI_leI (by omega) (by omega)]; omega), show nI j - (2 : Int32) = nI (j - 2) from pk_sub (b := 2) (by omega), if_pos (by rw [q_in (by omega)]; omega), nI_clamp (by omega)]
  have high : ∀ j, 10 ≤ j → j ≤ 14 → p1 = nI j → m_tl μ.2.2.2.2 p1 (nI (a_all a.2.1).length) (a_sa (a_all a.2.1)) = (if ¬ p1 = (10 : Int32) then if ¬ p1 = (11 : Int32) then if ¬ p1 = (12 : Int32) then if ¬ p1 = (13 : Int32) then some (nI l) else some (nI hs.length) else some (a.1 12) else some (nI (a.2.2.countP (o_lt (a.1 5)))) else some (nI (a.2.2.countP o_op))) := by
    intro j h3 h10 e
    obtain ⟨q1, q2⟩ := small j (by omega) e
    unfold m_tl
    rw [q1, q_b1_s, if_pos rfl, q2, q_b1_s, if_pos (by decide), if_pos (by rw [e, l3, nI_leI (by omega) (by omega)]; omega), if_pos (by rw [e, l10, nI_leI (by omega) (by omega)]; exact h3), m_late hos hm.2.2.2.2 w0, q_b1_s, m_open hos hm.2.2.2.2, q_b1_s, n8, w8, wh, wl]
  have r_o := r_open hc.2.2.2
  have r_l := r_late hc.2.2.2 (a.1 5)
  have d5 : (μ.1 0).1 5 = a.1 5 := hc.1 5 (by omega)
  unfold f9_count
  by_cases k0 : p1 = 0
  · obtain ⟨q1, q2⟩ := small 0 (by omega) k0
    rw [if_pos k0]
    refine ⟨_, rfl, ?_⟩
    unfold m_tl
    rw [q1, q_b1_s, if_pos rfl, q2, q_b1_s, if_pos (by decide), k0, if_neg (by decide), if_neg (by decide), n0, w0, d5]
  rw [if_neg k0]
  by_cases k1 : p1 = 1
  · obtain ⟨q1, q2⟩ := small 1 (by omega) k1
    rw [if_pos k1, c1, q_b1_s]
    refine ⟨_, rfl, ?_⟩
    unfold m_tl
    rw [q1, q_b1_s, if_pos rfl, q2, q_b1_s, if_pos (by decide), k1, if_neg (by decide), if_pos (by decide), if_neg (by decide)]
  rw [if_neg k1]
  by_cases k2 : p1 = 2
  · obtain ⟨q1, q2⟩ := small 2 (by omega) k2
    rw [if_pos k2, c2, q_b1_s]
    refine ⟨_, rfl, ?_⟩
    unfold m_tl
    rw [q1, q_b1_s, if_pos rfl, q2, q_b1_s, if_pos (by decide), k2, if_neg (by decide), if_pos (by decide), if_pos (by decide)]
  rw [if_neg k2]
  by_cases k3 : p1 = 3
  · rw [if_pos k3]
    exact ⟨_, rfl, (low 3 (by omega) (by omega) k3).trans (congrArg some (w1.trans (hc.1 6 (by omega)).symm))⟩
  rw [if_neg k3]
  by_cases k4 : p1 = 4
  · rw [if_pos k4]
    exact ⟨_, rfl, (low 4 (by omega) (by omega) k4).trans (congrArg some (w2.trans (hc.1 7 (by omega)).symm))⟩
  rw [if_neg k4]
  by_cases k5 : p1 = 5
  · rw [if_pos k5]
    exact ⟨_, rfl, (low 5 (by omega) (by omega) k5).trans (congrArg some (w3.trans (hc.1 8 (by omega)).symm))⟩
  rw [if_neg k5]
  by_cases k6 : p1 = 6
  · rw [if_pos k6]
    exact ⟨_, rfl, (low 6 (by omega) (by omega) k6).trans (congrArg some (w4.trans (hc.1 9 (by omega)).symm))⟩
  rw [if_neg k6]
  by_cases k7 : p1 = 7
  · rw [if_pos k7]
    exact ⟨_, rfl, (low 7 (by omega) (by omega) k7).trans (congrArg some (w5.trans (hc.1 10 (by omega)).symm))⟩
  rw [if_neg k7]
  by_cases k8 : p1 = 8
  · rw [if_pos k8]
    exact ⟨_, rfl, (low 8 (by omega) (by omega) k8).trans (congrArg some (w6.trans (hc.1 11 (by omega)).symm))⟩
  rw [if_neg k8]
  by_cases k9 : p1 = 9
  · rw [if_pos k9]
    exact ⟨_, rfl, (low 9 (by omega) (by omega) k9).trans (congrArg some (w7.trans hc.2.1.symm))⟩
  rw [if_neg k9]
  by_cases k10 : p1 = 10
  · rw [if_pos k10, r_o, q_b1_s]
    refine ⟨_, rfl, (high 10 (by omega) (by omega) k10).trans ?_⟩
    rw [if_neg (not_not_intro k10)]
  rw [if_neg k10]
  by_cases k11 : p1 = 11
  · rw [if_pos k11, d5, r_l, q_b1_s]
    refine ⟨_, rfl, (high 11 (by omega) (by omega) k11).trans ?_⟩
    rw [if_pos k10, if_neg (not_not_intro k11)]
  rw [if_neg k11]
  by_cases k12 : p1 = 12
  · rw [if_pos k12]
    refine ⟨_, rfl, (high 12 (by omega) (by omega) k12).trans ?_⟩
    rw [if_pos k10, if_pos k11, if_neg (not_not_intro k12), hc.1 12 (by omega)]
  rw [if_neg k12]
  by_cases k13 : p1 = 13
  · rw [if_pos k13]
    refine ⟨_, rfl, (high 13 (by omega) (by omega) k13).trans ?_⟩
    rw [if_pos k10, if_pos k11, if_pos k12, if_neg (not_not_intro k13), kh]
  rw [if_neg k13]
  by_cases k14 : p1 = 14
  · rw [if_pos k14]
    refine ⟨_, rfl, (high 14 (by omega) (by omega) k14).trans ?_⟩
    rw [if_pos k10, if_pos k11, if_pos k12, if_pos k13, kl]
  rw [if_neg k14]
  have val : ∀ j, j < 5 → f6_value (μ.1 0) (nI j) = some (a.1 j) := by
    intro j hj
    have : j = 0 ∨ j = 1 ∨ j = 2 ∨ j = 3 ∨ j = 4 := by omega
    rcases this with rfl | rfl | rfl | rfl | rfl
    · exact congrArg some (hc.1 0 (by omega))
    · exact congrArg some (hc.1 1 (by omega))
    · exact congrArg some (hc.1 2 (by omega))
    · exact congrArg some (hc.1 3 (by omega))
    · exact congrArg some (hc.1 4 (by omega))
  by_cases k20 : p1 = 20
  · rw [if_pos k20]
    refine ⟨a.1 0, ?_, big 0 (by omega) k20⟩
    rw [k20, show (20 : Int32) - 20 = nI 0 by decide, val 0 (by omega), q_b1_s]
  rw [if_neg k20]
  by_cases k21 : p1 = 21
  · rw [if_pos k21]
    refine ⟨a.1 1, ?_, big 1 (by omega) k21⟩
    rw [k21, show (21 : Int32) - 20 = nI 1 by decide, val 1 (by omega), q_b1_s]
  rw [if_neg k21]
  by_cases k22 : p1 = 22
  · rw [if_pos k22]
    refine ⟨a.1 2, ?_, big 2 (by omega) k22⟩
    rw [k22, show (22 : Int32) - 20 = nI 2 by decide, val 2 (by omega), q_b1_s]
  rw [if_neg k22]
  by_cases k23 : p1 = 23
  · rw [if_pos k23]
    refine ⟨a.1 3, ?_, big 3 (by omega) k23⟩
    rw [k23, show (23 : Int32) - 20 = nI 3 by decide, val 3 (by omega), q_b1_s]
  rw [if_neg k23]
  by_cases k24 : p1 = 24
  · rw [if_pos k24]
    refine ⟨a.1 4, ?_, big 4 (by omega) k24⟩
    rw [k24, show (24 : Int32) - 20 = nI 4 by decide, val 4 (by omega), q_b1_s]
  rw [if_neg k24]
  refine ⟨_, rfl, bad (fun j hj e => ?_) (fun j hj e => ?_)⟩
  · have : j = 0 ∨ j = 1 ∨ j = 2 ∨ j = 3 ∨ j = 4 ∨ j = 5 ∨ j = 6 ∨ j = 7 ∨ j = 8 ∨ j = 9 ∨ j = 10 ∨ j = 11 ∨ j = 12 ∨ j = 13 ∨ j = 14 := by omega
    rcases this with rfl | rfl | rfl | rfl | rfl | rfl | rfl | rfl | rfl | rfl | rfl | rfl | rfl | rfl | rfl
    · exact k0 e
    · exact k1 e
    · exact k2 e
    · exact k3 e
    · exact k4 e
    · exact k5 e
    · exact k6 e
    · exact k7 e
    · exact k8 e
    · exact k9 e
    · exact k10 e
    · exact k11 e
    · exact k12 e
    · exact k13 e
    · exact k14 e
  · have : j = 0 ∨ j = 1 ∨ j = 2 ∨ j = 3 ∨ j = 4 := by omega
    rcases this with rfl | rfl | rfl | rfl | rfl
    · exact k20 e
    · exact k21 e
    · exact k22 e
    · exact k23 e
    · exact k24 e
