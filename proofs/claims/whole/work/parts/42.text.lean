/-! TEXTS: what a text says (t its characters, l its length) -/
abbrev gCm : Type := Nat × Nat × Nat × Nat × Nat
def dg (x : Int32) : Nat := x.toNatClampNeg - 48
theorem dg_e {x : Int32} (h : 48 ≤ x ∧ x ≤ 57) : ∃ d, d ≤ 9 ∧ x = nI (48 + d) ∧ dg x = d := by
  obtain ⟨j, hj, rfl⟩ := i_nat (n := 57) (by omega) (Int32.le_trans (by decide) h.1) h.2
  have h1 : 48 ≤ j := (nI_leI (a := 48) (by omega) (by omega)).mp h.1
  refine ⟨j - 48, by omega, by congr 1; omega, ?_⟩
  unfold dg
  rw [nI_clamp (by omega)]
def p_dig (t : Nat → Int32) (l hi : Nat) : Nat → Nat → Nat → Nat × Nat
  | 0, v, p => (v, p)
  | e + 1, v, p => if 0 < v ∧ p < l ∧ (48 ≤ t p ∧ t p ≤ 57) ∧ 10 * v + dg (t p) ≤ hi then p_dig t l hi e (10 * v + dg (t p)) (p + 1) else (v, p)
def p_num (t : Nat → Int32) (l lo hi p : Nat) : Option (Nat × Nat) := if p < l ∧ (48 ≤ t p ∧ t p ≤ 57) ∧ lo ≤ dg (t p) ∧ dg (t p) ≤ hi then some (p_dig t l hi 3 (dg (t p)) (p + 1)) else none
def p_fld (t : Nat → Int32) (l : Nat) (sg : Int32) (lo hi p : Nat) : Option Nat × Nat :=
  if p < l ∧ t p = sg then (match p_num t l lo hi (p + 1) with
    | none => (none, p + 1)
    | some q => (some q.1, q.2)) else (none, p)
def p_bd (x : Option Nat × Nat) (f : Nat → Nat → Option gCm × Nat) : Option gCm × Nat := match x.1 with
  | none => (none, x.2)
  | some v => f v x.2
def p_cmd (t : Nat → Int32) (l p : Nat) : Option gCm × Nat :=
  if p < l ∧ t p = 112 then p_bd (p_fld t l 112 0 2 p) fun v q => (some (0, v, 0, 0, 0), q)
  else if p < l ∧ t p = 100 then p_bd (p_fld t l 100 1 99 p) fun v q => (some (1, v, 0, 0, 0), q)
  else if p < l ∧ t p = 115 then p_bd (p_fld t l 115 0 3 p) fun r q => p_bd (p_fld t l 58 0 2 q) fun s q => p_bd (p_fld t l 44 1 99 q) fun w q => p_bd (p_fld t l 120 1 99 q) fun y q => (some (2, r, s, w, y), q)
  else if p < l ∧ t p = 111 then p_bd (p_fld t l 111 0 2 p) fun s q => p_bd (p_fld t l 44 1 99 q) fun w q => p_bd (p_fld t l 120 1 99 q) fun y q => p_bd (p_fld t l 64 0 999 q) fun d q => (some (3, s, w, y, d), q)
  else (none, p)
theorem p_dig_f (t : Nat → Int32) (l hi : Nat) : ∀ (e v p : Nat), v ≤ hi → p ≤ l → v ≤ (p_dig t l hi e v p).1 ∧ (p_dig t l hi e v p).1 ≤ hi ∧ p ≤ (p_dig t l hi e v p).2 ∧ (p_dig t l hi e v p).2 ≤ l := by
  intro e
  induction e with
  | zero => intro v p h1 h2; exact ⟨Nat.le_refl _, h1, Nat.le_refl _, h2⟩
  | succ e ih =>
    intro v p h1 h2
    rw [p_dig]
    by_cases c : 0 < v ∧ p < l ∧ (48 ≤ t p ∧ t p ≤ 57) ∧ 10 * v + dg (t p) ≤ hi
    · rw [if_pos c]
      obtain ⟨i1, i2, i3, i4⟩ := ih (10 * v + dg (t p)) (p + 1) c.2.2.2 c.2.1
      exact ⟨by omega, i2, by omega, i4⟩
    · rw [if_neg c]
      exact ⟨Nat.le_refl _, h1, Nat.le_refl _, h2⟩
theorem p_num_f {t : Nat → Int32} {l lo hi p : Nat} {q : Nat × Nat} (h : p_num t l lo hi p = some q) : lo ≤ q.1 ∧ q.1 ≤ hi ∧ p + 1 ≤ q.2 ∧ q.2 ≤ l := by
  unfold p_num at h
  split at h
  · next c =>
    cases h
    obtain ⟨i1, i2, i3, i4⟩ := p_dig_f t l hi 3 (dg (t p)) (p + 1) c.2.2.2 c.1
    exact ⟨Nat.le_trans c.2.2.1 i1, i2, i3, i4⟩
  · cases h
theorem p_fld_f (t : Nat → Int32) (l : Nat) (sg : Int32) (lo hi p : Nat) (hp : p ≤ l) : p ≤ (p_fld t l sg lo hi p).2 ∧ (p_fld t l sg lo hi p).2 ≤ l ∧ ∀ v, (p_fld t l sg lo hi p).1 = some v → lo ≤ v ∧ v ≤ hi ∧ p + 2 ≤ (p_fld t l sg lo hi p).2 := by
  unfold p_fld
  by_cases c : p < l ∧ t p = sg
  · rw [if_pos c]
    cases e : p_num t l lo hi (p + 1) with
    | none => exact ⟨Nat.le_succ _, c.1, fun v q => by cases q⟩
    | some q =>
      obtain ⟨i1, i2, i3, i4⟩ := p_num_f e
      exact ⟨by show p ≤ q.2; omega, i4, fun v z => by cases z; exact ⟨i1, i2, i3⟩⟩
  · rw [if_neg c]
    exact ⟨Nat.le_refl _, hp, fun v q => by cases q⟩
def c_rng (c : gCm) : Prop := (c.1 = 0 ∧ c.2.1 ≤ 2) ∨ (c.1 = 1 ∧ 1 ≤ c.2.1 ∧ c.2.1 ≤ 99) ∨ (c.1 = 2 ∧ c.2.1 ≤ 3 ∧ c.2.2.1 ≤ 2 ∧ (1 ≤ c.2.2.2.1 ∧ c.2.2.2.1 ≤ 99) ∧ 1 ≤ c.2.2.2.2 ∧ c.2.2.2.2 ≤ 99) ∨ (c.1 = 3 ∧ c.2.1 ≤ 2 ∧ (1 ≤ c.2.2.1 ∧ c.2.2.1 ≤ 99) ∧ (1 ≤ c.2.2.2.1 ∧ c.2.2.2.1 ≤ 99) ∧ c.2.2.2.2 ≤ 999)
theorem p_bd_f {l p lo hi : Nat} {x : Option Nat × Nat} {f : Nat → Nat → Option gCm × Nat} (hx : p ≤ x.2 ∧ x.2 ≤ l ∧ ∀ v, x.1 = some v → lo ≤ v ∧ v ≤ hi ∧ p + 2 ≤ x.2) {Q : gCm → Prop} (hf : ∀ v q, lo ≤ v → v ≤ hi → q ≤ l → q ≤ (f v q).2 ∧ (f v q).2 ≤ l ∧ ∀ c, (f v q).1 = some c → Q c) : p ≤ (p_bd x f).2 ∧ (p_bd x f).2 ≤ l ∧ ∀ c, (p_bd x f).1 = some c → Q c ∧ p + 2 ≤ (p_bd x f).2 := by
  obtain ⟨y, q⟩ := x
  cases y with
  | none => exact ⟨hx.1, hx.2.1, fun c z => by cases z⟩
  | some v =>
    obtain ⟨h1, h2, h3⟩ := hx
    obtain ⟨g1, g2, g3⟩ := h3 v rfl
    obtain ⟨k1, k2, k3⟩ := hf v q g1 g2 h2
    exact ⟨Nat.le_trans h1 k1, k2, fun c z => ⟨k3 c z, Nat.le_trans g3 k1⟩⟩
theorem p_cmd_f (t : Nat → Int32) {l p : Nat} (hp : p ≤ l) : p ≤ (p_cmd t l p).2 ∧ (p_cmd t l p).2 ≤ l ∧ ∀ c, (p_cmd t l p).1 = some c → c_rng c ∧ p + 2 ≤ (p_cmd t l p).2 := by
  have weak : ∀ {x : Option gCm × Nat} {p : Nat} {Q : gCm → Prop}, (p ≤ x.2 ∧ x.2 ≤ l ∧ ∀ c, x.1 = some c → Q c ∧ p + 2 ≤ x.2) → p ≤ x.2 ∧ x.2 ≤ l ∧ ∀ c, x.1 = some c → Q c := fun h => ⟨h.1, h.2.1, fun c q => (h.2.2 c q).1⟩
  unfold p_cmd
  split
  · exact p_bd_f (p_fld_f t l 112 0 2 p hp) (fun v q h1 h2 h3 => ⟨Nat.le_refl _, h3, fun c z => by cases z; exact Or.inl ⟨rfl, h2⟩⟩)
  · split
    · exact p_bd_f (p_fld_f t l 100 1 99 p hp) (fun v q h1 h2 h3 => ⟨Nat.le_refl _, h3, fun c z => by cases z; exact Or.inr (Or.inl ⟨rfl, h1, h2⟩)⟩)
    · split
      · exact p_bd_f (p_fld_f t l 115 0 3 p hp) (fun r q r1 r2 hq => weak (p_bd_f (p_fld_f t l 58 0 2 q hq) (fun s q s1 s2 hq => weak (p_bd_f (p_fld_f t l 44 1 99 q hq) (fun w q w1 w2 hq => weak (p_bd_f (p_fld_f t l 120 1 99 q hq) (fun y q y1 y2 hq => ⟨Nat.le_refl _, hq, fun c z => by cases z; exact Or.inr (Or.inr (Or.inl ⟨rfl, r2, s2, ⟨w1, w2⟩, y1, y2⟩))⟩)))))))
      · split
        · exact p_bd_f (p_fld_f t l 111 0 2 p hp) (fun r q r1 r2 hq => weak (p_bd_f (p_fld_f t l 44 1 99 q hq) (fun s q s1 s2 hq => weak (p_bd_f (p_fld_f t l 120 1 99 q hq) (fun w q w1 w2 hq => weak (p_bd_f (p_fld_f t l 64 0 999 q hq) (fun y q y1 y2 hq => ⟨Nat.le_refl _, hq, fun c z => by cases z; exact Or.inr (Or.inr (Or.inr ⟨rfl, r2, ⟨s1, s2⟩, ⟨w1, w2⟩, y2⟩))⟩)))))))
        · exact ⟨Nat.le_refl _, hp, fun c q => by cases q⟩
/-! the class's reading -/
def x_at (t : Nat → Int32) (l p : Nat) (fl : Int32) (τ : gTx) : Prop := (∀ k, k < l → τ.1 k = t k) ∧ τ.2 1 = nI l ∧ τ.2 2 = nI p ∧ τ.2 3 = fl
def x_k (τ τ2 : gTx) : Prop := τ2.1 = τ.1 ∧ ∀ j, 4 ≤ j → τ2.2 j = τ.2 j
theorem x_k.rf {τ : gTx} : x_k τ τ := ⟨rfl, fun _ _ => rfl⟩
theorem x_k.tr {τ τ2 τ3 : gTx} (h : x_k τ τ2) (h2 : x_k τ2 τ3) : x_k τ τ3 := ⟨h2.1.trans h.1, fun j hj => (h2.2 j hj).trans (h.2 j hj)⟩
theorem x_k.up (τ : gTx) {k : Nat} (hk : k < 4) (x : Int32) : x_k τ (g_ti τ k x) := ⟨rfl, fun j hj => va_up_ne _ _ (by omega)⟩
theorem x_at.mv {t : Nat → Int32} {l p : Nat} {fl : Int32} {τ : gTx} (h : x_at t l p fl τ) (q : Nat) : x_at t l q fl (g_ti τ 2 (nI q)) := ⟨h.1, h.2.1, va_up_at τ.2 2 (nI q), h.2.2.2⟩
theorem x_at.fl {t : Nat → Int32} {l p : Nat} {fl : Int32} {τ : gTx} (h : x_at t l p fl τ) (x : Int32) : x_at t l p x (g_ti τ 3 x) := ⟨h.1, h.2.1, h.2.2.1, va_up_at τ.2 3 x⟩
theorem x_at.el {t : Nat → Int32} {l p : Nat} {fl : Int32} {τ : gTx} (h : x_at t l p fl τ) {k : Nat} (hk : 4 ≤ k) (x : Int32) : x_at t l p fl (g_ti τ k x) := ⟨h.1, (va_up_ne _ _ (by omega)).trans h.2.1, (va_up_ne _ _ (by omega)).trans h.2.2.1, (va_up_ne _ _ (by omega)).trans h.2.2.2⟩
theorem r_here {t : Nat → Int32} {l p : Nat} {fl : Int32} {τ : gTx} (h : x_at t l p fl τ) (hl : l ≤ 60) (hp : p ≤ l) : f0_here τ = some (if p < l then t p else -1) := by
  obtain ⟨h1, h2, h3, -⟩ := h
  unfold f0_here
  rw [h2, h3]
  simp (disch := omega) only [l60, nI_leI, q_lt0, q_in, nI_clamp, if_false]
  by_cases c : p < l
  · rw [if_neg (by omega), if_neg (by omega), if_pos (by omega), if_pos c, h1 p c]
  · rw [if_pos (by omega), if_neg c]
theorem r_digit {t : Nat → Int32} {l p : Nat} {fl : Int32} {τ : gTx} (h : x_at t l p fl τ) (hl : l ≤ 60) (hp : p ≤ l) : f0_digitHere τ = some (if p < l ∧ (48 ≤ t p ∧ t p ≤ 57) then nI (dg (t p)) else -1) := by
  unfold f0_digitHere
  rw [r_here h hl hp, q_b1_s]
  by_cases c : p < l
  · simp only [c, if_true, true_and, i_nlt]
    by_cases c1 : 48 ≤ t p
    · rw [if_neg (not_not_intro c1)]
      by_cases c2 : t p ≤ 57
      · rw [if_neg (not_not_intro c2), if_pos ⟨c1, c2⟩]
        obtain ⟨d, hd, e1, e2⟩ := dg_e ⟨c1, c2⟩
        rw [e2, e1, show nI (48 + d) - (48 : Int32) = nI (48 + d - 48) from pk_sub (b := 48) (by omega)]
        congr 2
        omega
      · rw [if_pos c2, if_neg (fun q => c2 q.2)]
    · rw [if_pos c1, if_neg (fun q => c1 q.1)]
  · rw [if_neg c, if_pos (by decide), if_neg (fun q => c q.1)]
theorem r_dig {t : Nat → Int32} {l hi : Nat} (hl : l ≤ 60) (hhi : hi ≤ 999) : ∀ (e n v p c : Nat) (τ : gTx), x_at t l p 0 τ → p ≤ l → v ≤ hi → (v = 0 ∨ 1000 ≤ v * 10 ^ e) → e < n → c + e < 60 → ∃ τ2, f0_numberBehind_50 n τ (nI hi) (nI v) (nI c) = some (nI (p_dig t l hi e v p).1, τ2) ∧ x_at t l (p_dig t l hi e v p).2 0 τ2 ∧ x_k τ τ2 := by
  intro e
  induction e with
  | zero =>
    intro n v p c τ h hp hv h10 hn hc
    obtain ⟨n, rfl⟩ : ∃ k, n = k + 1 := ⟨n - 1, by omega⟩
    have hv0 : v = 0 := by rcases h10 with q | q; exact q; omega
    subst hv0
    rw [f0_numberBehind_50, if_neg (by rw [l60, nI_leI (by omega) (by omega)]; omega), if_pos (by rw [nI_0]; exact Int32.le_refl 0)]
    exact ⟨τ, rfl, h, x_k.rf⟩
  | succ e ih =>
    intro n v p c τ h hp hv h10 hn hc
    obtain ⟨n, rfl⟩ : ∃ k, n = k + 1 := ⟨n - 1, by omega⟩
    rw [f0_numberBehind_50, if_neg (by rw [l60, nI_leI (by omega) (by omega)]; omega), p_dig]
    by_cases c0 : 0 < v
    · rw [if_neg (by rw [← nI_0, nI_leI (by omega) (by omega)]; omega), r_digit h hl hp, q_b1_s]
      by_cases c1 : p < l ∧ (48 ≤ t p ∧ t p ≤ 57)
      · obtain ⟨d, hd, e1, e2⟩ := dg_e c1.2
        rw [if_pos c1, e2, if_neg (nI_pos (by omega))]
        rw [show nI v * (10 : Int32) + nI d = nI (10 * v + d) by rw [l10, pk_mul, nI_add]; congr 1; omega, h.2.2.1, show nI p + (1 : Int32) = nI (p + 1) from nI_add p 1, show nI c + 1 = nI (c + 1) from nI_add c 1]
        by_cases c2 : 10 * v + d ≤ hi
        · rw [if_pos ((nI_leI (by omega) (by omega)).mpr c2), if_pos ⟨c0, c1.1, c1.2, c2⟩, q_let, q_let]
          obtain ⟨τ2, i1, i2, i3⟩ := ih n (10 * v + d) (p + 1) (c + 1) (g_ti τ 2 (nI (p + 1))) (h.mv (p + 1)) c1.1 c2 (Or.inr (by
            rcases h10 with q | q
            · omega
            · rw [Nat.pow_succ] at q
              have : v * 10 * 10 ^ e ≤ (10 * v + d) * 10 ^ e := Nat.mul_le_mul_right _ (by omega)
              have e3 : v * (10 ^ e * 10) = v * 10 * 10 ^ e := by rw [Nat.mul_comm (10 ^ e) 10, Nat.mul_assoc]
              omega)) (by omega) (by omega)
          exact ⟨τ2, i1, i2, (x_k.up τ (by omega) _).tr i3⟩
        · rw [if_neg (fun q => c2 ((nI_leI (by omega) (by omega)).mp q)), if_neg (fun q => c2 q.2.2.2)]
          exact ⟨τ, rfl, h, x_k.rf⟩
      · rw [if_neg c1, if_pos (by decide), if_neg (fun q => c1 ⟨q.2.1, q.2.2.1⟩)]
        exact ⟨τ, rfl, h, x_k.rf⟩
    · have hv0 : v = 0 := by omega
      subst hv0
      rw [if_pos (by rw [nI_0]; exact Int32.le_refl 0), if_neg (fun q => c0 q.1)]
      exact ⟨τ, rfl, h, x_k.rf⟩
theorem i_neg (lo : Nat) (h : lo ≤ 1) : (-1 : Int32) < nI lo := by
  have : lo = 0 ∨ lo = 1 := by omega
  rcases this with rfl | rfl <;> decide
theorem r_fld {t : Nat → Int32} {l p : Nat} {τ : gTx} (h : x_at t l p 0 τ) (hl : l ≤ 60) (hp : p ≤ l) (sg : Int32) (hsg : ¬ (-1 : Int32) = sg) {lo hi : Nat} (hlo : lo ≤ 1) (hhi : hi ≤ 999) : ∃ τ2, f0_numberBehind τ sg (nI lo) (nI hi) = some (nI ((p_fld t l sg lo hi p).1.getD lo), τ2) ∧ x_at t l (p_fld t l sg lo hi p).2 (if (p_fld t l sg lo hi p).1 = none then 1 else 0) τ2 ∧ x_k τ τ2 := by
  unfold f0_numberBehind f0_expect p_fld
  rw [h.2.2.2, if_neg (not_not_intro rfl), r_here h hl hp, q_b1_s]
  by_cases c : p < l ∧ t p = sg
  · rw [if_pos c.1, if_pos c.2, if_pos c, q_let, q_b1_s, h.2.2.1, show nI p + (1 : Int32) = nI (p + 1) from nI_add p 1]
    have h1 := h.mv (p + 1)
    have k1 := x_k.up τ (k := 2) (by omega) (nI (p + 1))
    rw [r_digit h1 hl c.1, q_b1_s, h1.2.2.2, if_neg (not_not_intro rfl)]
    have bad : ∃ τ2, f0_numberBehind_30 (g_ti τ 2 (nI (p + 1))) (nI lo) = some (nI lo, τ2) ∧ x_at t l (p + 1) 1 τ2 ∧ x_k τ τ2 := ⟨_, rfl, h1.fl 1, k1.tr (x_k.up _ (by omega) _)⟩
    unfold p_num
    by_cases c1 : p + 1 < l ∧ (48 ≤ t (p + 1) ∧ t (p + 1) ≤ 57)
    · obtain ⟨d, hd, e1, e2⟩ := dg_e c1.2
      rw [if_pos c1, e2]
      by_cases c2 : lo ≤ d
      · rw [if_neg (by rw [nI_ltI (by omega) (by omega)]; omega)]
        by_cases c3 : d ≤ hi
        · rw [if_pos ((nI_leI (by omega) (by omega)).mpr c3), if_pos ⟨c1.1, c1.2, c2, c3⟩, q_let, h1.2.2.1, show nI (p + 1) + (1 : Int32) = nI (p + 1 + 1) from nI_add (p + 1) 1]
          have e10 : d = 0 ∨ 1000 ≤ d * 10 ^ 3 := by
            by_cases q : d = 0
            · exact Or.inl q
            · exact Or.inr (by omega)
          obtain ⟨τ2, i1, i2, i3⟩ := r_dig hl hhi 3 70 d (p + 1 + 1) 1 (g_ti (g_ti τ 2 (nI (p + 1))) 2 (nI (p + 1 + 1))) (h1.mv (p + 1 + 1)) c1.1 c3 e10 (by omega) (by omega)
          refine ⟨τ2, i1, ?_, (k1.tr (x_k.up _ (by omega) _)).tr i3⟩
          rw [if_neg (by simp)]
          exact i2
        · rw [if_neg (fun q => c3 ((nI_leI (by omega) (by omega)).mp q)), if_neg (fun q => c3 q.2.2.2)]
          exact bad
      · rw [if_pos (by rw [nI_ltI (by omega) (by omega)]; omega), if_neg (fun q => c2 q.2.2.1)]
        exact bad
    · rw [if_neg c1, if_pos (i_neg lo hlo), if_neg (fun q => c1 ⟨q.1, q.2.1⟩)]
      exact bad
  · rw [if_neg c]
    have e15 : (if (if p < l then t p else -1) = sg then g_let (g_ti τ 2 (τ.2 2 + 1)) fun z7 => some z7 else f0_expect_15 τ) = some (g_ti τ 3 1) := by
      by_cases c1 : p < l
      · rw [if_pos c1, if_neg (fun q => c ⟨c1, q⟩)]
        rfl
      · rw [if_neg c1, if_neg hsg]
        rfl
    rw [e15, q_b1_s]
    have h1 := h.fl 1
    rw [r_digit h1 hl hp, q_b1_s, h1.2.2.2, if_pos (by decide)]
    exact ⟨_, rfl, h1.fl 1, (x_k.up _ (by omega) _).tr (x_k.up _ (by omega) _)⟩
theorem r_fld_b {t : Nat → Int32} {l p : Nat} {τ : gTx} (h : x_at t l p 1 τ) (hl : l ≤ 60) (hp : p ≤ l) (sg lo hi : Int32) : ∃ τ2, f0_numberBehind τ sg lo hi = some (lo, τ2) ∧ x_at t l p 1 τ2 ∧ x_k τ τ2 := by
  unfold f0_numberBehind f0_expect
  have h1 := h.fl 1
  rw [h.2.2.2, if_pos (by decide), show f0_expect_15 τ = some (g_ti τ 3 1) from rfl, q_b1_s, r_digit h1 hl hp, q_b1_s, h1.2.2.2, if_pos (by decide)]
  exact ⟨_, rfl, h1.fl 1, (x_k.up _ (by omega) _).tr (x_k.up _ (by omega) _)⟩
