/-! THE MEMORY IN WORDS: what a state of the class and of the reference is, as values; where it lies in the heap; one row an access -/
abbrev gSh : Type := Int32 × Int32 × Int32 × Int32 × Int32
abbrev gOd : Type := Int32 × Int32 × Int32 × Int32 × Int32 × Int32 × Int32 × Int32
abbrev gOb : Type := gSh ⊕ gOd
abbrev gEn : Type := Nat → Option gOb
/-- a state: its whole numbers, its slots, its orders -/
abbrev gSt : Type := (Nat → Int32) × (Nat → Option gSh) × (Nat → Option gOd)
abbrev gHi : Type := (Nat → Nat) × Int32
abbrev gTx : Type := (Nat → Int32) × (Nat → Int32)
abbrev gMo : Type := (Nat → Nat → Int32) × (Nat → Int32)
abbrev gMu : Type := (Nat → gSt) × gHi × gTx × Int32 × gMo
abbrev gG : Type := va_G × (Nat → ClassId) × Nat
def g_si (σ : gSt) (k : Nat) (x : Int32) : gSt := (va_up σ.1 k x, σ.2)
def g_ss (σ : gSt) (k : Nat) (x : Option gSh) : gSt := (σ.1, va_up σ.2.1 k x, σ.2.2)
def g_so (σ : gSt) (k : Nat) (x : Option gOd) : gSt := (σ.1, σ.2.1, va_up σ.2.2 k x)
def g_ti (τ : gTx) (k : Nat) (x : Int32) : gTx := (τ.1, va_up τ.2 k x)
def g_tc (τ : gTx) (k : Nat) (x : Int32) : gTx := (va_up τ.1 k x, τ.2)
def g_mi (M : gMo) (k : Nat) (x : Int32) : gMo := (M.1, va_up M.2 k x)
def g_ma (M : gMo) (a k : Nat) (x : Int32) : gMo := (va_up M.1 a (va_up (M.1 a) k x), M.2)
def g_setS (μ : gMu) (i : Nat) (σ : gSt) : gMu := (va_up μ.1 i σ, μ.2)
def g_setH (μ : gMu) (h : gHi) : gMu := (μ.1, h, μ.2.2)
def g_setT (μ : gMu) (τ : gTx) : gMu := (μ.1, μ.2.1, τ, μ.2.2.2)
def g_setK (μ : gMu) (x : Int32) : gMu := (μ.1, μ.2.1, μ.2.2.1, x, μ.2.2.2.2)
def g_setM (μ : gMu) (M : gMo) : gMu := (μ.1, μ.2.1, μ.2.2.1, μ.2.2.2.1, M)
def g_hs (μ : gMu) (k j : Nat) : gMu := g_setH μ (va_up μ.2.1.1 k j, μ.2.1.2)
def g_hr (μ : gMu) (x : Int32) : gMu := g_setH μ (μ.2.1.1, x)
theorem g_setS_self (μ : gMu) (i : Nat) : g_setS μ i (μ.1 i) = μ := by
  obtain ⟨a, b⟩ := μ
  refine Prod.ext (funext fun j => ?_) rfl
  show va_up a i (a i) j = a j
  by_cases h : j = i
  · subst h; simp [va_up]
  · simp [va_up, h]
theorem g_setS_at (μ : gMu) (i : Nat) (σ : gSt) : (g_setS μ i σ).1 i = σ := by simp [g_setS, va_up]
theorem g_setS_ne (μ : gMu) {i j : Nat} (σ : gSt) (h : j ≠ i) : (g_setS μ i σ).1 j = μ.1 j := by simp [g_setS, va_up, h]
theorem g_setS_set (μ : gMu) (i : Nat) (σ σ' : gSt) : g_setS (g_setS μ i σ) i σ' = g_setS μ i σ' := by
  refine Prod.ext (funext fun j => ?_) rfl
  show va_up (va_up μ.1 i σ) i σ' j = va_up μ.1 i σ' j
  by_cases h : j = i
  · subst h; simp [va_up]
  · simp [va_up, h]
theorem g_setS_so (μ : gMu) {i j : Nat} (σ : gSt) (h : j ≠ i) : g_setS (g_setS μ i σ) j (μ.1 j) = g_setS μ i σ := by
  have e := g_setS_self (g_setS μ i σ) j
  rw [g_setS_ne μ σ h] at e
  exact e
theorem g_setT_self (μ : gMu) : g_setT μ μ.2.2.1 = μ := rfl
theorem g_setM_self (μ : gMu) : g_setM μ μ.2.2.2.2 = μ := rfl
/-- an index is within -/
abbrev g_in (i : Int32) (n : Nat) : Prop := ¬ i < 0 ∧ i.toNatClampNeg < n
theorem g_in.vp {i : Int32} {n : Nat} (h : g_in i n) : vp_in i n := fun q => q.elim h.1 (fun z => Nat.not_le.mpr h.2 z)
/-! how a function of the class or of the reference is put together: 'none' is what the machine would throw -/
def g_bd {α β γ : Type} (x : Option (α × β)) (f : α → β → Option γ) : Option γ := match x with
  | none => none
  | some z => f z.1 z.2
def g_b1 {α γ : Type} (x : Option α) (f : α → Option γ) : Option γ := match x with
  | none => none
  | some z => f z
def g_oc {α β : Type} (x : Option α) (a : β) (f : α → β) : β := match x with
  | none => a
  | some v => f v
def g_let {α β : Type} (x : α) (f : α → β) : β := f x
theorem g_bd_e {α β γ : Type} {x : Option (α × β)} {f : α → β → Option γ} {y : γ} (h : g_bd x f = some y) : ∃ a b, x = some (a, b) ∧ f a b = some y := by
  cases x with
  | none => cases h
  | some z => exact ⟨z.1, z.2, rfl, h⟩
theorem g_b1_e {α γ : Type} {x : Option α} {f : α → Option γ} {y : γ} (h : g_b1 x f = some y) : ∃ a, x = some a ∧ f a = some y := by
  cases x with
  | none => cases h
  | some z => exact ⟨z, rfl, h⟩
theorem g_let_at {α β : Type} {x : α} {f : α → β} {y : β} {z : α} (h : g_let x f = y) (e : z = x) : f z = y := by subst e; exact h
theorem g_let_e {α β : Type} {x : α} {f : α → β} {y : β} (h : g_let x f = y) : ∃ z, z = x ∧ f z = y := ⟨x, rfl, h⟩
theorem g_ocn {α β : Type} {x : Option α} {a : β} {f : α → β} {y : β} (h : g_oc x a f = y) (e : x = none) : a = y := by subst e; exact h
theorem g_ocs {α β : Type} {x : Option α} {a : β} {f : α → β} {y : β} {v : α} (h : g_oc x a f = y) (e : x = some v) : f v = y := by subst e; exact h
theorem g_sp {α β : Type} {a c : α} {b d : β} (h : some (a, b) = some (c, d)) : a = c ∧ b = d := ⟨congrArg Prod.fst (Option.some.inj h), congrArg Prod.snd (Option.some.inj h)⟩
theorem g_s1 {α : Type} {a b : α} (h : some a = some b) : a = b := Option.some.inj h
theorem g_it {c : Prop} [Decidable c] {α : Type} {a b y : α} (h : (if c then a else b) = y) (hc : c) : a = y := by rw [if_pos hc] at h; exact h
theorem g_if {c : Prop} [Decidable c] {α : Type} {a b y : α} (h : (if c then a else b) = y) (hc : ¬ c) : b = y := by rw [if_neg hc] at h; exact h
theorem g_gd {c : Prop} [Decidable c] {α : Type} {a : Option α} {y : α} (h : (if c then a else none) = some y) : c ∧ a = some y := by
  by_cases hc : c
  · rw [if_pos hc] at h; exact ⟨hc, h⟩
  · rw [if_neg hc] at h; cases h
/-! where the cells lie: the first cell at G.2.2 -/
def g_stA (G : gG) (i : Nat) : Nat := G.2.2 + (1 + 7 * i + 2 * min 1 (i / 3))
def g_maA (G : gG) (k : Nat) : Nat := G.2.2 + 55 + k
abbrev g_A (G : gG) : Nat → Prop := fun q => G.2.2 ≤ q
abbrev g_at (G : gG) (a : Nat) (e : va_E) (H : Heap) : Prop := va_at G.1 vwCl (a, e) H
abbrev g_aq (c : ClassId) (n : Nat) (f : Nat → Option Nat) : va_E := .inl (c, n, .inr (.inr (.inr (.inr f))))
abbrev g_ai (c : ClassId) (n : Nat) (f : Nat → Int32) : va_E := .inl (c, n, .inl f)
abbrev g_e8 (G : gG) (i : Nat) (σ : gSt) : va_E := .inr (8, [.ref (g_stA G i + 1), .ref (g_stA G i + 2), .ref (g_stA G i + 4), .ref (g_stA G i + 6), .int (σ.1 5), .int (σ.1 6), .int (σ.1 7), .int (σ.1 8), .int (σ.1 9), .int (σ.1 10), .int (σ.1 11)])
abbrev g_e6 (σ : gSt) : va_E := .inr (6, [.int (σ.1 0), .int (σ.1 1), .int (σ.1 2), .int (σ.1 3), .int (σ.1 4)])
abbrev g_e5 (G : gG) (i : Nat) (σ : gSt) : va_E := .inr (5, [.ref (g_stA G i + 3), .int (σ.1 12)])
abbrev g_e4 (G : gG) (i : Nat) (σ : gSt) : va_E := .inr (4, [.ref (g_stA G i + 5), .int (σ.1 13)])
abbrev g_e1 (σ : gSt) : va_E := .inr (1, [.int (σ.1 14), .int (σ.1 15), .int (σ.1 16), .int (σ.1 17), .int (σ.1 18), .int (σ.1 19), .int (σ.1 20), .int (σ.1 21), .int (σ.1 22), .int (σ.1 23)])
abbrev g_e2 (G : gG) (x : Int32) : va_E := .inr (2, [.ref (G.2.2 + 23), .int x])
abbrev g_e0 (G : gG) (τ : gTx) : va_E := .inr (0, [.ref (G.2.2 + 53), .int (τ.2 1), .int (τ.2 2), .int (τ.2 3), .int (τ.2 4), .int (τ.2 5), .int (τ.2 6), .int (τ.2 7), .int (τ.2 8), .int (τ.2 9), .int (τ.2 10), .int (τ.2 11)])
abbrev g_e9 (G : gG) (x : Int32) : va_E := .inr (9, [.ref (g_stA G 0), .ref (g_stA G 1), .ref (g_stA G 2), .int x, .ref (G.2.2 + 22), .ref (G.2.2 + 52)])
abbrev g_e10 (G : gG) (M : gMo) : va_E := .inr (10, [.ref (g_maA G 0), .ref (g_maA G 1), .ref (g_maA G 2), .ref (g_maA G 3), .ref (g_maA G 4), .int (M.2 5), .int (M.2 6), .int (M.2 7), .int (M.2 8)])
abbrev g_e7 (v : gSh) : va_E := .inr (7, [.int v.1, .int v.2.1, .int v.2.2.1, .int v.2.2.2.1, .int v.2.2.2.2])
abbrev g_e3 (v : gOd) : va_E := .inr (3, [.int v.1, .int v.2.1, .int v.2.2.1, .int v.2.2.2.1, .int v.2.2.2.2.1, .int v.2.2.2.2.2.1, .int v.2.2.2.2.2.2.1, .int v.2.2.2.2.2.2.2])
def g_oe (o : gOb) : va_E := match o with
  | .inl v => g_e7 v
  | .inr v => g_e3 v
def g_msz (k : Nat) : Nat := match k with
  | 3 => 4536
  | 4 => 60
  | _ => 1134
def g_rel {α : Type} (E : gEn) (inj : α → gOb) (r : Option Nat) (v : Option α) : Prop := match v with
  | none => r = none
  | some x => ∃ a : Nat, r = some a ∧ E a = some (inj x)
def g_le (E E' : gEn) : Prop := ∀ (a : Nat) (o : gOb), E a = some o → E' a = some o
theorem g_le.rf {E : gEn} : g_le E E := fun _ _ h => h
theorem g_le.tr {E E' E2 : gEn} (h : g_le E E') (h2 : g_le E' E2) : g_le E E2 := fun a o q => h2 a o (h a o q)
theorem g_rel.up {α : Type} {E E' : gEn} (hle : g_le E E') {inj : α → gOb} {r : Option Nat} {v : Option α} (h : g_rel E inj r v) : g_rel E' inj r v := by
  cases v with
  | none => exact h
  | some x => obtain ⟨a, h1, h2⟩ := h; exact ⟨a, h1, hle a _ h2⟩
/-- a reference that may be null, and its value -/
def g_rv {α : Type} (E : gEn) (inj : α → gOb) (w : Value) (v : Option α) : Prop := match v with
  | none => w = .null
  | some x => ∃ a : Nat, w = .ref a ∧ E a = some (inj x)
theorem g_rv.up {α : Type} {E E' : gEn} (hle : g_le E E') {inj : α → gOb} {w : Value} {v : Option α} (h : g_rv E inj w v) : g_rv E' inj w v := by
  cases v with
  | none => exact h
  | some x => obtain ⟨a, h1, h2⟩ := h; exact ⟨a, h1, hle a _ h2⟩
/-- a state's reference that may be null -/
def g_rj (G : gG) (w : Value) (v : Option Nat) : Prop := match v with
  | none => w = .null
  | some j => j < 7 ∧ w = .ref (g_stA G j)
def g_S (G : gG) (E : gEn) (i : Nat) (σ : gSt) (H : Heap) : Prop :=
  g_at G (g_stA G i) (g_e8 G i σ) H ∧ g_at G (g_stA G i + 1) (g_e6 σ) H ∧ g_at G (g_stA G i + 2) (g_e5 G i σ) H ∧
  (∃ f : Nat → Option Nat, (∀ k, k < 32 → g_rel E .inl (f k) (σ.2.1 k)) ∧ g_at G (g_stA G i + 3) (g_aq (G.2.1 2) 32 f) H) ∧
  g_at G (g_stA G i + 4) (g_e4 G i σ) H ∧
  (∃ f : Nat → Option Nat, (∀ k, k < 12 → g_rel E .inr (f k) (σ.2.2 k)) ∧ g_at G (g_stA G i + 5) (g_aq (G.2.1 3) 12 f) H) ∧
  g_at G (g_stA G i + 6) (g_e1 σ) H
def g_Hp (G : gG) (h : gHi) (H : Heap) : Prop := (∀ k, k < 4 → h.1 k < 7) ∧ g_at G (G.2.2 + 22) (g_e2 G h.2) H ∧ g_at G (G.2.2 + 23) (g_aq (G.2.1 4) 4 (fun k => some (g_stA G (h.1 k)))) H
def g_Tp (G : gG) (τ : gTx) (H : Heap) : Prop := g_at G (G.2.2 + 52) (g_e0 G τ) H ∧ g_at G (G.2.2 + 53) (g_ai (G.2.1 1) 60 τ.1) H
theorem g_at.kept {G : gG} {a : Nat} {e : va_E} {H H1 : Heap} (h : g_at G a e H) (hq : H1[a]? = H[a]?) : g_at G a e H1 := va_at.kept h hq
def g_Gp (G : gG) (x : Int32) (H : Heap) : Prop := g_at G G.2.2 (g_e9 G x) H
theorem g_Gp.kept {G : gG} {x : Int32} {H H1 : Heap} (h : g_Gp G x H) (hq : H1[G.2.2]? = H[G.2.2]?) : g_Gp G x H1 := by
  unfold g_Gp at h ⊢
  exact g_at.kept h hq
/-- no reference here -/
def g_Mp (_ : gG) (_ : gMo) (_ : Heap) : Prop := True
def g_Ep (G : gG) (E : gEn) (H : Heap) : Prop := ∀ (a : Nat) (o : gOb), E a = some o → G.2.2 + 54 ≤ a ∧ g_at G a (g_oe o) H
/-- the heap holds the state μ of both systems -/
def g_R (G : gG) (E : gEn) (μ : gMu) (H : Heap) : Prop := (∀ i, i < 7 → g_S G E i (μ.1 i) H) ∧ g_Hp G μ.2.1 H ∧ g_Tp G μ.2.2.1 H ∧ g_Gp G μ.2.2.2.1 H ∧ g_Mp G μ.2.2.2.2 H ∧ g_Ep G E H
theorem g_stA_lo (G : gG) {i : Nat} (hi : i < 7) : G.2.2 < g_stA G i ∧ g_stA G i + 7 ≤ G.2.2 + 52 ∧ (g_stA G i + 7 ≤ G.2.2 + 22 ∨ G.2.2 + 24 ≤ g_stA G i) := by
  unfold g_stA; omega
theorem g_stA_ap (G : gG) {i j : Nat} (h : i ≠ j) : g_stA G i + 7 ≤ g_stA G j ∨ g_stA G j + 7 ≤ g_stA G i := by
  unfold g_stA; omega
theorem g_maA_ne (G : gG) {k j : Nat} (h : k ≠ j) : g_maA G k ≠ g_maA G j := by
  unfold g_maA; omega
theorem g_S.kept {G : gG} {E : gEn} {i : Nat} {σ : gSt} {H H1 : Heap} (h : g_S G E i σ H) (hq : ∀ q, g_stA G i ≤ q → q < g_stA G i + 7 → H1[q]? = H[q]?) : g_S G E i σ H1 := by
  obtain ⟨h1, h2, h3, ⟨f, hf, h4⟩, h5, ⟨g, hg, h6⟩, h7⟩ := h
  exact ⟨g_at.kept h1 (hq _ (by omega) (by omega)), g_at.kept h2 (hq _ (by omega) (by omega)), g_at.kept h3 (hq _ (by omega) (by omega)), ⟨f, hf, g_at.kept h4 (hq _ (by omega) (by omega))⟩, g_at.kept h5 (hq _ (by omega) (by omega)), ⟨g, hg, g_at.kept h6 (hq _ (by omega) (by omega))⟩, g_at.kept h7 (hq _ (by omega) (by omega))⟩
theorem g_S.up {G : gG} {E E' : gEn} {i : Nat} {σ : gSt} {H : Heap} (hle : g_le E E') (h : g_S G E i σ H) : g_S G E' i σ H := by
  obtain ⟨h1, h2, h3, ⟨f, hf, h4⟩, h5, ⟨g, hg, h6⟩, h7⟩ := h
  exact ⟨h1, h2, h3, ⟨f, fun k hk => (hf k hk).up hle, h4⟩, h5, ⟨g, fun k hk => (hg k hk).up hle, h6⟩, h7⟩
theorem g_Hp.kept {G : gG} {h : gHi} {H H1 : Heap} (q : g_Hp G h H) (h1 : H1[G.2.2 + 22]? = H[G.2.2 + 22]?) (h2 : H1[G.2.2 + 23]? = H[G.2.2 + 23]?) : g_Hp G h H1 := ⟨q.1, g_at.kept q.2.1 h1, g_at.kept q.2.2 h2⟩
theorem g_Tp.kept {G : gG} {τ : gTx} {H H1 : Heap} (q : g_Tp G τ H) (h1 : H1[G.2.2 + 52]? = H[G.2.2 + 52]?) (h2 : H1[G.2.2 + 53]? = H[G.2.2 + 53]?) : g_Tp G τ H1 := ⟨g_at.kept q.1 h1, g_at.kept q.2 h2⟩
theorem g_Mp.kept {G : gG} {M : gMo} {H H1 : Heap} (_ : g_Mp G M H) (_ : ∀ x, G.2.2 + 54 ≤ x → x < G.2.2 + 54 → H1[x]? = H[x]?) : g_Mp G M H1 := trivial
theorem g_Ep.kept {G : gG} {E : gEn} {H H1 : Heap} (q : g_Ep G E H) (hq : ∀ x, G.2.2 + 54 ≤ x → x < H.size → H1[x]? = H[x]?) : g_Ep G E H1 := fun a o h => ⟨(q a o h).1, g_at.kept (q a o h).2 (hq a (q a o h).1 (va_at.lt (q a o h).2))⟩
theorem g_R.st {G : gG} {E : gEn} {μ : gMu} {H : Heap} (h : g_R G E μ H) (i : Nat) : g_R G E (g_setS μ i (μ.1 i)) H := by rw [g_setS_self]; exact h
theorem g_R.so {G : gG} {E : gEn} {μ : gMu} {i j : Nat} {σ : gSt} {H : Heap} (h : g_R G E (g_setS μ i σ) H) (hne : j ≠ i) : g_R G E (g_setS (g_setS μ i σ) j (μ.1 j)) H := by rw [g_setS_so μ σ hne]; exact h
theorem g_R.f {G : gG} {E : gEn} {μ : gMu} {i : Nat} {σ : gSt} {H : Heap} (h : g_R G E (g_setS μ i σ) H) (hi : i < 7) : g_S G E i σ H := by
  have := h.1 i hi
  rw [g_setS_at] at this
  exact this
theorem g_R.o {G : gG} {E : gEn} {μ : gMu} {i j : Nat} {σ : gSt} {H : Heap} (h : g_R G E (g_setS μ i σ) H) (hj : j < 7) (hne : j ≠ i) : g_S G E j (μ.1 j) H := by
  have := h.1 j hj
  rw [g_setS_ne μ σ hne] at this
  exact this
theorem g_R.size {G : gG} {E : gEn} {μ : gMu} {H : Heap} (h : g_R G E μ H) : G.2.2 + 54 ≤ H.size := by
  have := va_at.lt h.2.2.1.2
  show G.2.2 + 53 < H.size
  exact this
/-- a state has changed -/
theorem g_R.putS {G : gG} {E : gEn} {μ : gMu} {i : Nat} {σ σ' : gSt} {H H1 : Heap} (h : g_R G E (g_setS μ i σ) H) (hi : i < 7) {a : Nat} (ha : g_stA G i ≤ a) (ha2 : a < g_stA G i + 7) (oq : ∀ q : Nat, q ≠ a → H1[q]? = H[q]?) (hS : g_S G E i σ' H1) : g_R G E (g_setS μ i σ') H1 := by
  have b := g_stA_lo G hi
  refine ⟨fun j hj => ?_, h.2.1.kept (oq _ (by omega)) (oq _ (by omega)), h.2.2.1.kept (oq _ (by omega)) (oq _ (by omega)), h.2.2.2.1.kept (oq _ (by omega)), h.2.2.2.2.1.kept (fun x _ _ => oq _ (by omega)), h.2.2.2.2.2.kept (fun x _ _ => oq _ (by omega))⟩
  by_cases e : j = i
  · subst e
    rw [g_setS_at]
    exact hS
  · rw [g_setS_ne μ σ' e]
    refine (h.o hj e).kept (fun q h1 h2 => oq q ?_)
    have := g_stA_ap G e
    omega
theorem g_R.putH {G : gG} {E : gEn} {μ : gMu} {h' : gHi} {H H1 : Heap} (h : g_R G E μ H) {a : Nat} (ha : a = G.2.2 + 22 ∨ a = G.2.2 + 23) (oq : ∀ q : Nat, q ≠ a → H1[q]? = H[q]?) (hS : g_Hp G h' H1) : g_R G E (g_setH μ h') H1 :=
  ⟨fun j hj => (h.1 j hj).kept (fun q h1 h2 => oq q (by have := g_stA_lo G hj; omega)), hS, h.2.2.1.kept (oq _ (by omega)) (oq _ (by omega)), h.2.2.2.1.kept (oq _ (by omega)), h.2.2.2.2.1.kept (fun x _ _ => oq _ (by omega)), h.2.2.2.2.2.kept (fun x _ _ => oq _ (by omega))⟩
theorem g_R.putT {G : gG} {E : gEn} {μ : gMu} {τ τ' : gTx} {H H1 : Heap} (h : g_R G E (g_setT μ τ) H) {a : Nat} (ha : a = G.2.2 + 52 ∨ a = G.2.2 + 53) (oq : ∀ q : Nat, q ≠ a → H1[q]? = H[q]?) (hS : g_Tp G τ' H1) : g_R G E (g_setT μ τ') H1 :=
  ⟨fun j hj => (h.1 j hj).kept (fun q h1 h2 => oq q (by have := g_stA_lo G hj; omega)), h.2.1.kept (oq _ (by omega)) (oq _ (by omega)), hS, h.2.2.2.1.kept (oq _ (by omega)), h.2.2.2.2.1.kept (fun x _ _ => oq _ (by omega)), h.2.2.2.2.2.kept (fun x _ _ => oq _ (by omega))⟩
theorem g_R.putK {G : gG} {E : gEn} {μ : gMu} {x : Int32} {H H1 : Heap} (h : g_R G E μ H) (oq : ∀ q : Nat, q ≠ G.2.2 → H1[q]? = H[q]?) (hS : g_Gp G x H1) : g_R G E (g_setK μ x) H1 :=
  ⟨fun j hj => (h.1 j hj).kept (fun q h1 h2 => oq q (by have := g_stA_lo G hj; omega)), h.2.1.kept (oq _ (by omega)) (oq _ (by omega)), h.2.2.1.kept (oq _ (by omega)) (oq _ (by omega)), hS, h.2.2.2.2.1.kept (fun x _ _ => oq _ (by omega)), h.2.2.2.2.2.kept (fun x _ _ => oq _ (by omega))⟩
/-- a new cell, or a cell that is nobody's yet, has changed -/
theorem g_R.else {G : gG} {E : gEn} {μ : gMu} {H H1 : Heap} (h : g_R G E μ H) {a : Nat} (ha : G.2.2 + 54 ≤ a) (hE : E a = none) (oq : ∀ q : Nat, q < H.size → q ≠ a → H1[q]? = H[q]?) : g_R G E μ H1 := by
  have z := h.size
  refine ⟨fun j hj => (h.1 j hj).kept (fun q h1 h2 => oq q (by have := g_stA_lo G hj; omega) (by have := g_stA_lo G hj; omega)), h.2.1.kept (oq _ (by omega) (by omega)) (oq _ (by omega) (by omega)), h.2.2.1.kept (oq _ (by omega) (by omega)) (oq _ (by omega) (by omega)), h.2.2.2.1.kept (oq _ (by omega) (by omega)), h.2.2.2.2.1.kept (fun x _ _ => oq _ (by omega) (by omega)), fun x o hx => ⟨(h.2.2.2.2.2 x o hx).1, g_at.kept (h.2.2.2.2.2 x o hx).2 (oq x (va_at.lt (h.2.2.2.2.2 x o hx).2) (fun q => ?_))⟩⟩
  rw [q, hE] at hx
  cases hx
theorem g_R.fresh {G : gG} {E : gEn} {μ : gMu} {H : Heap} (h : g_R G E μ H) {a : Nat} (ha : H.size ≤ a) : E a = none := by
  cases hE : E a with
  | none => rfl
  | some o => exact absurd (va_at.lt (h.2.2.2.2.2 a o hE).2) (Nat.not_lt.mpr ha)
/-- a made object joins the known ones -/
theorem g_R.join {G : gG} {E : gEn} {μ : gMu} {H : Heap} (h : g_R G E μ H) {a : Nat} (ha : G.2.2 + 54 ≤ a) (hE : E a = none) {o : gOb} (ho : g_at G a (g_oe o) H) : g_le E (va_up E a (some o)) ∧ va_up E a (some o) a = some o ∧ g_R G (va_up E a (some o)) μ H := by
  have hle : g_le E (va_up E a (some o)) := fun x z hx => by
    by_cases e : x = a
    · rw [e, hE] at hx; cases hx
    · show (if x = a then _ else _) = _
      rw [if_neg e]; exact hx
  refine ⟨hle, by simp [va_up], fun j hj => (h.1 j hj).up hle, h.2.1, h.2.2.1, h.2.2.2.1, h.2.2.2.2.1, fun x z hx => ?_⟩
  by_cases e : x = a
  · subst e
    simp only [va_up, if_pos] at hx
    cases hx
    exact ⟨ha, ho⟩
  · simp only [va_up, if_neg e] at hx
    exact h.2.2.2.2.2 x z hx
/-! what the tables say -/

def g_nest : List (String × Nat × MethodName) := [(RX9, 11, yX8_init), (RX8, 11, yX6_init), (RX8, 20, yX5_init), (RX8, 27, yX4_init), (RX8, 34, yX1_init), (RX2, 21, yX8_init), (RX9, 35, yX0_init), (RX6, 39, yX9_isSide), (RX8, 71, yX9_isRack), (RX8, 75, yX9_isSort), (RX8, 78, yX9_isSide), (RX8, 149, yX9_isChoice)]
def g_K (G : gG) (U : State) : Prop := va_K G.1 vwCl [(G.2.1 0, FieldType.char), (G.2.1 1, .char), (G.2.1 2, .object "GlassRacks$Sheet"), (G.2.1 3, .object "GlassRacks$Order"), (G.2.1 4, .object "GlassRacks$State")] U ∧ ∀ w ∈ g_nest, va_Nw (.methodLinkNest w.1 w.2.1 w.2.2 "GlassRacks") U
theorem g_K.warm {G : gG} {s U : State} (h : g_K G s) (hW : s.WarmedH U.vm) : g_K G U := ⟨va_K.moved hW.alike h.1, fun w hw => va_Nw.warmM hW (h.2 w hw)⟩
theorem g_K.same {G : gG} {s U : State} (h : g_K G s) (e : s.vm = U.vm) : g_K G U := ⟨va_K.moved (by rw [e]; exact Vm.Alike.refl U.vm) h.1, fun w hw => va_Nw.same rfl e (h.2 w hw)⟩
/-! contracts -/
abbrev g_Pre (G : gG) (E : gEn) (μ : gMu) (As : List Value) : Array Value → State → Prop := va_Pc As (fun U => g_R G E μ U.heap ∧ g_K G U)
def g_Q (G : gG) (E : gEn) (μ : gMu) (PV : gEn → Option Value → Prop) : Array Value → State → Outcome → State → Prop := fun _ st oc t => ∃ (v : Option Value) (E' : gEn), oc = .returned v ∧ PV E' v ∧ g_le E E' ∧ g_R G E' μ t.heap ∧ va_F (g_A G) st t
theorem g_blind {G : gG} {E : gEn} {μ : gMu} {As : List Value} : FrameBlind (g_Pre G E μ As) := fun _ U g mk q => ⟨q.1, q.2.1, g_K.same (s := U) (U := U.calling g mk _) q.2.2 rfl⟩
theorem g_pre {G : gG} {E : gEn} {μ : gMu} {As : List Value} {s : State} {H : Heap} (hR : g_R G E μ H) (hK : g_K G s) : PreS s H (g_Pre G E μ As) As := ⟨g_blind, fun U hU hW => ⟨rfl, by rw [hU]; exact hR, hK.warm hW⟩⟩
theorem g_preV {G : gG} {E : gEn} {μ : gMu} {As : List Value} {s : State} {H : Heap} {b ci : Nat} {fs : List Value} {q : vw_C} (hR : g_R G E μ H) (hK : g_K G s) (hat : g_at G b (.inr (ci, fs)) H) (hc : vwCl[ci]? = some q) : PreV s H q.1 b (g_Pre G E μ (.ref b :: As)) As :=
  ⟨g_blind, va_recv (ws := [(b, .inr (ci, fs))]) (q0 := 0) hK.1 (fun k x hx => by
    have hz : k < 1 := (List.getElem?_eq_some_iff.mp hx).1
    rw [show k = 0 by omega] at hx
    cases hx
    exact hat) hc rfl, fun U hU hW => ⟨rfl, by rw [hU]; exact hR, hK.warm hW⟩⟩
/-- with the script -/
abbrev g_PreX (G : gG) (E : gEn) (μ : gMu) (b L : Nat) (xs : Nat → Int32) (As : List Value) : Array Value → State → Prop := va_Pc As (fun U => (va_X b L xs U U.heap ∧ b < U.heap.size ∧ ¬ g_A G b) ∧ g_R G E μ U.heap ∧ g_K G U)
theorem g_preX {G : gG} {E : gEn} {μ : gMu} {b L : Nat} {xs : Nat → Int32} {As : List Value} {s : State} {H : Heap} (hR : g_R G E μ H) (hK : g_K G s) (hX : va_X b L xs s H) (hbl : b < H.size) (hbA : ¬ g_A G b) : PreS s H (g_PreX G E μ b L xs As) As := ⟨fun _ U g mk q => ⟨q.1, ⟨va_X.moved (u := U) (U := U.calling g mk _) (Vm.Alike.refl U.vm) q.2.1.1, q.2.1.2⟩, q.2.2.1, g_K.same (s := U) (U := U.calling g mk _) q.2.2.2 rfl⟩, fun U hU hW => ⟨rfl, ⟨by rw [hU]; exact va_X.moved hW.alike hX, by rw [hU]; exact hbl, hbA⟩, by rw [hU]; exact hR, hK.warm hW⟩⟩
/-- a constructor's contract: the object is nobody's yet -/
abbrev g_PreR (G : gG) (E : gEn) (μ : gMu) (As : List Value) (q : Nat) (x : va_E) : Array Value → State → Prop := va_Pc As (fun U => g_R G E μ U.heap ∧ g_at G q x U.heap ∧ g_K G U)
def g_QR (G : gG) (E : gEn) (μ : gMu) (q : Nat) (x : va_E) : Array Value → State → Outcome → State → Prop := fun _ st oc t => oc = .returned none ∧ g_at G q x t.heap ∧ g_R G E μ t.heap ∧ va_F (g_A G) st t
theorem g_preR {G : gG} {E : gEn} {μ : gMu} {As : List Value} {s : State} {H : Heap} {q : Nat} {x : va_E} (hR : g_R G E μ H) (hK : g_K G s) (hq : g_at G q x H) : PreS s H (g_PreR G E μ As q x) As := ⟨fun _ U g mk z => ⟨z.1, z.2.1, z.2.2.1, g_K.same (s := U) (U := U.calling g mk _) z.2.2.2 rfl⟩, fun U hU hW => ⟨rfl, by rw [hU]; exact hR, by rw [hU]; exact hq, hK.warm hW⟩⟩
theorem g_one {G : gG} {a : Nat} {e : va_E} {H : Heap} (h : g_at G a e H) : va_P G.1 vwCl [(a, e)] H := fun k x hx => by
  have hz : k < 1 := (List.getElem?_eq_some_iff.mp hx).1
  rw [show k = 0 by omega] at hx
  cases hx
  exact h
section GROWS
variable {p : Program} {l : Launch} {e : Env} {R : Room} {s : State} {m : MethodId} {args : Array Value} {below : List Frame} {meth : Method} {c : Code} {H : Heap} {locs : List Loc} {cells slots : Nat} {Q : State → Prop}
variable {cc : ByteArray} {pc : Nat} {ls : Array Slot} {rest st0 : List Value} {a : Nat} {H0 : Heap} {mc ms : Nat} {G : gG} {E : gEn} {μ : gMu}
/-- behind a call that makes nothing -/
theorem g_call {μ' : gMu} {PV : Option Value → Prop} {as : Array Value} (hr : va_Run p l e R s m args below meth c H locs cells slots mc ms (F0 m pc ls st0) rest (g_Q G E μ' (fun E' v => E' = E ∧ PV v) as) (g_A G)) (hS : va_S (g_A G) H0 H locs)
    (kk : ∀ (v : Option Value) (H1 : Heap) (locs1 : List Loc), PV v → g_R G E μ' H1 → va_S (g_A G) H0 H1 locs1 → W p l e R s m args below meth c H1 locs1 (cells + mc) (slots + ms) Q (F0 m (pc + 3) ls (v.toList ++ rest))) : W p l e R s m args below meth c H locs cells slots Q (F0 m pc ls st0) := by
  intro T hT X
  obtain ⟨v, st₀, t, T', L, h0, X', hL, e1, e2, ⟨v', E', hv, ⟨rfl, hp⟩, hle, hR, hz, hk⟩, st⟩ := hr T hT X
  cases hv
  rw [h0] at hz hk
  obtain ⟨t2, a1, b1⟩ := kk v T'.heap (locs ++ L) hp (by rw [e1]; exact hR)
    ⟨Nat.le_trans hS.1 (by rw [e1]; exact hz), fun q h1 h2 => by rw [e1, hk q (Nat.lt_of_lt_of_le h1 hS.1) h2]; exact hS.2.1 q h1 h2, fun q hq => by
      rcases List.mem_append.mp hq with h | h
      · exact hS.2.2 q h
      · exact hL q h⟩ T' rfl X'
  exact ⟨t2, st t2 a1, b1⟩
/-- behind a call that makes objects -/
theorem g_calln {μ' : gMu} {PV : gEn → Option Value → Prop} {as : Array Value} (hr : va_Run p l e R s m args below meth c H locs cells slots mc ms (F0 m pc ls st0) rest (g_Q G E μ' PV as) (g_A G)) (hS : va_S (g_A G) H0 H locs)
    (kk : ∀ (v : Option Value) (E' : gEn) (H1 : Heap) (locs1 : List Loc), PV E' v → g_le E E' → g_R G E' μ' H1 → va_S (g_A G) H0 H1 locs1 → W p l e R s m args below meth c H1 locs1 (cells + mc) (slots + ms) Q (F0 m (pc + 3) ls (v.toList ++ rest))) : W p l e R s m args below meth c H locs cells slots Q (F0 m pc ls st0) := by
  intro T hT X
  obtain ⟨v, st₀, t, T', L, h0, X', hL, e1, e2, ⟨v', E', hv, hp, hle, hR, hz, hk⟩, st⟩ := hr T hT X
  cases hv
  rw [h0] at hz hk
  obtain ⟨t2, a1, b1⟩ := kk v E' T'.heap (locs ++ L) hp hle (by rw [e1]; exact hR)
    ⟨Nat.le_trans hS.1 (by rw [e1]; exact hz), fun q h1 h2 => by rw [e1, hk q (Nat.lt_of_lt_of_le h1 hS.1) h2]; exact hS.2.1 q h1 h2, fun q hq => by
      rcases List.mem_append.mp hq with h | h
      · exact hS.2.2 q h
      · exact hL q h⟩ T' rfl X'
  exact ⟨t2, st t2 a1, b1⟩
/-- behind a constructor -/
theorem g_calli {q : Nat} {x : va_E} {as : Array Value} (hr : va_Run p l e R s m args below meth c H locs cells slots mc ms (F0 m pc ls st0) rest (g_QR G E μ q x as) (g_A G)) (hS : va_S (g_A G) H0 H locs)
    (kk : ∀ (v : Option Value) (H1 : Heap) (locs1 : List Loc), v = none → g_at G q x H1 → g_R G E μ H1 → va_S (g_A G) H0 H1 locs1 → W p l e R s m args below meth c H1 locs1 (cells + mc) (slots + ms) Q (F0 m (pc + 3) ls (v.toList ++ rest))) : W p l e R s m args below meth c H locs cells slots Q (F0 m pc ls st0) := by
  intro T hT X
  obtain ⟨v, st₀, t, T', L, h0, X', hL, e1, e2, ⟨hv, hq, hR, hz, hk⟩, st⟩ := hr T hT X
  rw [h0] at hz hk
  obtain ⟨t2, a1, b1⟩ := kk v T'.heap (locs ++ L) (Outcome.returned.inj hv) (by rw [e1]; exact hq) (by rw [e1]; exact hR)
    ⟨Nat.le_trans hS.1 (by rw [e1]; exact hz), fun q h1 h2 => by rw [e1, hk q (Nat.lt_of_lt_of_le h1 hS.1) h2]; exact hS.2.1 q h1 h2, fun q hq => by
      rcases List.mem_append.mp hq with h | h
      · exact hS.2.2 q h
      · exact hL q h⟩ T' rfl X'
  exact ⟨t2, st t2 a1, b1⟩
/-- a field is read -/
theorem g_get (hx : p.tables.exec = Jvm.exec) (hb : c.code = cc) {own ref C : String} {T : u_T} {N ci index : Nat} {Ts : List Cond} {fs : List Value} {v : Value} (hts : ∀ w ∈ Ts, w.before args s = true) (hin : ∀ w ∈ u_ws C T N, w ∈ Ts) (hown : s.vm.findClass own = some m.cls) (hK : g_K G s) (hat : g_at G a (.inr (ci, fs)) H) (hc : vwCl[ci]? = some (C, T, N)) (k : Nat) (hk : k < N) (hlink : (Cond.fieldLink own index ref (T k).2.1 (T k).2.2.1).before args s = true) (hsame : (T k).1 = ref) (hv : fs[k]? = some v) (hdg : decode cc pc = .ok (.getfield index, 3))
    (kk : W p l e R s m args below meth c H locs cells slots Q (F0 m (pc + 3) ls (v :: rest))) : W p l e R s m args below meth c H locs cells slots Q (F0 m pc ls (.ref a :: rest)) :=
  va_get hx hb hts hin hown hK.1 (g_one hat) 0 rfl hc k hk hlink (fun x h => by rw [← hsame]; exact h) hv hdg kk
/-- a field is written -/
theorem g_put (hx : p.tables.exec = Jvm.exec) (hb : c.code = cc) {own ref C : String} {T : u_T} {N ci index : Nat} {Ts : List Cond} {fs : List Value} {v : Value} {ty0 : Nat → FieldType} (hts : ∀ w ∈ Ts, w.before args s = true) (hin : ∀ w ∈ u_ws C T N, w ∈ Ts) (hty : ∀ k, k < N → parseFieldDescriptor (T k).2.2.1 = some (ty0 k)) (hnm : ∀ a, a < N → ∀ b, b < N → a ≠ b → (T a).2.1 ≠ (T b).2.1) (hown : s.vm.findClass own = some m.cls) (hK : g_K G s) (hS : va_S (g_A G) H0 H locs) (hat : g_at G a (.inr (ci, fs)) H) (ha : G.2.2 ≤ a) (hc : vwCl[ci]? = some (C, T, N)) (k : Nat) (hk : k < N) (hlink : (Cond.fieldLink own index ref (T k).2.1 (T k).2.2.1).before args s = true) (hsame : (T k).1 = ref) (hfin : (T k).2.2.2 = false) (hn : narrow (ty0 k) v = v) (hfit : fits (ty0 k) v = true) (hl : k < fs.length) (hdg : decode cc pc = .ok (.putfield index, 3))
    (kk : ∀ (H1 : Heap) (locs1 : List Loc), g_at G a (.inr (ci, fs.set k v)) H1 → (∀ q : Nat, q ≠ a → H1[q]? = H[q]?) → va_S (g_A G) H0 H1 locs1 → W p l e R s m args below meth c H1 locs1 cells slots Q (F0 m (pc + 3) ls rest)) : W p l e R s m args below meth c H locs cells slots Q (F0 m pc ls (v :: .ref a :: rest)) := by
  have hap := va_apart (own := own) hts hin ty0 hty hnm hK.1 hc
  obtain ⟨r, h1, cell, q1, q2, q3, q4⟩ := hat
  have hr : r = (C, T, N) := Option.some.inj (h1.symm.trans hc)
  subst hr
  obtain ⟨hSl, hfc, kC, hkC, hkind⟩ := hK.1.1 ci _ hc
  obtain ⟨cf, kf, fi, f, hi, hsl⟩ := hSl k hk
  have hlay := hts _ (hin _ (u_in_lay hk))
  unfold u_lay at hlay
  rw [if_neg (by rw [hfin]; decide)] at hlay
  have hst := (u_facts hfc hkC (u_lays hts hin hk) hi).1
  have h6 := u_store hfc hkC hkind hlay hi (hty k hk) hn hfit
  refine W.putK hx hb (f := f) ⟨hown, hlink, ⟨_, _, _, by rw [← hsame]; exact hi⟩, hst⟩ (by rw [q2]; exact h6) q1 q3 (by rw [hsl]; exact k2_hasslot (q4 k hk)) rfl rfl hdg fun H' e1 e2 e3 => ?_
  rw [hsl] at e1 ⊢
  exact kk H' _ ⟨_, hc, t_OB.to (V := updV (vp_V fs) k v) ⟨_, e1, q2, q3, t_set q4 hap hk v⟩ (fun j _ => vp_updV_set hl v j)⟩ e3 (hS.put e2 e3 ha)
/-- a final field is written, in its constructor -/
theorem g_putF (hx : p.tables.exec = Jvm.exec) (hb : c.code = cc) {own ref C : String} {T : u_T} {N ci index : Nat} {Ts : List Cond} {fs : List Value} {v : Value} {ty0 : Nat → FieldType} (hts : ∀ w ∈ Ts, w.before args s = true) (hin : ∀ w ∈ u_ws C T N, w ∈ Ts) (hty : ∀ k, k < N → parseFieldDescriptor (T k).2.2.1 = some (ty0 k)) (hnm : ∀ a, a < N → ∀ b, b < N → a ≠ b → (T a).2.1 ≠ (T b).2.1) (hown : s.vm.findClass own = some m.cls) (hK : g_K G s) (hS : va_S (g_A G) H0 H locs) (hat : g_at G a (.inr (ci, fs)) H) (ha : G.2.2 ≤ a) (hc : vwCl[ci]? = some (C, T, N)) (k : Nat) (hk : k < N) (hlink : (Cond.fieldLink own index ref (T k).2.1 (T k).2.2.1).before args s = true) (hsame : (T k).1 = ref) (hfin : (T k).2.2.2 = true) (hin2 : meth.name = "<init>") (hdecl : (T k).1 = own) (hn : narrow (ty0 k) v = v) (hfit : fits (ty0 k) v = true) (hl : k < fs.length) (hdg : decode cc pc = .ok (.putfield index, 3))
    (kk : ∀ (H1 : Heap) (locs1 : List Loc), g_at G a (.inr (ci, fs.set k v)) H1 → (∀ q : Nat, q ≠ a → H1[q]? = H[q]?) → va_S (g_A G) H0 H1 locs1 → W p l e R s m args below meth c H1 locs1 cells slots Q (F0 m (pc + 3) ls rest)) : W p l e R s m args below meth c H locs cells slots Q (F0 m pc ls (v :: .ref a :: rest)) := by
  have hap := va_apart (own := own) hts hin ty0 hty hnm hK.1 hc
  obtain ⟨r, h1, cell, q1, q2, q3, q4⟩ := hat
  have hr : r = (C, T, N) := Option.some.inj (h1.symm.trans hc)
  subst hr
  obtain ⟨hSl, hfc, kC, hkC, hkind⟩ := hK.1.1 ci _ hc
  obtain ⟨cf, kf, fi, f, hi, hsl⟩ := hSl k hk
  have hlay := hts _ (hin _ (u_in_lay hk))
  unfold u_lay at hlay
  rw [if_pos hfin] at hlay
  have hst := (u_facts hfc hkC (u_lays hts hin hk) hi).1
  have hcf : m.cls = cf := by
    obtain ⟨_, _, c', _, _, _, -, -, hf', -, -, -, hown2, -⟩ := Cond.laysFinal_spec hlay
    have e1 : c' = cf := by have := hi.symm.trans hf'; simp at this; exact this.1.symm
    rw [hdecl] at hown2
    rw [← e1]; exact Option.some.inj (hown.symm.trans hown2)
  have h6 := u_fits hfc hkC hkind (Or.inr hlay) hi (hty k hk) hn hfit
  refine W.putFinK hx hb hown hlink (by rw [← hsame]; exact hi) hst hcf hin2 (by rw [q2]; exact h6) q1 q3 (by rw [hsl]; exact k2_hasslot (q4 k hk)) rfl rfl hdg fun H' e1 e2 e3 => ?_
  rw [hsl] at e1 ⊢
  exact kk H' _ ⟨_, hc, t_OB.to (V := updV (vp_V fs) k v) ⟨_, e1, q2, q3, t_set q4 hap hk v⟩ (fun j _ => vp_updV_set hl v j)⟩ e3 (hS.put e2 e3 ha)
/-- a new object -/
theorem g_new (hx : p.tables.exec = Jvm.exec) (hb : c.code = cc) {own C : String} {T : u_T} {N ci index : Nat} {Ts : List Cond} {ty : Nat → FieldType} {fs : List Value} (hts : ∀ w ∈ Ts, w.before args s = true) (hin : ∀ w ∈ u_ws C T N, w ∈ Ts) (hty : ∀ k, k < N → parseFieldDescriptor (T k).2.2.1 = some (ty k)) (hown : s.vm.findClass own = some m.cls) (hcl : (Cond.classLink own index C).before args s = true) (hinst : (Cond.instantiable C N).before args s = true) (hini : (Cond.initialized C).before args s = true)
    (hK : g_K G s) (hR : g_R G E μ H) (hS : va_S (g_A G) H0 H locs) (hc : vwCl[ci]? = some (C, T, N)) (hfs : ∀ j, j < N → defaultValue (ty j) = vp_V fs j) (hcells : cells + 1 ≤ R.cells) (hslots : slots + N ≤ R.slots) (hdg : decode cc pc = .ok (.new index, 3))
    (kk : ∀ (q : Nat) (H1 : Heap), G.2.2 + 54 ≤ q → E q = none → g_at G q (.inr (ci, fs)) H1 → g_R G E μ H1 → va_S (g_A G) H0 H1 locs → W p l e R s m args below meth c H1 locs (cells + 1) (slots + N) Q (F0 m (pc + 3) ls (.ref q :: rest))) : W p l e R s m args below meth c H locs cells slots Q (F0 m pc ls rest) := by
  have hKn := hK.1.1 ci _ hc
  refine W.newcK hx hb hown hcl hinst hini rfl hdg hcells hslots hKn.2.1 rfl fun H1 kC hkC e1 z1 o1 => ?_
  have hn := hR.fresh (Nat.le_refl H.size)
  refine kk H.size H1 hR.size hn ⟨_, hc, (u_born ty hts hin hKn hkC e1 hty).to hfs⟩ (hR.else hR.size hn (fun q h1 _ => o1 q h1)) ⟨Nat.le_trans hS.1 (by omega), fun x h1 h2 => (o1 x (Nat.lt_of_lt_of_le h1 hS.1)).trans (hS.2.1 x h1 h2), hS.2.2⟩

theorem g_p8_4 (hx : p.tables.exec = Jvm.exec) (hb : c.code = cc) {own : String} {index i : Nat} {σ : gSt} {x : Int32} {Ts : List Cond} (hts : ∀ w ∈ Ts, w.before args s = true) (hin : ∀ w ∈ u_ws RX8 TX8 11, w ∈ Ts) (hown : s.vm.findClass own = some m.cls) (hK : g_K G s) (hS : va_S (g_A G) H0 H locs) (hR : g_R G E (g_setS μ i σ) H) (hi : i < 7) (hlink : (Cond.fieldLink own index "GlassRacks$State" "day" "I").before args s = true) (hdg : decode cc pc = .ok (.putfield index, 3)) (kk : ∀ (H1 : Heap) (locs1 : List Loc), g_R G E (g_setS μ i (g_si σ 5 x)) H1 → va_S (g_A G) H0 H1 locs1 → W p l e R s m args below meth c H1 locs1 cells slots Q (F0 m (pc + 3) ls rest)) : W p l e R s m args below meth c H locs cells slots Q (F0 m pc ls (.int x :: .ref (g_stA G i) :: rest)) := by
  have h := hR.f hi
  have b := g_stA_lo G hi
  refine g_put hx hb hts hin tyX8_ok nmX8 hown hK hS h.1 (by omega) rfl 4 (by decide) hlink rfl rfl rfl rfl (Nat.le_of_ble_eq_true rfl) hdg (fun H1 locs1 e oq hS => kk H1 locs1 (hR.putS hi (a := g_stA G i) (by omega) (by omega) oq ?_) hS)
  exact ⟨e, g_at.kept h.2.1 (oq _ (by omega)), g_at.kept h.2.2.1 (oq _ (by omega)), (by obtain ⟨f, hf, hq⟩ := h.2.2.2.1; exact ⟨f, hf, g_at.kept hq (oq _ (by omega))⟩), g_at.kept h.2.2.2.2.1 (oq _ (by omega)), (by obtain ⟨f, hf, hq⟩ := h.2.2.2.2.2.1; exact ⟨f, hf, g_at.kept hq (oq _ (by omega))⟩), g_at.kept h.2.2.2.2.2.2 (oq _ (by omega))⟩
theorem g_p8_5 (hx : p.tables.exec = Jvm.exec) (hb : c.code = cc) {own : String} {index i : Nat} {σ : gSt} {x : Int32} {Ts : List Cond} (hts : ∀ w ∈ Ts, w.before args s = true) (hin : ∀ w ∈ u_ws RX8 TX8 11, w ∈ Ts) (hown : s.vm.findClass own = some m.cls) (hK : g_K G s) (hS : va_S (g_A G) H0 H locs) (hR : g_R G E (g_setS μ i σ) H) (hi : i < 7) (hlink : (Cond.fieldLink own index "GlassRacks$State" "boughtArea" "I").before args s = true) (hdg : decode cc pc = .ok (.putfield index, 3)) (kk : ∀ (H1 : Heap) (locs1 : List Loc), g_R G E (g_setS μ i (g_si σ 6 x)) H1 → va_S (g_A G) H0 H1 locs1 → W p l e R s m args below meth c H1 locs1 cells slots Q (F0 m (pc + 3) ls rest)) : W p l e R s m args below meth c H locs cells slots Q (F0 m pc ls (.int x :: .ref (g_stA G i) :: rest)) := by
  have h := hR.f hi
  have b := g_stA_lo G hi
  refine g_put hx hb hts hin tyX8_ok nmX8 hown hK hS h.1 (by omega) rfl 5 (by decide) hlink rfl rfl rfl rfl (Nat.le_of_ble_eq_true rfl) hdg (fun H1 locs1 e oq hS => kk H1 locs1 (hR.putS hi (a := g_stA G i) (by omega) (by omega) oq ?_) hS)
  exact ⟨e, g_at.kept h.2.1 (oq _ (by omega)), g_at.kept h.2.2.1 (oq _ (by omega)), (by obtain ⟨f, hf, hq⟩ := h.2.2.2.1; exact ⟨f, hf, g_at.kept hq (oq _ (by omega))⟩), g_at.kept h.2.2.2.2.1 (oq _ (by omega)), (by obtain ⟨f, hf, hq⟩ := h.2.2.2.2.2.1; exact ⟨f, hf, g_at.kept hq (oq _ (by omega))⟩), g_at.kept h.2.2.2.2.2.2 (oq _ (by omega))⟩
theorem g_p8_6 (hx : p.tables.exec = Jvm.exec) (hb : c.code = cc) {own : String} {index i : Nat} {σ : gSt} {x : Int32} {Ts : List Cond} (hts : ∀ w ∈ Ts, w.before args s = true) (hin : ∀ w ∈ u_ws RX8 TX8 11, w ∈ Ts) (hown : s.vm.findClass own = some m.cls) (hK : g_K G s) (hS : va_S (g_A G) H0 H locs) (hR : g_R G E (g_setS μ i σ) H) (hi : i < 7) (hlink : (Cond.fieldLink own index "GlassRacks$State" "paneArea" "I").before args s = true) (hdg : decode cc pc = .ok (.putfield index, 3)) (kk : ∀ (H1 : Heap) (locs1 : List Loc), g_R G E (g_setS μ i (g_si σ 7 x)) H1 → va_S (g_A G) H0 H1 locs1 → W p l e R s m args below meth c H1 locs1 cells slots Q (F0 m (pc + 3) ls rest)) : W p l e R s m args below meth c H locs cells slots Q (F0 m pc ls (.int x :: .ref (g_stA G i) :: rest)) := by
  have h := hR.f hi
  have b := g_stA_lo G hi
  refine g_put hx hb hts hin tyX8_ok nmX8 hown hK hS h.1 (by omega) rfl 6 (by decide) hlink rfl rfl rfl rfl (Nat.le_of_ble_eq_true rfl) hdg (fun H1 locs1 e oq hS => kk H1 locs1 (hR.putS hi (a := g_stA G i) (by omega) (by omega) oq ?_) hS)
  exact ⟨e, g_at.kept h.2.1 (oq _ (by omega)), g_at.kept h.2.2.1 (oq _ (by omega)), (by obtain ⟨f, hf, hq⟩ := h.2.2.2.1; exact ⟨f, hf, g_at.kept hq (oq _ (by omega))⟩), g_at.kept h.2.2.2.2.1 (oq _ (by omega)), (by obtain ⟨f, hf, hq⟩ := h.2.2.2.2.2.1; exact ⟨f, hf, g_at.kept hq (oq _ (by omega))⟩), g_at.kept h.2.2.2.2.2.2 (oq _ (by omega))⟩
theorem g_p8_7 (hx : p.tables.exec = Jvm.exec) (hb : c.code = cc) {own : String} {index i : Nat} {σ : gSt} {x : Int32} {Ts : List Cond} (hts : ∀ w ∈ Ts, w.before args s = true) (hin : ∀ w ∈ u_ws RX8 TX8 11, w ∈ Ts) (hown : s.vm.findClass own = some m.cls) (hK : g_K G s) (hS : va_S (g_A G) H0 H locs) (hR : g_R G E (g_setS μ i σ) H) (hi : i < 7) (hlink : (Cond.fieldLink own index "GlassRacks$State" "scrapArea" "I").before args s = true) (hdg : decode cc pc = .ok (.putfield index, 3)) (kk : ∀ (H1 : Heap) (locs1 : List Loc), g_R G E (g_setS μ i (g_si σ 8 x)) H1 → va_S (g_A G) H0 H1 locs1 → W p l e R s m args below meth c H1 locs1 cells slots Q (F0 m (pc + 3) ls rest)) : W p l e R s m args below meth c H locs cells slots Q (F0 m pc ls (.int x :: .ref (g_stA G i) :: rest)) := by
  have h := hR.f hi
  have b := g_stA_lo G hi
  refine g_put hx hb hts hin tyX8_ok nmX8 hown hK hS h.1 (by omega) rfl 7 (by decide) hlink rfl rfl rfl rfl (Nat.le_of_ble_eq_true rfl) hdg (fun H1 locs1 e oq hS => kk H1 locs1 (hR.putS hi (a := g_stA G i) (by omega) (by omega) oq ?_) hS)
  exact ⟨e, g_at.kept h.2.1 (oq _ (by omega)), g_at.kept h.2.2.1 (oq _ (by omega)), (by obtain ⟨f, hf, hq⟩ := h.2.2.2.1; exact ⟨f, hf, g_at.kept hq (oq _ (by omega))⟩), g_at.kept h.2.2.2.2.1 (oq _ (by omega)), (by obtain ⟨f, hf, hq⟩ := h.2.2.2.2.2.1; exact ⟨f, hf, g_at.kept hq (oq _ (by omega))⟩), g_at.kept h.2.2.2.2.2.2 (oq _ (by omega))⟩
theorem g_p8_8 (hx : p.tables.exec = Jvm.exec) (hb : c.code = cc) {own : String} {index i : Nat} {σ : gSt} {x : Int32} {Ts : List Cond} (hts : ∀ w ∈ Ts, w.before args s = true) (hin : ∀ w ∈ u_ws RX8 TX8 11, w ∈ Ts) (hown : s.vm.findClass own = some m.cls) (hK : g_K G s) (hS : va_S (g_A G) H0 H locs) (hR : g_R G E (g_setS μ i σ) H) (hi : i < 7) (hlink : (Cond.fieldLink own index "GlassRacks$State" "brokenArea" "I").before args s = true) (hdg : decode cc pc = .ok (.putfield index, 3)) (kk : ∀ (H1 : Heap) (locs1 : List Loc), g_R G E (g_setS μ i (g_si σ 9 x)) H1 → va_S (g_A G) H0 H1 locs1 → W p l e R s m args below meth c H1 locs1 cells slots Q (F0 m (pc + 3) ls rest)) : W p l e R s m args below meth c H locs cells slots Q (F0 m pc ls (.int x :: .ref (g_stA G i) :: rest)) := by
  have h := hR.f hi
  have b := g_stA_lo G hi
  refine g_put hx hb hts hin tyX8_ok nmX8 hown hK hS h.1 (by omega) rfl 8 (by decide) hlink rfl rfl rfl rfl (Nat.le_of_ble_eq_true rfl) hdg (fun H1 locs1 e oq hS => kk H1 locs1 (hR.putS hi (a := g_stA G i) (by omega) (by omega) oq ?_) hS)
  exact ⟨e, g_at.kept h.2.1 (oq _ (by omega)), g_at.kept h.2.2.1 (oq _ (by omega)), (by obtain ⟨f, hf, hq⟩ := h.2.2.2.1; exact ⟨f, hf, g_at.kept hq (oq _ (by omega))⟩), g_at.kept h.2.2.2.2.1 (oq _ (by omega)), (by obtain ⟨f, hf, hq⟩ := h.2.2.2.2.2.1; exact ⟨f, hf, g_at.kept hq (oq _ (by omega))⟩), g_at.kept h.2.2.2.2.2.2 (oq _ (by omega))⟩
theorem g_p8_9 (hx : p.tables.exec = Jvm.exec) (hb : c.code = cc) {own : String} {index i : Nat} {σ : gSt} {x : Int32} {Ts : List Cond} (hts : ∀ w ∈ Ts, w.before args s = true) (hin : ∀ w ∈ u_ws RX8 TX8 11, w ∈ Ts) (hown : s.vm.findClass own = some m.cls) (hK : g_K G s) (hS : va_S (g_A G) H0 H locs) (hR : g_R G E (g_setS μ i σ) H) (hi : i < 7) (hlink : (Cond.fieldLink own index "GlassRacks$State" "lostArea" "I").before args s = true) (hdg : decode cc pc = .ok (.putfield index, 3)) (kk : ∀ (H1 : Heap) (locs1 : List Loc), g_R G E (g_setS μ i (g_si σ 10 x)) H1 → va_S (g_A G) H0 H1 locs1 → W p l e R s m args below meth c H1 locs1 cells slots Q (F0 m (pc + 3) ls rest)) : W p l e R s m args below meth c H locs cells slots Q (F0 m pc ls (.int x :: .ref (g_stA G i) :: rest)) := by
  have h := hR.f hi
  have b := g_stA_lo G hi
  refine g_put hx hb hts hin tyX8_ok nmX8 hown hK hS h.1 (by omega) rfl 9 (by decide) hlink rfl rfl rfl rfl (Nat.le_of_ble_eq_true rfl) hdg (fun H1 locs1 e oq hS => kk H1 locs1 (hR.putS hi (a := g_stA G i) (by omega) (by omega) oq ?_) hS)
  exact ⟨e, g_at.kept h.2.1 (oq _ (by omega)), g_at.kept h.2.2.1 (oq _ (by omega)), (by obtain ⟨f, hf, hq⟩ := h.2.2.2.1; exact ⟨f, hf, g_at.kept hq (oq _ (by omega))⟩), g_at.kept h.2.2.2.2.1 (oq _ (by omega)), (by obtain ⟨f, hf, hq⟩ := h.2.2.2.2.2.1; exact ⟨f, hf, g_at.kept hq (oq _ (by omega))⟩), g_at.kept h.2.2.2.2.2.2 (oq _ (by omega))⟩
theorem g_p8_10 (hx : p.tables.exec = Jvm.exec) (hb : c.code = cc) {own : String} {index i : Nat} {σ : gSt} {x : Int32} {Ts : List Cond} (hts : ∀ w ∈ Ts, w.before args s = true) (hin : ∀ w ∈ u_ws RX8 TX8 11, w ∈ Ts) (hown : s.vm.findClass own = some m.cls) (hK : g_K G s) (hS : va_S (g_A G) H0 H locs) (hR : g_R G E (g_setS μ i σ) H) (hi : i < 7) (hlink : (Cond.fieldLink own index "GlassRacks$State" "liftings" "I").before args s = true) (hdg : decode cc pc = .ok (.putfield index, 3)) (kk : ∀ (H1 : Heap) (locs1 : List Loc), g_R G E (g_setS μ i (g_si σ 11 x)) H1 → va_S (g_A G) H0 H1 locs1 → W p l e R s m args below meth c H1 locs1 cells slots Q (F0 m (pc + 3) ls rest)) : W p l e R s m args below meth c H locs cells slots Q (F0 m pc ls (.int x :: .ref (g_stA G i) :: rest)) := by
  have h := hR.f hi
  have b := g_stA_lo G hi
  refine g_put hx hb hts hin tyX8_ok nmX8 hown hK hS h.1 (by omega) rfl 10 (by decide) hlink rfl rfl rfl rfl (Nat.le_of_ble_eq_true rfl) hdg (fun H1 locs1 e oq hS => kk H1 locs1 (hR.putS hi (a := g_stA G i) (by omega) (by omega) oq ?_) hS)
  exact ⟨e, g_at.kept h.2.1 (oq _ (by omega)), g_at.kept h.2.2.1 (oq _ (by omega)), (by obtain ⟨f, hf, hq⟩ := h.2.2.2.1; exact ⟨f, hf, g_at.kept hq (oq _ (by omega))⟩), g_at.kept h.2.2.2.2.1 (oq _ (by omega)), (by obtain ⟨f, hf, hq⟩ := h.2.2.2.2.2.1; exact ⟨f, hf, g_at.kept hq (oq _ (by omega))⟩), g_at.kept h.2.2.2.2.2.2 (oq _ (by omega))⟩
theorem g_p6_0 (hx : p.tables.exec = Jvm.exec) (hb : c.code = cc) {own : String} {index i : Nat} {σ : gSt} {x : Int32} {Ts : List Cond} (hts : ∀ w ∈ Ts, w.before args s = true) (hin : ∀ w ∈ u_ws RX6 TX6 5, w ∈ Ts) (hown : s.vm.findClass own = some m.cls) (hK : g_K G s) (hS : va_S (g_A G) H0 H locs) (hR : g_R G E (g_setS μ i σ) H) (hi : i < 7) (hlink : (Cond.fieldLink own index "GlassRacks$Settings" "cutWidth" "I").before args s = true) (hdg : decode cc pc = .ok (.putfield index, 3)) (kk : ∀ (H1 : Heap) (locs1 : List Loc), g_R G E (g_setS μ i (g_si σ 0 x)) H1 → va_S (g_A G) H0 H1 locs1 → W p l e R s m args below meth c H1 locs1 cells slots Q (F0 m (pc + 3) ls rest)) : W p l e R s m args below meth c H locs cells slots Q (F0 m pc ls (.int x :: .ref (g_stA G i + 1) :: rest)) := by
  have h := hR.f hi
  have b := g_stA_lo G hi
  refine g_put hx hb hts hin tyX6_ok nmX6 hown hK hS h.2.1 (by omega) rfl 0 (by decide) hlink rfl rfl rfl rfl (Nat.le_of_ble_eq_true rfl) hdg (fun H1 locs1 e oq hS => kk H1 locs1 (hR.putS hi (a := g_stA G i + 1) (by omega) (by omega) oq ?_) hS)
  exact ⟨g_at.kept h.1 (oq _ (by omega)), e, g_at.kept h.2.2.1 (oq _ (by omega)), (by obtain ⟨f, hf, hq⟩ := h.2.2.2.1; exact ⟨f, hf, g_at.kept hq (oq _ (by omega))⟩), g_at.kept h.2.2.2.2.1 (oq _ (by omega)), (by obtain ⟨f, hf, hq⟩ := h.2.2.2.2.2.1; exact ⟨f, hf, g_at.kept hq (oq _ (by omega))⟩), g_at.kept h.2.2.2.2.2.2 (oq _ (by omega))⟩
theorem g_p6_1 (hx : p.tables.exec = Jvm.exec) (hb : c.code = cc) {own : String} {index i : Nat} {σ : gSt} {x : Int32} {Ts : List Cond} (hts : ∀ w ∈ Ts, w.before args s = true) (hin : ∀ w ∈ u_ws RX6 TX6 5, w ∈ Ts) (hown : s.vm.findClass own = some m.cls) (hK : g_K G s) (hS : va_S (g_A G) H0 H locs) (hR : g_R G E (g_setS μ i σ) H) (hi : i < 7) (hlink : (Cond.fieldLink own index "GlassRacks$Settings" "leastSide" "I").before args s = true) (hdg : decode cc pc = .ok (.putfield index, 3)) (kk : ∀ (H1 : Heap) (locs1 : List Loc), g_R G E (g_setS μ i (g_si σ 1 x)) H1 → va_S (g_A G) H0 H1 locs1 → W p l e R s m args below meth c H1 locs1 cells slots Q (F0 m (pc + 3) ls rest)) : W p l e R s m args below meth c H locs cells slots Q (F0 m pc ls (.int x :: .ref (g_stA G i + 1) :: rest)) := by
  have h := hR.f hi
  have b := g_stA_lo G hi
  refine g_put hx hb hts hin tyX6_ok nmX6 hown hK hS h.2.1 (by omega) rfl 1 (by decide) hlink rfl rfl rfl rfl (Nat.le_of_ble_eq_true rfl) hdg (fun H1 locs1 e oq hS => kk H1 locs1 (hR.putS hi (a := g_stA G i + 1) (by omega) (by omega) oq ?_) hS)
  exact ⟨g_at.kept h.1 (oq _ (by omega)), e, g_at.kept h.2.2.1 (oq _ (by omega)), (by obtain ⟨f, hf, hq⟩ := h.2.2.2.1; exact ⟨f, hf, g_at.kept hq (oq _ (by omega))⟩), g_at.kept h.2.2.2.2.1 (oq _ (by omega)), (by obtain ⟨f, hf, hq⟩ := h.2.2.2.2.2.1; exact ⟨f, hf, g_at.kept hq (oq _ (by omega))⟩), g_at.kept h.2.2.2.2.2.2 (oq _ (by omega))⟩
theorem g_p6_2 (hx : p.tables.exec = Jvm.exec) (hb : c.code = cc) {own : String} {index i : Nat} {σ : gSt} {x : Int32} {Ts : List Cond} (hts : ∀ w ∈ Ts, w.before args s = true) (hin : ∀ w ∈ u_ws RX6 TX6 5, w ∈ Ts) (hown : s.vm.findClass own = some m.cls) (hK : g_K G s) (hS : va_S (g_A G) H0 H locs) (hR : g_R G E (g_setS μ i σ) H) (hi : i < 7) (hlink : (Cond.fieldLink own index "GlassRacks$Settings" "manner" "I").before args s = true) (hdg : decode cc pc = .ok (.putfield index, 3)) (kk : ∀ (H1 : Heap) (locs1 : List Loc), g_R G E (g_setS μ i (g_si σ 2 x)) H1 → va_S (g_A G) H0 H1 locs1 → W p l e R s m args below meth c H1 locs1 cells slots Q (F0 m (pc + 3) ls rest)) : W p l e R s m args below meth c H locs cells slots Q (F0 m pc ls (.int x :: .ref (g_stA G i + 1) :: rest)) := by
  have h := hR.f hi
  have b := g_stA_lo G hi
  refine g_put hx hb hts hin tyX6_ok nmX6 hown hK hS h.2.1 (by omega) rfl 2 (by decide) hlink rfl rfl rfl rfl (Nat.le_of_ble_eq_true rfl) hdg (fun H1 locs1 e oq hS => kk H1 locs1 (hR.putS hi (a := g_stA G i + 1) (by omega) (by omega) oq ?_) hS)
  exact ⟨g_at.kept h.1 (oq _ (by omega)), e, g_at.kept h.2.2.1 (oq _ (by omega)), (by obtain ⟨f, hf, hq⟩ := h.2.2.2.1; exact ⟨f, hf, g_at.kept hq (oq _ (by omega))⟩), g_at.kept h.2.2.2.2.1 (oq _ (by omega)), (by obtain ⟨f, hf, hq⟩ := h.2.2.2.2.2.1; exact ⟨f, hf, g_at.kept hq (oq _ (by omega))⟩), g_at.kept h.2.2.2.2.2.2 (oq _ (by omega))⟩
theorem g_p6_3 (hx : p.tables.exec = Jvm.exec) (hb : c.code = cc) {own : String} {index i : Nat} {σ : gSt} {x : Int32} {Ts : List Cond} (hts : ∀ w ∈ Ts, w.before args s = true) (hin : ∀ w ∈ u_ws RX6 TX6 5, w ∈ Ts) (hown : s.vm.findClass own = some m.cls) (hK : g_K G s) (hS : va_S (g_A G) H0 H locs) (hR : g_R G E (g_setS μ i σ) H) (hi : i < 7) (hlink : (Cond.fieldLink own index "GlassRacks$Settings" "fragility" "I").before args s = true) (hdg : decode cc pc = .ok (.putfield index, 3)) (kk : ∀ (H1 : Heap) (locs1 : List Loc), g_R G E (g_setS μ i (g_si σ 3 x)) H1 → va_S (g_A G) H0 H1 locs1 → W p l e R s m args below meth c H1 locs1 cells slots Q (F0 m (pc + 3) ls rest)) : W p l e R s m args below meth c H locs cells slots Q (F0 m pc ls (.int x :: .ref (g_stA G i + 1) :: rest)) := by
  have h := hR.f hi
  have b := g_stA_lo G hi
  refine g_put hx hb hts hin tyX6_ok nmX6 hown hK hS h.2.1 (by omega) rfl 3 (by decide) hlink rfl rfl rfl rfl (Nat.le_of_ble_eq_true rfl) hdg (fun H1 locs1 e oq hS => kk H1 locs1 (hR.putS hi (a := g_stA G i + 1) (by omega) (by omega) oq ?_) hS)
  exact ⟨g_at.kept h.1 (oq _ (by omega)), e, g_at.kept h.2.2.1 (oq _ (by omega)), (by obtain ⟨f, hf, hq⟩ := h.2.2.2.1; exact ⟨f, hf, g_at.kept hq (oq _ (by omega))⟩), g_at.kept h.2.2.2.2.1 (oq _ (by omega)), (by obtain ⟨f, hf, hq⟩ := h.2.2.2.2.2.1; exact ⟨f, hf, g_at.kept hq (oq _ (by omega))⟩), g_at.kept h.2.2.2.2.2.2 (oq _ (by omega))⟩
theorem g_p6_4 (hx : p.tables.exec = Jvm.exec) (hb : c.code = cc) {own : String} {index i : Nat} {σ : gSt} {x : Int32} {Ts : List Cond} (hts : ∀ w ∈ Ts, w.before args s = true) (hin : ∀ w ∈ u_ws RX6 TX6 5, w ∈ Ts) (hown : s.vm.findClass own = some m.cls) (hK : g_K G s) (hS : va_S (g_A G) H0 H locs) (hR : g_R G E (g_setS μ i σ) H) (hi : i < 7) (hlink : (Cond.fieldLink own index "GlassRacks$Settings" "turning" "I").before args s = true) (hdg : decode cc pc = .ok (.putfield index, 3)) (kk : ∀ (H1 : Heap) (locs1 : List Loc), g_R G E (g_setS μ i (g_si σ 4 x)) H1 → va_S (g_A G) H0 H1 locs1 → W p l e R s m args below meth c H1 locs1 cells slots Q (F0 m (pc + 3) ls rest)) : W p l e R s m args below meth c H locs cells slots Q (F0 m pc ls (.int x :: .ref (g_stA G i + 1) :: rest)) := by
  have h := hR.f hi
  have b := g_stA_lo G hi
  refine g_put hx hb hts hin tyX6_ok nmX6 hown hK hS h.2.1 (by omega) rfl 4 (by decide) hlink rfl rfl rfl rfl (Nat.le_of_ble_eq_true rfl) hdg (fun H1 locs1 e oq hS => kk H1 locs1 (hR.putS hi (a := g_stA G i + 1) (by omega) (by omega) oq ?_) hS)
  exact ⟨g_at.kept h.1 (oq _ (by omega)), e, g_at.kept h.2.2.1 (oq _ (by omega)), (by obtain ⟨f, hf, hq⟩ := h.2.2.2.1; exact ⟨f, hf, g_at.kept hq (oq _ (by omega))⟩), g_at.kept h.2.2.2.2.1 (oq _ (by omega)), (by obtain ⟨f, hf, hq⟩ := h.2.2.2.2.2.1; exact ⟨f, hf, g_at.kept hq (oq _ (by omega))⟩), g_at.kept h.2.2.2.2.2.2 (oq _ (by omega))⟩
theorem g_p5_1 (hx : p.tables.exec = Jvm.exec) (hb : c.code = cc) {own : String} {index i : Nat} {σ : gSt} {x : Int32} {Ts : List Cond} (hts : ∀ w ∈ Ts, w.before args s = true) (hin : ∀ w ∈ u_ws RX5 TX5 2, w ∈ Ts) (hown : s.vm.findClass own = some m.cls) (hK : g_K G s) (hS : va_S (g_A G) H0 H locs) (hR : g_R G E (g_setS μ i σ) H) (hi : i < 7) (hlink : (Cond.fieldLink own index "GlassRacks$Racks" "sheetsMade" "I").before args s = true) (hdg : decode cc pc = .ok (.putfield index, 3)) (kk : ∀ (H1 : Heap) (locs1 : List Loc), g_R G E (g_setS μ i (g_si σ 12 x)) H1 → va_S (g_A G) H0 H1 locs1 → W p l e R s m args below meth c H1 locs1 cells slots Q (F0 m (pc + 3) ls rest)) : W p l e R s m args below meth c H locs cells slots Q (F0 m pc ls (.int x :: .ref (g_stA G i + 2) :: rest)) := by
  have h := hR.f hi
  have b := g_stA_lo G hi
  refine g_put hx hb hts hin tyX5_ok nmX5 hown hK hS h.2.2.1 (by omega) rfl 1 (by decide) hlink rfl rfl rfl rfl (Nat.le_of_ble_eq_true rfl) hdg (fun H1 locs1 e oq hS => kk H1 locs1 (hR.putS hi (a := g_stA G i + 2) (by omega) (by omega) oq ?_) hS)
  exact ⟨g_at.kept h.1 (oq _ (by omega)), g_at.kept h.2.1 (oq _ (by omega)), e, (by obtain ⟨f, hf, hq⟩ := h.2.2.2.1; exact ⟨f, hf, g_at.kept hq (oq _ (by omega))⟩), g_at.kept h.2.2.2.2.1 (oq _ (by omega)), (by obtain ⟨f, hf, hq⟩ := h.2.2.2.2.2.1; exact ⟨f, hf, g_at.kept hq (oq _ (by omega))⟩), g_at.kept h.2.2.2.2.2.2 (oq _ (by omega))⟩
theorem g_p4_1 (hx : p.tables.exec = Jvm.exec) (hb : c.code = cc) {own : String} {index i : Nat} {σ : gSt} {x : Int32} {Ts : List Cond} (hts : ∀ w ∈ Ts, w.before args s = true) (hin : ∀ w ∈ u_ws RX4 TX4 2, w ∈ Ts) (hown : s.vm.findClass own = some m.cls) (hK : g_K G s) (hS : va_S (g_A G) H0 H locs) (hR : g_R G E (g_setS μ i σ) H) (hi : i < 7) (hlink : (Cond.fieldLink own index "GlassRacks$Orders" "taken" "I").before args s = true) (hdg : decode cc pc = .ok (.putfield index, 3)) (kk : ∀ (H1 : Heap) (locs1 : List Loc), g_R G E (g_setS μ i (g_si σ 13 x)) H1 → va_S (g_A G) H0 H1 locs1 → W p l e R s m args below meth c H1 locs1 cells slots Q (F0 m (pc + 3) ls rest)) : W p l e R s m args below meth c H locs cells slots Q (F0 m pc ls (.int x :: .ref (g_stA G i + 4) :: rest)) := by
  have h := hR.f hi
  have b := g_stA_lo G hi
  refine g_put hx hb hts hin tyX4_ok nmX4 hown hK hS h.2.2.2.2.1 (by omega) rfl 1 (by decide) hlink rfl rfl rfl rfl (Nat.le_of_ble_eq_true rfl) hdg (fun H1 locs1 e oq hS => kk H1 locs1 (hR.putS hi (a := g_stA G i + 4) (by omega) (by omega) oq ?_) hS)
  exact ⟨g_at.kept h.1 (oq _ (by omega)), g_at.kept h.2.1 (oq _ (by omega)), g_at.kept h.2.2.1 (oq _ (by omega)), (by obtain ⟨f, hf, hq⟩ := h.2.2.2.1; exact ⟨f, hf, g_at.kept hq (oq _ (by omega))⟩), e, (by obtain ⟨f, hf, hq⟩ := h.2.2.2.2.2.1; exact ⟨f, hf, g_at.kept hq (oq _ (by omega))⟩), g_at.kept h.2.2.2.2.2.2 (oq _ (by omega))⟩
theorem g_p1_0 (hx : p.tables.exec = Jvm.exec) (hb : c.code = cc) {own : String} {index i : Nat} {σ : gSt} {x : Int32} {Ts : List Cond} (hts : ∀ w ∈ Ts, w.before args s = true) (hin : ∀ w ∈ u_ws RX1 TX1 10, w ∈ Ts) (hown : s.vm.findClass own = some m.cls) (hK : g_K G s) (hS : va_S (g_A G) H0 H locs) (hR : g_R G E (g_setS μ i σ) H) (hi : i < 7) (hz : x = 0 ∨ x = 1) (hlink : (Cond.fieldLink own index "GlassRacks$Cutting" "turned" "Z").before args s = true) (hdg : decode cc pc = .ok (.putfield index, 3)) (kk : ∀ (H1 : Heap) (locs1 : List Loc), g_R G E (g_setS μ i (g_si σ 14 x)) H1 → va_S (g_A G) H0 H1 locs1 → W p l e R s m args below meth c H1 locs1 cells slots Q (F0 m (pc + 3) ls rest)) : W p l e R s m args below meth c H locs cells slots Q (F0 m pc ls (.int x :: .ref (g_stA G i + 6) :: rest)) := by
  have h := hR.f hi
  have b := g_stA_lo G hi
  refine g_put hx hb hts hin tyX1_ok nmX1 hown hK hS h.2.2.2.2.2.2 (by omega) rfl 0 (by decide) hlink rfl rfl (by rcases hz with rfl | rfl <;> rfl) (by rcases hz with rfl | rfl <;> rfl) (Nat.le_of_ble_eq_true rfl) hdg (fun H1 locs1 e oq hS => kk H1 locs1 (hR.putS hi (a := g_stA G i + 6) (by omega) (by omega) oq ?_) hS)
  exact ⟨g_at.kept h.1 (oq _ (by omega)), g_at.kept h.2.1 (oq _ (by omega)), g_at.kept h.2.2.1 (oq _ (by omega)), (by obtain ⟨f, hf, hq⟩ := h.2.2.2.1; exact ⟨f, hf, g_at.kept hq (oq _ (by omega))⟩), g_at.kept h.2.2.2.2.1 (oq _ (by omega)), (by obtain ⟨f, hf, hq⟩ := h.2.2.2.2.2.1; exact ⟨f, hf, g_at.kept hq (oq _ (by omega))⟩), e⟩
theorem g_p1_1 (hx : p.tables.exec = Jvm.exec) (hb : c.code = cc) {own : String} {index i : Nat} {σ : gSt} {x : Int32} {Ts : List Cond} (hts : ∀ w ∈ Ts, w.before args s = true) (hin : ∀ w ∈ u_ws RX1 TX1 10, w ∈ Ts) (hown : s.vm.findClass own = some m.cls) (hK : g_K G s) (hS : va_S (g_A G) H0 H locs) (hR : g_R G E (g_setS μ i σ) H) (hi : i < 7) (hlink : (Cond.fieldLink own index "GlassRacks$Cutting" "besideWidth" "I").before args s = true) (hdg : decode cc pc = .ok (.putfield index, 3)) (kk : ∀ (H1 : Heap) (locs1 : List Loc), g_R G E (g_setS μ i (g_si σ 15 x)) H1 → va_S (g_A G) H0 H1 locs1 → W p l e R s m args below meth c H1 locs1 cells slots Q (F0 m (pc + 3) ls rest)) : W p l e R s m args below meth c H locs cells slots Q (F0 m pc ls (.int x :: .ref (g_stA G i + 6) :: rest)) := by
  have h := hR.f hi
  have b := g_stA_lo G hi
  refine g_put hx hb hts hin tyX1_ok nmX1 hown hK hS h.2.2.2.2.2.2 (by omega) rfl 1 (by decide) hlink rfl rfl rfl rfl (Nat.le_of_ble_eq_true rfl) hdg (fun H1 locs1 e oq hS => kk H1 locs1 (hR.putS hi (a := g_stA G i + 6) (by omega) (by omega) oq ?_) hS)
  exact ⟨g_at.kept h.1 (oq _ (by omega)), g_at.kept h.2.1 (oq _ (by omega)), g_at.kept h.2.2.1 (oq _ (by omega)), (by obtain ⟨f, hf, hq⟩ := h.2.2.2.1; exact ⟨f, hf, g_at.kept hq (oq _ (by omega))⟩), g_at.kept h.2.2.2.2.1 (oq _ (by omega)), (by obtain ⟨f, hf, hq⟩ := h.2.2.2.2.2.1; exact ⟨f, hf, g_at.kept hq (oq _ (by omega))⟩), e⟩
theorem g_p1_2 (hx : p.tables.exec = Jvm.exec) (hb : c.code = cc) {own : String} {index i : Nat} {σ : gSt} {x : Int32} {Ts : List Cond} (hts : ∀ w ∈ Ts, w.before args s = true) (hin : ∀ w ∈ u_ws RX1 TX1 10, w ∈ Ts) (hown : s.vm.findClass own = some m.cls) (hK : g_K G s) (hS : va_S (g_A G) H0 H locs) (hR : g_R G E (g_setS μ i σ) H) (hi : i < 7) (hlink : (Cond.fieldLink own index "GlassRacks$Cutting" "besideHeight" "I").before args s = true) (hdg : decode cc pc = .ok (.putfield index, 3)) (kk : ∀ (H1 : Heap) (locs1 : List Loc), g_R G E (g_setS μ i (g_si σ 16 x)) H1 → va_S (g_A G) H0 H1 locs1 → W p l e R s m args below meth c H1 locs1 cells slots Q (F0 m (pc + 3) ls rest)) : W p l e R s m args below meth c H locs cells slots Q (F0 m pc ls (.int x :: .ref (g_stA G i + 6) :: rest)) := by
  have h := hR.f hi
  have b := g_stA_lo G hi
  refine g_put hx hb hts hin tyX1_ok nmX1 hown hK hS h.2.2.2.2.2.2 (by omega) rfl 2 (by decide) hlink rfl rfl rfl rfl (Nat.le_of_ble_eq_true rfl) hdg (fun H1 locs1 e oq hS => kk H1 locs1 (hR.putS hi (a := g_stA G i + 6) (by omega) (by omega) oq ?_) hS)
  exact ⟨g_at.kept h.1 (oq _ (by omega)), g_at.kept h.2.1 (oq _ (by omega)), g_at.kept h.2.2.1 (oq _ (by omega)), (by obtain ⟨f, hf, hq⟩ := h.2.2.2.1; exact ⟨f, hf, g_at.kept hq (oq _ (by omega))⟩), g_at.kept h.2.2.2.2.1 (oq _ (by omega)), (by obtain ⟨f, hf, hq⟩ := h.2.2.2.2.2.1; exact ⟨f, hf, g_at.kept hq (oq _ (by omega))⟩), e⟩
theorem g_p1_3 (hx : p.tables.exec = Jvm.exec) (hb : c.code = cc) {own : String} {index i : Nat} {σ : gSt} {x : Int32} {Ts : List Cond} (hts : ∀ w ∈ Ts, w.before args s = true) (hin : ∀ w ∈ u_ws RX1 TX1 10, w ∈ Ts) (hown : s.vm.findClass own = some m.cls) (hK : g_K G s) (hS : va_S (g_A G) H0 H locs) (hR : g_R G E (g_setS μ i σ) H) (hi : i < 7) (hlink : (Cond.fieldLink own index "GlassRacks$Cutting" "besideArea" "I").before args s = true) (hdg : decode cc pc = .ok (.putfield index, 3)) (kk : ∀ (H1 : Heap) (locs1 : List Loc), g_R G E (g_setS μ i (g_si σ 17 x)) H1 → va_S (g_A G) H0 H1 locs1 → W p l e R s m args below meth c H1 locs1 cells slots Q (F0 m (pc + 3) ls rest)) : W p l e R s m args below meth c H locs cells slots Q (F0 m pc ls (.int x :: .ref (g_stA G i + 6) :: rest)) := by
  have h := hR.f hi
  have b := g_stA_lo G hi
  refine g_put hx hb hts hin tyX1_ok nmX1 hown hK hS h.2.2.2.2.2.2 (by omega) rfl 3 (by decide) hlink rfl rfl rfl rfl (Nat.le_of_ble_eq_true rfl) hdg (fun H1 locs1 e oq hS => kk H1 locs1 (hR.putS hi (a := g_stA G i + 6) (by omega) (by omega) oq ?_) hS)
  exact ⟨g_at.kept h.1 (oq _ (by omega)), g_at.kept h.2.1 (oq _ (by omega)), g_at.kept h.2.2.1 (oq _ (by omega)), (by obtain ⟨f, hf, hq⟩ := h.2.2.2.1; exact ⟨f, hf, g_at.kept hq (oq _ (by omega))⟩), g_at.kept h.2.2.2.2.1 (oq _ (by omega)), (by obtain ⟨f, hf, hq⟩ := h.2.2.2.2.2.1; exact ⟨f, hf, g_at.kept hq (oq _ (by omega))⟩), e⟩
theorem g_p1_4 (hx : p.tables.exec = Jvm.exec) (hb : c.code = cc) {own : String} {index i : Nat} {σ : gSt} {x : Int32} {Ts : List Cond} (hts : ∀ w ∈ Ts, w.before args s = true) (hin : ∀ w ∈ u_ws RX1 TX1 10, w ∈ Ts) (hown : s.vm.findClass own = some m.cls) (hK : g_K G s) (hS : va_S (g_A G) H0 H locs) (hR : g_R G E (g_setS μ i σ) H) (hi : i < 7) (hlink : (Cond.fieldLink own index "GlassRacks$Cutting" "aboveWidth" "I").before args s = true) (hdg : decode cc pc = .ok (.putfield index, 3)) (kk : ∀ (H1 : Heap) (locs1 : List Loc), g_R G E (g_setS μ i (g_si σ 18 x)) H1 → va_S (g_A G) H0 H1 locs1 → W p l e R s m args below meth c H1 locs1 cells slots Q (F0 m (pc + 3) ls rest)) : W p l e R s m args below meth c H locs cells slots Q (F0 m pc ls (.int x :: .ref (g_stA G i + 6) :: rest)) := by
  have h := hR.f hi
  have b := g_stA_lo G hi
  refine g_put hx hb hts hin tyX1_ok nmX1 hown hK hS h.2.2.2.2.2.2 (by omega) rfl 4 (by decide) hlink rfl rfl rfl rfl (Nat.le_of_ble_eq_true rfl) hdg (fun H1 locs1 e oq hS => kk H1 locs1 (hR.putS hi (a := g_stA G i + 6) (by omega) (by omega) oq ?_) hS)
  exact ⟨g_at.kept h.1 (oq _ (by omega)), g_at.kept h.2.1 (oq _ (by omega)), g_at.kept h.2.2.1 (oq _ (by omega)), (by obtain ⟨f, hf, hq⟩ := h.2.2.2.1; exact ⟨f, hf, g_at.kept hq (oq _ (by omega))⟩), g_at.kept h.2.2.2.2.1 (oq _ (by omega)), (by obtain ⟨f, hf, hq⟩ := h.2.2.2.2.2.1; exact ⟨f, hf, g_at.kept hq (oq _ (by omega))⟩), e⟩
theorem g_p1_5 (hx : p.tables.exec = Jvm.exec) (hb : c.code = cc) {own : String} {index i : Nat} {σ : gSt} {x : Int32} {Ts : List Cond} (hts : ∀ w ∈ Ts, w.before args s = true) (hin : ∀ w ∈ u_ws RX1 TX1 10, w ∈ Ts) (hown : s.vm.findClass own = some m.cls) (hK : g_K G s) (hS : va_S (g_A G) H0 H locs) (hR : g_R G E (g_setS μ i σ) H) (hi : i < 7) (hlink : (Cond.fieldLink own index "GlassRacks$Cutting" "aboveHeight" "I").before args s = true) (hdg : decode cc pc = .ok (.putfield index, 3)) (kk : ∀ (H1 : Heap) (locs1 : List Loc), g_R G E (g_setS μ i (g_si σ 19 x)) H1 → va_S (g_A G) H0 H1 locs1 → W p l e R s m args below meth c H1 locs1 cells slots Q (F0 m (pc + 3) ls rest)) : W p l e R s m args below meth c H locs cells slots Q (F0 m pc ls (.int x :: .ref (g_stA G i + 6) :: rest)) := by
  have h := hR.f hi
  have b := g_stA_lo G hi
  refine g_put hx hb hts hin tyX1_ok nmX1 hown hK hS h.2.2.2.2.2.2 (by omega) rfl 5 (by decide) hlink rfl rfl rfl rfl (Nat.le_of_ble_eq_true rfl) hdg (fun H1 locs1 e oq hS => kk H1 locs1 (hR.putS hi (a := g_stA G i + 6) (by omega) (by omega) oq ?_) hS)
  exact ⟨g_at.kept h.1 (oq _ (by omega)), g_at.kept h.2.1 (oq _ (by omega)), g_at.kept h.2.2.1 (oq _ (by omega)), (by obtain ⟨f, hf, hq⟩ := h.2.2.2.1; exact ⟨f, hf, g_at.kept hq (oq _ (by omega))⟩), g_at.kept h.2.2.2.2.1 (oq _ (by omega)), (by obtain ⟨f, hf, hq⟩ := h.2.2.2.2.2.1; exact ⟨f, hf, g_at.kept hq (oq _ (by omega))⟩), e⟩
theorem g_p1_6 (hx : p.tables.exec = Jvm.exec) (hb : c.code = cc) {own : String} {index i : Nat} {σ : gSt} {x : Int32} {Ts : List Cond} (hts : ∀ w ∈ Ts, w.before args s = true) (hin : ∀ w ∈ u_ws RX1 TX1 10, w ∈ Ts) (hown : s.vm.findClass own = some m.cls) (hK : g_K G s) (hS : va_S (g_A G) H0 H locs) (hR : g_R G E (g_setS μ i σ) H) (hi : i < 7) (hlink : (Cond.fieldLink own index "GlassRacks$Cutting" "aboveArea" "I").before args s = true) (hdg : decode cc pc = .ok (.putfield index, 3)) (kk : ∀ (H1 : Heap) (locs1 : List Loc), g_R G E (g_setS μ i (g_si σ 20 x)) H1 → va_S (g_A G) H0 H1 locs1 → W p l e R s m args below meth c H1 locs1 cells slots Q (F0 m (pc + 3) ls rest)) : W p l e R s m args below meth c H locs cells slots Q (F0 m pc ls (.int x :: .ref (g_stA G i + 6) :: rest)) := by
  have h := hR.f hi
  have b := g_stA_lo G hi
  refine g_put hx hb hts hin tyX1_ok nmX1 hown hK hS h.2.2.2.2.2.2 (by omega) rfl 6 (by decide) hlink rfl rfl rfl rfl (Nat.le_of_ble_eq_true rfl) hdg (fun H1 locs1 e oq hS => kk H1 locs1 (hR.putS hi (a := g_stA G i + 6) (by omega) (by omega) oq ?_) hS)
  exact ⟨g_at.kept h.1 (oq _ (by omega)), g_at.kept h.2.1 (oq _ (by omega)), g_at.kept h.2.2.1 (oq _ (by omega)), (by obtain ⟨f, hf, hq⟩ := h.2.2.2.1; exact ⟨f, hf, g_at.kept hq (oq _ (by omega))⟩), g_at.kept h.2.2.2.2.1 (oq _ (by omega)), (by obtain ⟨f, hf, hq⟩ := h.2.2.2.2.2.1; exact ⟨f, hf, g_at.kept hq (oq _ (by omega))⟩), e⟩
theorem g_p1_7 (hx : p.tables.exec = Jvm.exec) (hb : c.code = cc) {own : String} {index i : Nat} {σ : gSt} {x : Int32} {Ts : List Cond} (hts : ∀ w ∈ Ts, w.before args s = true) (hin : ∀ w ∈ u_ws RX1 TX1 10, w ∈ Ts) (hown : s.vm.findClass own = some m.cls) (hK : g_K G s) (hS : va_S (g_A G) H0 H locs) (hR : g_R G E (g_setS μ i σ) H) (hi : i < 7) (hlink : (Cond.fieldLink own index "GlassRacks$Cutting" "keptArea" "I").before args s = true) (hdg : decode cc pc = .ok (.putfield index, 3)) (kk : ∀ (H1 : Heap) (locs1 : List Loc), g_R G E (g_setS μ i (g_si σ 21 x)) H1 → va_S (g_A G) H0 H1 locs1 → W p l e R s m args below meth c H1 locs1 cells slots Q (F0 m (pc + 3) ls rest)) : W p l e R s m args below meth c H locs cells slots Q (F0 m pc ls (.int x :: .ref (g_stA G i + 6) :: rest)) := by
  have h := hR.f hi
  have b := g_stA_lo G hi
  refine g_put hx hb hts hin tyX1_ok nmX1 hown hK hS h.2.2.2.2.2.2 (by omega) rfl 7 (by decide) hlink rfl rfl rfl rfl (Nat.le_of_ble_eq_true rfl) hdg (fun H1 locs1 e oq hS => kk H1 locs1 (hR.putS hi (a := g_stA G i + 6) (by omega) (by omega) oq ?_) hS)
  exact ⟨g_at.kept h.1 (oq _ (by omega)), g_at.kept h.2.1 (oq _ (by omega)), g_at.kept h.2.2.1 (oq _ (by omega)), (by obtain ⟨f, hf, hq⟩ := h.2.2.2.1; exact ⟨f, hf, g_at.kept hq (oq _ (by omega))⟩), g_at.kept h.2.2.2.2.1 (oq _ (by omega)), (by obtain ⟨f, hf, hq⟩ := h.2.2.2.2.2.1; exact ⟨f, hf, g_at.kept hq (oq _ (by omega))⟩), e⟩
theorem g_p1_8 (hx : p.tables.exec = Jvm.exec) (hb : c.code = cc) {own : String} {index i : Nat} {σ : gSt} {x : Int32} {Ts : List Cond} (hts : ∀ w ∈ Ts, w.before args s = true) (hin : ∀ w ∈ u_ws RX1 TX1 10, w ∈ Ts) (hown : s.vm.findClass own = some m.cls) (hK : g_K G s) (hS : va_S (g_A G) H0 H locs) (hR : g_R G E (g_setS μ i σ) H) (hi : i < 7) (hlink : (Cond.fieldLink own index "GlassRacks$Cutting" "scrapArea" "I").before args s = true) (hdg : decode cc pc = .ok (.putfield index, 3)) (kk : ∀ (H1 : Heap) (locs1 : List Loc), g_R G E (g_setS μ i (g_si σ 22 x)) H1 → va_S (g_A G) H0 H1 locs1 → W p l e R s m args below meth c H1 locs1 cells slots Q (F0 m (pc + 3) ls rest)) : W p l e R s m args below meth c H locs cells slots Q (F0 m pc ls (.int x :: .ref (g_stA G i + 6) :: rest)) := by
  have h := hR.f hi
  have b := g_stA_lo G hi
  refine g_put hx hb hts hin tyX1_ok nmX1 hown hK hS h.2.2.2.2.2.2 (by omega) rfl 8 (by decide) hlink rfl rfl rfl rfl (Nat.le_of_ble_eq_true rfl) hdg (fun H1 locs1 e oq hS => kk H1 locs1 (hR.putS hi (a := g_stA G i + 6) (by omega) (by omega) oq ?_) hS)
  exact ⟨g_at.kept h.1 (oq _ (by omega)), g_at.kept h.2.1 (oq _ (by omega)), g_at.kept h.2.2.1 (oq _ (by omega)), (by obtain ⟨f, hf, hq⟩ := h.2.2.2.1; exact ⟨f, hf, g_at.kept hq (oq _ (by omega))⟩), g_at.kept h.2.2.2.2.1 (oq _ (by omega)), (by obtain ⟨f, hf, hq⟩ := h.2.2.2.2.2.1; exact ⟨f, hf, g_at.kept hq (oq _ (by omega))⟩), e⟩
theorem g_p1_9 (hx : p.tables.exec = Jvm.exec) (hb : c.code = cc) {own : String} {index i : Nat} {σ : gSt} {x : Int32} {Ts : List Cond} (hts : ∀ w ∈ Ts, w.before args s = true) (hin : ∀ w ∈ u_ws RX1 TX1 10, w ∈ Ts) (hown : s.vm.findClass own = some m.cls) (hK : g_K G s) (hS : va_S (g_A G) H0 H locs) (hR : g_R G E (g_setS μ i σ) H) (hi : i < 7) (hlink : (Cond.fieldLink own index "GlassRacks$Cutting" "lostArea" "I").before args s = true) (hdg : decode cc pc = .ok (.putfield index, 3)) (kk : ∀ (H1 : Heap) (locs1 : List Loc), g_R G E (g_setS μ i (g_si σ 23 x)) H1 → va_S (g_A G) H0 H1 locs1 → W p l e R s m args below meth c H1 locs1 cells slots Q (F0 m (pc + 3) ls rest)) : W p l e R s m args below meth c H locs cells slots Q (F0 m pc ls (.int x :: .ref (g_stA G i + 6) :: rest)) := by
  have h := hR.f hi
  have b := g_stA_lo G hi
  refine g_put hx hb hts hin tyX1_ok nmX1 hown hK hS h.2.2.2.2.2.2 (by omega) rfl 9 (by decide) hlink rfl rfl rfl rfl (Nat.le_of_ble_eq_true rfl) hdg (fun H1 locs1 e oq hS => kk H1 locs1 (hR.putS hi (a := g_stA G i + 6) (by omega) (by omega) oq ?_) hS)
  exact ⟨g_at.kept h.1 (oq _ (by omega)), g_at.kept h.2.1 (oq _ (by omega)), g_at.kept h.2.2.1 (oq _ (by omega)), (by obtain ⟨f, hf, hq⟩ := h.2.2.2.1; exact ⟨f, hf, g_at.kept hq (oq _ (by omega))⟩), g_at.kept h.2.2.2.2.1 (oq _ (by omega)), (by obtain ⟨f, hf, hq⟩ := h.2.2.2.2.2.1; exact ⟨f, hf, g_at.kept hq (oq _ (by omega))⟩), e⟩
theorem g_p0_1 (hx : p.tables.exec = Jvm.exec) (hb : c.code = cc) {own : String} {index : Nat} {τ : gTx} {x : Int32} {Ts : List Cond} (hts : ∀ w ∈ Ts, w.before args s = true) (hin : ∀ w ∈ u_ws RX0 TX0 12, w ∈ Ts) (hown : s.vm.findClass own = some m.cls) (hK : g_K G s) (hS : va_S (g_A G) H0 H locs) (hR : g_R G E (g_setT μ τ) H) (hlink : (Cond.fieldLink own index "GlassRacks$CommandText" "length" "I").before args s = true) (hdg : decode cc pc = .ok (.putfield index, 3)) (kk : ∀ (H1 : Heap) (locs1 : List Loc), g_R G E (g_setT μ (g_ti τ 1 x)) H1 → va_S (g_A G) H0 H1 locs1 → W p l e R s m args below meth c H1 locs1 cells slots Q (F0 m (pc + 3) ls rest)) : W p l e R s m args below meth c H locs cells slots Q (F0 m pc ls (.int x :: .ref (G.2.2 + 52) :: rest)) := by
  have h : g_Tp G τ H := hR.2.2.1
  refine g_put hx hb hts hin tyX0_ok nmX0 hown hK hS h.1 (by show G.2.2 ≤ G.2.2 + 52; omega) rfl 1 (by decide) hlink rfl rfl rfl rfl (Nat.le_of_ble_eq_true rfl) hdg (fun H1 locs1 e oq hS => kk H1 locs1 (hR.putT (Or.inl rfl) oq ?_) hS)
  exact ⟨e, g_at.kept h.2 (oq _ (by omega))⟩
theorem g_p0_2 (hx : p.tables.exec = Jvm.exec) (hb : c.code = cc) {own : String} {index : Nat} {τ : gTx} {x : Int32} {Ts : List Cond} (hts : ∀ w ∈ Ts, w.before args s = true) (hin : ∀ w ∈ u_ws RX0 TX0 12, w ∈ Ts) (hown : s.vm.findClass own = some m.cls) (hK : g_K G s) (hS : va_S (g_A G) H0 H locs) (hR : g_R G E (g_setT μ τ) H) (hlink : (Cond.fieldLink own index "GlassRacks$CommandText" "position" "I").before args s = true) (hdg : decode cc pc = .ok (.putfield index, 3)) (kk : ∀ (H1 : Heap) (locs1 : List Loc), g_R G E (g_setT μ (g_ti τ 2 x)) H1 → va_S (g_A G) H0 H1 locs1 → W p l e R s m args below meth c H1 locs1 cells slots Q (F0 m (pc + 3) ls rest)) : W p l e R s m args below meth c H locs cells slots Q (F0 m pc ls (.int x :: .ref (G.2.2 + 52) :: rest)) := by
  have h : g_Tp G τ H := hR.2.2.1
  refine g_put hx hb hts hin tyX0_ok nmX0 hown hK hS h.1 (by show G.2.2 ≤ G.2.2 + 52; omega) rfl 2 (by decide) hlink rfl rfl rfl rfl (Nat.le_of_ble_eq_true rfl) hdg (fun H1 locs1 e oq hS => kk H1 locs1 (hR.putT (Or.inl rfl) oq ?_) hS)
  exact ⟨e, g_at.kept h.2 (oq _ (by omega))⟩
theorem g_p0_3 (hx : p.tables.exec = Jvm.exec) (hb : c.code = cc) {own : String} {index : Nat} {τ : gTx} {x : Int32} {Ts : List Cond} (hts : ∀ w ∈ Ts, w.before args s = true) (hin : ∀ w ∈ u_ws RX0 TX0 12, w ∈ Ts) (hown : s.vm.findClass own = some m.cls) (hK : g_K G s) (hS : va_S (g_A G) H0 H locs) (hR : g_R G E (g_setT μ τ) H) (hz : x = 0 ∨ x = 1) (hlink : (Cond.fieldLink own index "GlassRacks$CommandText" "faulty" "Z").before args s = true) (hdg : decode cc pc = .ok (.putfield index, 3)) (kk : ∀ (H1 : Heap) (locs1 : List Loc), g_R G E (g_setT μ (g_ti τ 3 x)) H1 → va_S (g_A G) H0 H1 locs1 → W p l e R s m args below meth c H1 locs1 cells slots Q (F0 m (pc + 3) ls rest)) : W p l e R s m args below meth c H locs cells slots Q (F0 m pc ls (.int x :: .ref (G.2.2 + 52) :: rest)) := by
  have h : g_Tp G τ H := hR.2.2.1
  refine g_put hx hb hts hin tyX0_ok nmX0 hown hK hS h.1 (by show G.2.2 ≤ G.2.2 + 52; omega) rfl 3 (by decide) hlink rfl rfl (by rcases hz with rfl | rfl <;> rfl) (by rcases hz with rfl | rfl <;> rfl) (Nat.le_of_ble_eq_true rfl) hdg (fun H1 locs1 e oq hS => kk H1 locs1 (hR.putT (Or.inl rfl) oq ?_) hS)
  exact ⟨e, g_at.kept h.2 (oq _ (by omega))⟩
theorem g_p0_4 (hx : p.tables.exec = Jvm.exec) (hb : c.code = cc) {own : String} {index : Nat} {τ : gTx} {x : Int32} {Ts : List Cond} (hts : ∀ w ∈ Ts, w.before args s = true) (hin : ∀ w ∈ u_ws RX0 TX0 12, w ∈ Ts) (hown : s.vm.findClass own = some m.cls) (hK : g_K G s) (hS : va_S (g_A G) H0 H locs) (hR : g_R G E (g_setT μ τ) H) (hlink : (Cond.fieldLink own index "GlassRacks$CommandText" "command" "I").before args s = true) (hdg : decode cc pc = .ok (.putfield index, 3)) (kk : ∀ (H1 : Heap) (locs1 : List Loc), g_R G E (g_setT μ (g_ti τ 4 x)) H1 → va_S (g_A G) H0 H1 locs1 → W p l e R s m args below meth c H1 locs1 cells slots Q (F0 m (pc + 3) ls rest)) : W p l e R s m args below meth c H locs cells slots Q (F0 m pc ls (.int x :: .ref (G.2.2 + 52) :: rest)) := by
  have h : g_Tp G τ H := hR.2.2.1
  refine g_put hx hb hts hin tyX0_ok nmX0 hown hK hS h.1 (by show G.2.2 ≤ G.2.2 + 52; omega) rfl 4 (by decide) hlink rfl rfl rfl rfl (Nat.le_of_ble_eq_true rfl) hdg (fun H1 locs1 e oq hS => kk H1 locs1 (hR.putT (Or.inl rfl) oq ?_) hS)
  exact ⟨e, g_at.kept h.2 (oq _ (by omega))⟩
theorem g_p0_5 (hx : p.tables.exec = Jvm.exec) (hb : c.code = cc) {own : String} {index : Nat} {τ : gTx} {x : Int32} {Ts : List Cond} (hts : ∀ w ∈ Ts, w.before args s = true) (hin : ∀ w ∈ u_ws RX0 TX0 12, w ∈ Ts) (hown : s.vm.findClass own = some m.cls) (hK : g_K G s) (hS : va_S (g_A G) H0 H locs) (hR : g_R G E (g_setT μ τ) H) (hlink : (Cond.fieldLink own index "GlassRacks$CommandText" "rack" "I").before args s = true) (hdg : decode cc pc = .ok (.putfield index, 3)) (kk : ∀ (H1 : Heap) (locs1 : List Loc), g_R G E (g_setT μ (g_ti τ 5 x)) H1 → va_S (g_A G) H0 H1 locs1 → W p l e R s m args below meth c H1 locs1 cells slots Q (F0 m (pc + 3) ls rest)) : W p l e R s m args below meth c H locs cells slots Q (F0 m pc ls (.int x :: .ref (G.2.2 + 52) :: rest)) := by
  have h : g_Tp G τ H := hR.2.2.1
  refine g_put hx hb hts hin tyX0_ok nmX0 hown hK hS h.1 (by show G.2.2 ≤ G.2.2 + 52; omega) rfl 5 (by decide) hlink rfl rfl rfl rfl (Nat.le_of_ble_eq_true rfl) hdg (fun H1 locs1 e oq hS => kk H1 locs1 (hR.putT (Or.inl rfl) oq ?_) hS)
  exact ⟨e, g_at.kept h.2 (oq _ (by omega))⟩
theorem g_p0_6 (hx : p.tables.exec = Jvm.exec) (hb : c.code = cc) {own : String} {index : Nat} {τ : gTx} {x : Int32} {Ts : List Cond} (hts : ∀ w ∈ Ts, w.before args s = true) (hin : ∀ w ∈ u_ws RX0 TX0 12, w ∈ Ts) (hown : s.vm.findClass own = some m.cls) (hK : g_K G s) (hS : va_S (g_A G) H0 H locs) (hR : g_R G E (g_setT μ τ) H) (hlink : (Cond.fieldLink own index "GlassRacks$CommandText" "sort" "I").before args s = true) (hdg : decode cc pc = .ok (.putfield index, 3)) (kk : ∀ (H1 : Heap) (locs1 : List Loc), g_R G E (g_setT μ (g_ti τ 6 x)) H1 → va_S (g_A G) H0 H1 locs1 → W p l e R s m args below meth c H1 locs1 cells slots Q (F0 m (pc + 3) ls rest)) : W p l e R s m args below meth c H locs cells slots Q (F0 m pc ls (.int x :: .ref (G.2.2 + 52) :: rest)) := by
  have h : g_Tp G τ H := hR.2.2.1
  refine g_put hx hb hts hin tyX0_ok nmX0 hown hK hS h.1 (by show G.2.2 ≤ G.2.2 + 52; omega) rfl 6 (by decide) hlink rfl rfl rfl rfl (Nat.le_of_ble_eq_true rfl) hdg (fun H1 locs1 e oq hS => kk H1 locs1 (hR.putT (Or.inl rfl) oq ?_) hS)
  exact ⟨e, g_at.kept h.2 (oq _ (by omega))⟩
theorem g_p0_7 (hx : p.tables.exec = Jvm.exec) (hb : c.code = cc) {own : String} {index : Nat} {τ : gTx} {x : Int32} {Ts : List Cond} (hts : ∀ w ∈ Ts, w.before args s = true) (hin : ∀ w ∈ u_ws RX0 TX0 12, w ∈ Ts) (hown : s.vm.findClass own = some m.cls) (hK : g_K G s) (hS : va_S (g_A G) H0 H locs) (hR : g_R G E (g_setT μ τ) H) (hlink : (Cond.fieldLink own index "GlassRacks$CommandText" "width" "I").before args s = true) (hdg : decode cc pc = .ok (.putfield index, 3)) (kk : ∀ (H1 : Heap) (locs1 : List Loc), g_R G E (g_setT μ (g_ti τ 7 x)) H1 → va_S (g_A G) H0 H1 locs1 → W p l e R s m args below meth c H1 locs1 cells slots Q (F0 m (pc + 3) ls rest)) : W p l e R s m args below meth c H locs cells slots Q (F0 m pc ls (.int x :: .ref (G.2.2 + 52) :: rest)) := by
  have h : g_Tp G τ H := hR.2.2.1
  refine g_put hx hb hts hin tyX0_ok nmX0 hown hK hS h.1 (by show G.2.2 ≤ G.2.2 + 52; omega) rfl 7 (by decide) hlink rfl rfl rfl rfl (Nat.le_of_ble_eq_true rfl) hdg (fun H1 locs1 e oq hS => kk H1 locs1 (hR.putT (Or.inl rfl) oq ?_) hS)
  exact ⟨e, g_at.kept h.2 (oq _ (by omega))⟩
theorem g_p0_8 (hx : p.tables.exec = Jvm.exec) (hb : c.code = cc) {own : String} {index : Nat} {τ : gTx} {x : Int32} {Ts : List Cond} (hts : ∀ w ∈ Ts, w.before args s = true) (hin : ∀ w ∈ u_ws RX0 TX0 12, w ∈ Ts) (hown : s.vm.findClass own = some m.cls) (hK : g_K G s) (hS : va_S (g_A G) H0 H locs) (hR : g_R G E (g_setT μ τ) H) (hlink : (Cond.fieldLink own index "GlassRacks$CommandText" "height" "I").before args s = true) (hdg : decode cc pc = .ok (.putfield index, 3)) (kk : ∀ (H1 : Heap) (locs1 : List Loc), g_R G E (g_setT μ (g_ti τ 8 x)) H1 → va_S (g_A G) H0 H1 locs1 → W p l e R s m args below meth c H1 locs1 cells slots Q (F0 m (pc + 3) ls rest)) : W p l e R s m args below meth c H locs cells slots Q (F0 m pc ls (.int x :: .ref (G.2.2 + 52) :: rest)) := by
  have h : g_Tp G τ H := hR.2.2.1
  refine g_put hx hb hts hin tyX0_ok nmX0 hown hK hS h.1 (by show G.2.2 ≤ G.2.2 + 52; omega) rfl 8 (by decide) hlink rfl rfl rfl rfl (Nat.le_of_ble_eq_true rfl) hdg (fun H1 locs1 e oq hS => kk H1 locs1 (hR.putT (Or.inl rfl) oq ?_) hS)
  exact ⟨e, g_at.kept h.2 (oq _ (by omega))⟩
theorem g_p0_9 (hx : p.tables.exec = Jvm.exec) (hb : c.code = cc) {own : String} {index : Nat} {τ : gTx} {x : Int32} {Ts : List Cond} (hts : ∀ w ∈ Ts, w.before args s = true) (hin : ∀ w ∈ u_ws RX0 TX0 12, w ∈ Ts) (hown : s.vm.findClass own = some m.cls) (hK : g_K G s) (hS : va_S (g_A G) H0 H locs) (hR : g_R G E (g_setT μ τ) H) (hlink : (Cond.fieldLink own index "GlassRacks$CommandText" "day" "I").before args s = true) (hdg : decode cc pc = .ok (.putfield index, 3)) (kk : ∀ (H1 : Heap) (locs1 : List Loc), g_R G E (g_setT μ (g_ti τ 9 x)) H1 → va_S (g_A G) H0 H1 locs1 → W p l e R s m args below meth c H1 locs1 cells slots Q (F0 m (pc + 3) ls rest)) : W p l e R s m args below meth c H locs cells slots Q (F0 m pc ls (.int x :: .ref (G.2.2 + 52) :: rest)) := by
  have h : g_Tp G τ H := hR.2.2.1
  refine g_put hx hb hts hin tyX0_ok nmX0 hown hK hS h.1 (by show G.2.2 ≤ G.2.2 + 52; omega) rfl 9 (by decide) hlink rfl rfl rfl rfl (Nat.le_of_ble_eq_true rfl) hdg (fun H1 locs1 e oq hS => kk H1 locs1 (hR.putT (Or.inl rfl) oq ?_) hS)
  exact ⟨e, g_at.kept h.2 (oq _ (by omega))⟩
theorem g_p0_10 (hx : p.tables.exec = Jvm.exec) (hb : c.code = cc) {own : String} {index : Nat} {τ : gTx} {x : Int32} {Ts : List Cond} (hts : ∀ w ∈ Ts, w.before args s = true) (hin : ∀ w ∈ u_ws RX0 TX0 12, w ∈ Ts) (hown : s.vm.findClass own = some m.cls) (hK : g_K G s) (hS : va_S (g_A G) H0 H locs) (hR : g_R G E (g_setT μ τ) H) (hlink : (Cond.fieldLink own index "GlassRacks$CommandText" "choice" "I").before args s = true) (hdg : decode cc pc = .ok (.putfield index, 3)) (kk : ∀ (H1 : Heap) (locs1 : List Loc), g_R G E (g_setT μ (g_ti τ 10 x)) H1 → va_S (g_A G) H0 H1 locs1 → W p l e R s m args below meth c H1 locs1 cells slots Q (F0 m (pc + 3) ls rest)) : W p l e R s m args below meth c H locs cells slots Q (F0 m pc ls (.int x :: .ref (G.2.2 + 52) :: rest)) := by
  have h : g_Tp G τ H := hR.2.2.1
  refine g_put hx hb hts hin tyX0_ok nmX0 hown hK hS h.1 (by show G.2.2 ≤ G.2.2 + 52; omega) rfl 10 (by decide) hlink rfl rfl rfl rfl (Nat.le_of_ble_eq_true rfl) hdg (fun H1 locs1 e oq hS => kk H1 locs1 (hR.putT (Or.inl rfl) oq ?_) hS)
  exact ⟨e, g_at.kept h.2 (oq _ (by omega))⟩
theorem g_p0_11 (hx : p.tables.exec = Jvm.exec) (hb : c.code = cc) {own : String} {index : Nat} {τ : gTx} {x : Int32} {Ts : List Cond} (hts : ∀ w ∈ Ts, w.before args s = true) (hin : ∀ w ∈ u_ws RX0 TX0 12, w ∈ Ts) (hown : s.vm.findClass own = some m.cls) (hK : g_K G s) (hS : va_S (g_A G) H0 H locs) (hR : g_R G E (g_setT μ τ) H) (hlink : (Cond.fieldLink own index "GlassRacks$CommandText" "days" "I").before args s = true) (hdg : decode cc pc = .ok (.putfield index, 3)) (kk : ∀ (H1 : Heap) (locs1 : List Loc), g_R G E (g_setT μ (g_ti τ 11 x)) H1 → va_S (g_A G) H0 H1 locs1 → W p l e R s m args below meth c H1 locs1 cells slots Q (F0 m (pc + 3) ls rest)) : W p l e R s m args below meth c H locs cells slots Q (F0 m pc ls (.int x :: .ref (G.2.2 + 52) :: rest)) := by
  have h : g_Tp G τ H := hR.2.2.1
  refine g_put hx hb hts hin tyX0_ok nmX0 hown hK hS h.1 (by show G.2.2 ≤ G.2.2 + 52; omega) rfl 11 (by decide) hlink rfl rfl rfl rfl (Nat.le_of_ble_eq_true rfl) hdg (fun H1 locs1 e oq hS => kk H1 locs1 (hR.putT (Or.inl rfl) oq ?_) hS)
  exact ⟨e, g_at.kept h.2 (oq _ (by omega))⟩
theorem g_p2_1 (hx : p.tables.exec = Jvm.exec) (hb : c.code = cc) {own : String} {index : Nat} {x : Int32} {Ts : List Cond} (hts : ∀ w ∈ Ts, w.before args s = true) (hin : ∀ w ∈ u_ws RX2 TX2 2, w ∈ Ts) (hown : s.vm.findClass own = some m.cls) (hK : g_K G s) (hS : va_S (g_A G) H0 H locs) (hR : g_R G E μ H) (hlink : (Cond.fieldLink own index "GlassRacks$History" "recorded" "I").before args s = true) (hdg : decode cc pc = .ok (.putfield index, 3)) (kk : ∀ (H1 : Heap) (locs1 : List Loc), g_R G E (g_hr μ x) H1 → va_S (g_A G) H0 H1 locs1 → W p l e R s m args below meth c H1 locs1 cells slots Q (F0 m (pc + 3) ls rest)) : W p l e R s m args below meth c H locs cells slots Q (F0 m pc ls (.int x :: .ref (G.2.2 + 22) :: rest)) := by
  have h := hR.2.1
  refine g_put hx hb hts hin tyX2_ok nmX2 hown hK hS h.2.1 (by show G.2.2 ≤ G.2.2 + 22; omega) rfl 1 (by decide) hlink rfl rfl rfl rfl (Nat.le_of_ble_eq_true rfl) hdg (fun H1 locs1 e oq hS => kk H1 locs1 (hR.putH (Or.inl rfl) oq ?_) hS)
  exact ⟨h.1, e, g_at.kept h.2.2 (oq _ (by omega))⟩
theorem g_p9_3 (hx : p.tables.exec = Jvm.exec) (hb : c.code = cc) {own : String} {index : Nat} {x : Int32} {Ts : List Cond} (hts : ∀ w ∈ Ts, w.before args s = true) (hin : ∀ w ∈ u_ws RX9 TX9 6, w ∈ Ts) (hown : s.vm.findClass own = some m.cls) (hK : g_K G s) (hS : va_S (g_A G) H0 H locs) (hR : g_R G E μ H) (hz : x = 0 ∨ x = 1) (hlink : (Cond.fieldLink own index "GlassRacks" "snapshotTaken" "Z").before args s = true) (hdg : decode cc pc = .ok (.putfield index, 3)) (kk : ∀ (H1 : Heap) (locs1 : List Loc), g_R G E (g_setK μ x) H1 → va_S (g_A G) H0 H1 locs1 → W p l e R s m args below meth c H1 locs1 cells slots Q (F0 m (pc + 3) ls rest)) : W p l e R s m args below meth c H locs cells slots Q (F0 m pc ls (.int x :: .ref G.2.2 :: rest)) := by
  refine g_put hx hb hts hin tyX9_ok nmX9 hown hK hS hR.2.2.2.1 (Nat.le_refl _) rfl 3 (by decide) hlink rfl rfl (by rcases hz with rfl | rfl <;> rfl) (by rcases hz with rfl | rfl <;> rfl) (Nat.le_of_ble_eq_true rfl) hdg (fun H1 locs1 e oq hS => kk H1 locs1 (hR.putK oq ?_) hS)
  exact e
/-- a place of an array of references is read -/
theorem g_aald (hx : p.tables.exec = Jvm.exec) (hb : c.code = cc) (hK : g_K G s) {t0 n : Nat} {C : String} {f : Nat → Option Nat} {i : Int32} (hat : g_at G a (g_aq (G.2.1 t0) n f) H) (ht : [(G.2.1 0, FieldType.char), (G.2.1 1, .char), (G.2.1 2, .object "GlassRacks$Sheet"), (G.2.1 3, .object "GlassRacks$Order"), (G.2.1 4, .object "GlassRacks$State")][t0]? = some (G.2.1 t0, .object C)) (hin : g_in i n) (hdg : decode cc pc = .ok (.aaload, 1))
    (kk : W p l e R s m args below meth c H locs cells slots Q (F0 m (pc + 1) ls (va_rf (f i.toNatClampNeg) :: rest))) : W p l e R s m args below meth c H locs cells slots Q (F0 m pc ls (.int i :: .ref a :: rest)) :=
  va_aldq hx hb hK.1 (g_one hat) 0 t0 rfl ht hin.vp hdg kk
theorem g_asld (hx : p.tables.exec = Jvm.exec) (hb : c.code = cc) (hK : g_K G s) {i : Nat} {σ : gSt} {j : Int32} (h : g_S G E i σ H) (hin : g_in j 32) (hdg : decode cc pc = .ok (.aaload, 1))
    (kn : σ.2.1 j.toNatClampNeg = none → W p l e R s m args below meth c H locs cells slots Q (F0 m (pc + 1) ls (.null :: rest)))
    (ks : ∀ (v : gSh) (q : Nat), σ.2.1 j.toNatClampNeg = some v → E q = some (.inl v) → W p l e R s m args below meth c H locs cells slots Q (F0 m (pc + 1) ls (.ref q :: rest))) : W p l e R s m args below meth c H locs cells slots Q (F0 m pc ls (.int j :: .ref (g_stA G i + 3) :: rest)) := by
  obtain ⟨f, hf, hq⟩ := h.2.2.2.1
  refine g_aald hx hb hK hq rfl hin hdg ?_
  have hr := hf j.toNatClampNeg hin.2
  cases hv : σ.2.1 j.toNatClampNeg with
  | none =>
    rw [hv] at hr
    rw [show f j.toNatClampNeg = none from hr]
    exact kn hv
  | some v =>
    rw [hv] at hr
    obtain ⟨q, h1, h2⟩ := hr
    rw [h1]
    exact ks v q hv h2
theorem g_aold (hx : p.tables.exec = Jvm.exec) (hb : c.code = cc) (hK : g_K G s) {i : Nat} {σ : gSt} {j : Int32} (h : g_S G E i σ H) (hin : g_in j 12) (hdg : decode cc pc = .ok (.aaload, 1))
    (kn : σ.2.2 j.toNatClampNeg = none → W p l e R s m args below meth c H locs cells slots Q (F0 m (pc + 1) ls (.null :: rest)))
    (ks : ∀ (v : gOd) (q : Nat), σ.2.2 j.toNatClampNeg = some v → E q = some (.inr v) → W p l e R s m args below meth c H locs cells slots Q (F0 m (pc + 1) ls (.ref q :: rest))) : W p l e R s m args below meth c H locs cells slots Q (F0 m pc ls (.int j :: .ref (g_stA G i + 5) :: rest)) := by
  obtain ⟨f, hf, hq⟩ := h.2.2.2.2.2.1
  refine g_aald hx hb hK hq rfl hin hdg ?_
  have hr := hf j.toNatClampNeg hin.2
  cases hv : σ.2.2 j.toNatClampNeg with
  | none =>
    rw [hv] at hr
    rw [show f j.toNatClampNeg = none from hr]
    exact kn hv
  | some v =>
    rw [hv] at hr
    obtain ⟨q, h1, h2⟩ := hr
    rw [h1]
    exact ks v q hv h2
theorem g_ahld (hx : p.tables.exec = Jvm.exec) (hb : c.code = cc) (hK : g_K G s) {j : Int32} (hR : g_R G E μ H) (hin : g_in j 4) (hdg : decode cc pc = .ok (.aaload, 1))
    (kk : μ.2.1.1 j.toNatClampNeg < 7 → W p l e R s m args below meth c H locs cells slots Q (F0 m (pc + 1) ls (.ref (g_stA G (μ.2.1.1 j.toNatClampNeg)) :: rest))) : W p l e R s m args below meth c H locs cells slots Q (F0 m pc ls (.int j :: .ref (G.2.2 + 23) :: rest)) :=
  g_aald hx hb hK hR.2.1.2.2 rfl hin hdg (kk (hR.2.1.1 _ hin.2))
/-- a place of an array of references is written -/
theorem g_aast (hx : p.tables.exec = Jvm.exec) (hb : c.code = cc) (hK : g_K G s) (hS : va_S (g_A G) H0 H locs) {t0 ci n v : Nat} {r : vw_C} {vs : List Value} {f : Nat → Option Nat} {i : Int32} (hat : g_at G a (g_aq (G.2.1 t0) n f) H) (ha : G.2.2 ≤ a) (ht : [(G.2.1 0, FieldType.char), (G.2.1 1, .char), (G.2.1 2, .object "GlassRacks$Sheet"), (G.2.1 3, .object "GlassRacks$Order"), (G.2.1 4, .object "GlassRacks$State")][t0]? = some (G.2.1 t0, .object r.1)) (hv : g_at G v (.inr (ci, vs)) H) (hc : vwCl[ci]? = some r) (hin : g_in i n) (hdg : decode cc pc = .ok (.aastore, 1))
    (kk : ∀ (H1 : Heap) (locs1 : List Loc), g_at G a (g_aq (G.2.1 t0) n (va_up f i.toNatClampNeg (some v))) H1 → (∀ q : Nat, q ≠ a → H1[q]? = H[q]?) → va_S (g_A G) H0 H1 locs1 → W p l e R s m args below meth c H1 locs1 cells slots Q (F0 m (pc + 1) ls rest)) : W p l e R s m args below meth c H locs cells slots Q (F0 m pc ls (.ref v :: .int i :: .ref a :: rest)) := by
  obtain ⟨r', hr', cellV, g1, g2, g3, -⟩ := hv
  have hcls := (hK.1.1 ci r hc).2
  obtain ⟨kA, comp, k1, k2, k3, -⟩ := (hK.1.2 t0 _ ht).2
  have hcomp : comp = G.1.1 ci := Option.some.inj (k3.symm.trans hcls.1)
  subst hcomp
  obtain ⟨kC, hkC, -⟩ := hcls.2
  refine W.aast hx hb hat (fun q h => by cases h) (fun h => by cases h) k1 k2 rfl hkC ⟨hin.1, by show _ < (arrV _ _ _).slots.size; rw [arrV_size]; exact hin.2⟩ g1 (fun q h => by rw [g3] at h; cases h) (by rw [g2]; exact hkC) (by rw [g2]; exact va_assign hcls) rfl rfl hdg fun H1 e z oq => ?_
  refine kk H1 _ ?_ oq (hS.put z oq ha)
  show H1[a]? = some (vp_cell _ _)
  rw [e]
  rw [vp_cell_q, vp_cell_q, arrV_store]
  congr 2
  funext q
  by_cases hq : q = i.toNatClampNeg
  · subst hq
    simp [updV, va_up, va_rf]
  · simp [updV, va_up, hq]
theorem g_aastN (hx : p.tables.exec = Jvm.exec) (hb : c.code = cc) (hK : g_K G s) (hS : va_S (g_A G) H0 H locs) {t0 n : Nat} {C : String} {f : Nat → Option Nat} {i : Int32} (hat : g_at G a (g_aq (G.2.1 t0) n f) H) (ha : G.2.2 ≤ a) (ht : [(G.2.1 0, FieldType.char), (G.2.1 1, .char), (G.2.1 2, .object "GlassRacks$Sheet"), (G.2.1 3, .object "GlassRacks$Order"), (G.2.1 4, .object "GlassRacks$State")][t0]? = some (G.2.1 t0, .object C)) (hin : g_in i n) (hdg : decode cc pc = .ok (.aastore, 1))
    (kk : ∀ (H1 : Heap) (locs1 : List Loc), g_at G a (g_aq (G.2.1 t0) n (va_up f i.toNatClampNeg none)) H1 → (∀ q : Nat, q ≠ a → H1[q]? = H[q]?) → va_S (g_A G) H0 H1 locs1 → W p l e R s m args below meth c H1 locs1 cells slots Q (F0 m (pc + 1) ls rest)) : W p l e R s m args below meth c H locs cells slots Q (F0 m pc ls (.null :: .int i :: .ref a :: rest)) := by
  refine va_WaastN (C := C) hx hb hat ((hK.1.2 t0 _ ht).1 n (fun j => va_rf (f j))) (fun h => by cases h) (by show ¬ (i < 0 ∨ (arrV _ _ _).slots.size ≤ _); rw [arrV_size]; exact hin.vp) rfl rfl hdg fun H1 e z oq => ?_
  refine kk H1 _ ?_ oq (hS.put z oq ha)
  show H1[a]? = some (vp_cell _ _)
  rw [e]
  rw [vp_cell_q, vp_cell_q, arrV_store]
  congr 2
  funext q
  by_cases hq : q = i.toNatClampNeg
  · subst hq
    simp [updV, va_up, va_rf]
  · simp [updV, va_up, hq]
theorem g_rel_up {α : Type} {inj : α → gOb} {f : Nat → Option Nat} {F : Nat → Option α} {n j : Nat} {r : Option Nat} {v : Option α} (hf : ∀ k, k < n → g_rel E inj (f k) (F k)) (h : g_rel E inj r v) : ∀ k, k < n → g_rel E inj (va_up f j r k) (va_up F j v k) := by
  intro k hk
  by_cases e : k = j
  · simp only [va_up, if_pos e]; exact h
  · simp only [va_up, if_neg e]; exact hf k hk
theorem g_asst (hx : p.tables.exec = Jvm.exec) (hb : c.code = cc) (hK : g_K G s) (hS : va_S (g_A G) H0 H locs) {i q : Nat} {σ : gSt} {j : Int32} {v : gSh} (hR : g_R G E (g_setS μ i σ) H) (hi : i < 7) (hE : E q = some (.inl v)) (hin : g_in j 32) (hdg : decode cc pc = .ok (.aastore, 1))
    (kk : ∀ (H1 : Heap) (locs1 : List Loc), g_R G E (g_setS μ i (g_ss σ j.toNatClampNeg (some v))) H1 → va_S (g_A G) H0 H1 locs1 → W p l e R s m args below meth c H1 locs1 cells slots Q (F0 m (pc + 1) ls rest)) : W p l e R s m args below meth c H locs cells slots Q (F0 m pc ls (.ref q :: .int j :: .ref (g_stA G i + 3) :: rest)) := by
  have h := hR.f hi
  have b := g_stA_lo G hi
  obtain ⟨f, hf, hq⟩ := h.2.2.2.1
  refine g_aast hx hb hK hS hq (by omega) rfl (hR.2.2.2.2.2 q _ hE).2 rfl hin hdg (fun H1 locs1 e oq hS => kk H1 locs1 (hR.putS hi (a := g_stA G i + 3) (by omega) (by omega) oq ?_) hS)
  exact ⟨g_at.kept h.1 (oq _ (by omega)), g_at.kept h.2.1 (oq _ (by omega)), g_at.kept h.2.2.1 (oq _ (by omega)), ⟨_, g_rel_up hf ⟨q, rfl, hE⟩, e⟩, g_at.kept h.2.2.2.2.1 (oq _ (by omega)), (by obtain ⟨f, hf, hq⟩ := h.2.2.2.2.2.1; exact ⟨f, hf, g_at.kept hq (oq _ (by omega))⟩), g_at.kept h.2.2.2.2.2.2 (oq _ (by omega))⟩
theorem g_asstN (hx : p.tables.exec = Jvm.exec) (hb : c.code = cc) (hK : g_K G s) (hS : va_S (g_A G) H0 H locs) {i : Nat} {σ : gSt} {j : Int32} (hR : g_R G E (g_setS μ i σ) H) (hi : i < 7) (hin : g_in j 32) (hdg : decode cc pc = .ok (.aastore, 1))
    (kk : ∀ (H1 : Heap) (locs1 : List Loc), g_R G E (g_setS μ i (g_ss σ j.toNatClampNeg none)) H1 → va_S (g_A G) H0 H1 locs1 → W p l e R s m args below meth c H1 locs1 cells slots Q (F0 m (pc + 1) ls rest)) : W p l e R s m args below meth c H locs cells slots Q (F0 m pc ls (.null :: .int j :: .ref (g_stA G i + 3) :: rest)) := by
  have h := hR.f hi
  have b := g_stA_lo G hi
  obtain ⟨f, hf, hq⟩ := h.2.2.2.1
  refine g_aastN hx hb hK hS hq (by omega) rfl hin hdg (fun H1 locs1 e oq hS => kk H1 locs1 (hR.putS hi (a := g_stA G i + 3) (by omega) (by omega) oq ?_) hS)
  exact ⟨g_at.kept h.1 (oq _ (by omega)), g_at.kept h.2.1 (oq _ (by omega)), g_at.kept h.2.2.1 (oq _ (by omega)), ⟨_, g_rel_up hf (v := none) rfl, e⟩, g_at.kept h.2.2.2.2.1 (oq _ (by omega)), (by obtain ⟨f, hf, hq⟩ := h.2.2.2.2.2.1; exact ⟨f, hf, g_at.kept hq (oq _ (by omega))⟩), g_at.kept h.2.2.2.2.2.2 (oq _ (by omega))⟩
theorem g_aost (hx : p.tables.exec = Jvm.exec) (hb : c.code = cc) (hK : g_K G s) (hS : va_S (g_A G) H0 H locs) {i q : Nat} {σ : gSt} {j : Int32} {v : gOd} (hR : g_R G E (g_setS μ i σ) H) (hi : i < 7) (hE : E q = some (.inr v)) (hin : g_in j 12) (hdg : decode cc pc = .ok (.aastore, 1))
    (kk : ∀ (H1 : Heap) (locs1 : List Loc), g_R G E (g_setS μ i (g_so σ j.toNatClampNeg (some v))) H1 → va_S (g_A G) H0 H1 locs1 → W p l e R s m args below meth c H1 locs1 cells slots Q (F0 m (pc + 1) ls rest)) : W p l e R s m args below meth c H locs cells slots Q (F0 m pc ls (.ref q :: .int j :: .ref (g_stA G i + 5) :: rest)) := by
  have h := hR.f hi
  have b := g_stA_lo G hi
  obtain ⟨f, hf, hq⟩ := h.2.2.2.2.2.1
  refine g_aast hx hb hK hS hq (by omega) rfl (hR.2.2.2.2.2 q _ hE).2 rfl hin hdg (fun H1 locs1 e oq hS => kk H1 locs1 (hR.putS hi (a := g_stA G i + 5) (by omega) (by omega) oq ?_) hS)
  exact ⟨g_at.kept h.1 (oq _ (by omega)), g_at.kept h.2.1 (oq _ (by omega)), g_at.kept h.2.2.1 (oq _ (by omega)), (by obtain ⟨f, hf, hq⟩ := h.2.2.2.1; exact ⟨f, hf, g_at.kept hq (oq _ (by omega))⟩), g_at.kept h.2.2.2.2.1 (oq _ (by omega)), ⟨_, g_rel_up hf ⟨q, rfl, hE⟩, e⟩, g_at.kept h.2.2.2.2.2.2 (oq _ (by omega))⟩
theorem g_aostN (hx : p.tables.exec = Jvm.exec) (hb : c.code = cc) (hK : g_K G s) (hS : va_S (g_A G) H0 H locs) {i : Nat} {σ : gSt} {j : Int32} (hR : g_R G E (g_setS μ i σ) H) (hi : i < 7) (hin : g_in j 12) (hdg : decode cc pc = .ok (.aastore, 1))
    (kk : ∀ (H1 : Heap) (locs1 : List Loc), g_R G E (g_setS μ i (g_so σ j.toNatClampNeg none)) H1 → va_S (g_A G) H0 H1 locs1 → W p l e R s m args below meth c H1 locs1 cells slots Q (F0 m (pc + 1) ls rest)) : W p l e R s m args below meth c H locs cells slots Q (F0 m pc ls (.null :: .int j :: .ref (g_stA G i + 5) :: rest)) := by
  have h := hR.f hi
  have b := g_stA_lo G hi
  obtain ⟨f, hf, hq⟩ := h.2.2.2.2.2.1
  refine g_aastN hx hb hK hS hq (by omega) rfl hin hdg (fun H1 locs1 e oq hS => kk H1 locs1 (hR.putS hi (a := g_stA G i + 5) (by omega) (by omega) oq ?_) hS)
  exact ⟨g_at.kept h.1 (oq _ (by omega)), g_at.kept h.2.1 (oq _ (by omega)), g_at.kept h.2.2.1 (oq _ (by omega)), (by obtain ⟨f, hf, hq⟩ := h.2.2.2.1; exact ⟨f, hf, g_at.kept hq (oq _ (by omega))⟩), g_at.kept h.2.2.2.2.1 (oq _ (by omega)), ⟨_, g_rel_up hf (v := none) rfl, e⟩, g_at.kept h.2.2.2.2.2.2 (oq _ (by omega))⟩
theorem g_ahst (hx : p.tables.exec = Jvm.exec) (hb : c.code = cc) (hK : g_K G s) (hS : va_S (g_A G) H0 H locs) {k : Nat} {j : Int32} (hR : g_R G E μ H) (hk : k < 7) (hin : g_in j 4) (hdg : decode cc pc = .ok (.aastore, 1))
    (kk : ∀ (H1 : Heap) (locs1 : List Loc), g_R G E (g_hs μ j.toNatClampNeg k) H1 → va_S (g_A G) H0 H1 locs1 → W p l e R s m args below meth c H1 locs1 cells slots Q (F0 m (pc + 1) ls rest)) : W p l e R s m args below meth c H locs cells slots Q (F0 m pc ls (.ref (g_stA G k) :: .int j :: .ref (G.2.2 + 23) :: rest)) := by
  have h := hR.2.1
  refine g_aast hx hb hK hS h.2.2 (by omega) rfl (hR.1 k hk).1 rfl hin hdg (fun H1 locs1 e oq hS => kk H1 locs1 (hR.putH (Or.inr rfl) oq ?_) hS)
  refine ⟨fun x hx => ?_, g_at.kept h.2.1 (oq _ (by omega)), ?_⟩
  · by_cases ex : x = j.toNatClampNeg
    · simp only [va_up, if_pos ex]; exact hk
    · simp only [va_up, if_neg ex]; exact h.1 x hx
  · refine cast (congrArg (fun z => g_at G (G.2.2 + 23) (g_aq (G.2.1 4) 4 z) H1) (funext fun x => ?_)) e
    by_cases ex : x = j.toNatClampNeg
    · simp only [va_up, if_pos ex]
    · simp only [va_up, if_neg ex]
theorem g_ilen (hx : p.tables.exec = Jvm.exec) (hb : c.code = cc) (hK : g_K G s) {t0 : Nat} {x : vp_A} {ty : FieldType} {v : Int32} (hat : g_at G a (.inl (G.2.1 t0, x)) H) (ht : [(G.2.1 0, FieldType.char), (G.2.1 1, .char), (G.2.1 2, .object "GlassRacks$Sheet"), (G.2.1 3, .object "GlassRacks$Order"), (G.2.1 4, .object "GlassRacks$State")][t0]? = some (G.2.1 t0, ty)) (hv : Int32.ofNat x.1 = v) (hdg : decode cc pc = .ok (.arraylength, 1))
    (kk : W p l e R s m args below meth c H locs cells slots Q (F0 m (pc + 1) ls (.int v :: rest))) : W p l e R s m args below meth c H locs cells slots Q (F0 m pc ls (.ref a :: rest)) :=
  va_alen hx hb hK.1 (g_one hat) 0 t0 rfl ht hv hdg kk
theorem g_aslen (hx : p.tables.exec = Jvm.exec) (hb : c.code = cc) (hK : g_K G s) {i : Nat} {σ : gSt} (h : g_S G E i σ H) (hdg : decode cc pc = .ok (.arraylength, 1))
    (kk : W p l e R s m args below meth c H locs cells slots Q (F0 m (pc + 1) ls (.int 32 :: rest))) : W p l e R s m args below meth c H locs cells slots Q (F0 m pc ls (.ref (g_stA G i + 3) :: rest)) := by
  obtain ⟨f, hf, hq⟩ := h.2.2.2.1
  exact g_ilen hx hb hK hq rfl rfl hdg kk
theorem g_aolen (hx : p.tables.exec = Jvm.exec) (hb : c.code = cc) (hK : g_K G s) {i : Nat} {σ : gSt} (h : g_S G E i σ H) (hdg : decode cc pc = .ok (.arraylength, 1))
    (kk : W p l e R s m args below meth c H locs cells slots Q (F0 m (pc + 1) ls (.int 12 :: rest))) : W p l e R s m args below meth c H locs cells slots Q (F0 m pc ls (.ref (g_stA G i + 5) :: rest)) := by
  obtain ⟨f, hf, hq⟩ := h.2.2.2.2.2.1
  exact g_ilen hx hb hK hq rfl rfl hdg kk
theorem g_ahlen (hx : p.tables.exec = Jvm.exec) (hb : c.code = cc) (hK : g_K G s) (hR : g_R G E μ H) (hdg : decode cc pc = .ok (.arraylength, 1))
    (kk : W p l e R s m args below meth c H locs cells slots Q (F0 m (pc + 1) ls (.int 4 :: rest))) : W p l e R s m args below meth c H locs cells slots Q (F0 m pc ls (.ref (G.2.2 + 23) :: rest)) :=
  g_ilen hx hb hK hR.2.1.2.2 rfl rfl hdg kk
theorem g_aclen (hx : p.tables.exec = Jvm.exec) (hb : c.code = cc) (hK : g_K G s) (hR : g_R G E μ H) (hdg : decode cc pc = .ok (.arraylength, 1))
    (kk : W p l e R s m args below meth c H locs cells slots Q (F0 m (pc + 1) ls (.int 60 :: rest))) : W p l e R s m args below meth c H locs cells slots Q (F0 m pc ls (.ref (G.2.2 + 53) :: rest)) :=
  g_ilen hx hb hK hR.2.2.1.2 rfl rfl hdg kk
theorem g_acld (hx : p.tables.exec = Jvm.exec) (hb : c.code = cc) (hK : g_K G s) {τ : gTx} {j : Int32} (hR : g_R G E (g_setT μ τ) H) (hin : g_in j 60) (hdg : decode cc pc = .ok (.caload, 1))
    (kk : W p l e R s m args below meth c H locs cells slots Q (F0 m (pc + 1) ls (.int (τ.1 j.toNatClampNeg) :: rest))) : W p l e R s m args below meth c H locs cells slots Q (F0 m pc ls (.int j :: .ref (G.2.2 + 53) :: rest)) :=
  have h : g_Tp G τ H := hR.2.2.1
  va_cald hx hb hK.1 (g_one h.2) 0 1 rfl rfl hin.vp hdg kk
theorem g_acst0 (hx : p.tables.exec = Jvm.exec) (hb : c.code = cc) (hK : g_K G s) (hS : va_S (g_A G) H0 H locs) {n : Nat} {f : Nat → Int32} {j x : Int32} (hat : g_at G a (g_ai (G.2.1 1) n f) H) (ha : G.2.2 ≤ a) (hin : g_in j n) (hdg : decode cc pc = .ok (.castore, 1))
    (kk : ∀ (H1 : Heap) (locs1 : List Loc), g_at G a (g_ai (G.2.1 1) n (va_up f j.toNatClampNeg (vp_nar .char x))) H1 → (∀ q : Nat, q ≠ a → H1[q]? = H[q]?) → va_S (g_A G) H0 H1 locs1 → W p l e R s m args below meth c H1 locs1 cells slots Q (F0 m (pc + 1) ls rest)) : W p l e R s m args below meth c H locs cells slots Q (F0 m pc ls (.int x :: .int j :: .ref a :: rest)) := by
  refine W.cast hx hb hat ((hK.1.2 1 _ rfl).1 n (fun j => .int (f j))) (fun q => by cases q) (by show ¬ (j < 0 ∨ (arrV _ _ _).slots.size ≤ _); rw [arrV_size]; exact hin.vp) rfl rfl hdg fun H1 e z oq => ?_
  refine kk H1 _ ?_ oq (hS.put z oq ha)
  show H1[a]? = some (vp_cell _ _)
  rw [e]
  rw [vp_cell_i, vp_cell_i, arrV_store]
  congr 2
  funext q
  by_cases hq : q = j.toNatClampNeg
  · subst hq
    simp [updV, va_up, vp_nar]
    try rfl
  · simp [updV, va_up, hq]
theorem g_acst (hx : p.tables.exec = Jvm.exec) (hb : c.code = cc) (hK : g_K G s) (hS : va_S (g_A G) H0 H locs) {τ : gTx} {j x : Int32} (hR : g_R G E (g_setT μ τ) H) (hin : g_in j 60) (hdg : decode cc pc = .ok (.castore, 1))
    (kk : ∀ (H1 : Heap) (locs1 : List Loc), g_R G E (g_setT μ (g_tc τ j.toNatClampNeg (vp_nar .char x))) H1 → va_S (g_A G) H0 H1 locs1 → W p l e R s m args below meth c H1 locs1 cells slots Q (F0 m (pc + 1) ls rest)) : W p l e R s m args below meth c H locs cells slots Q (F0 m pc ls (.int x :: .int j :: .ref (G.2.2 + 53) :: rest)) := by
  have h : g_Tp G τ H := hR.2.2.1
  exact g_acst0 hx hb hK hS h.2 (by omega) hin hdg (fun H1 locs1 e oq hS => kk H1 locs1 (hR.putT (Or.inr rfl) oq ⟨g_at.kept h.1 (oq _ (by omega)), e⟩) hS)
/-! ends -/
theorem g_iret {E0 : gEn} {PV : gEn → Option Value → Prop} {v : Int32} (hx : p.tables.exec = Jvm.exec) (hb : c.code = cc) (hlocks : meth.locks = false) (hr : meth.sig.returnType = some .int) (hS : va_S (g_A G) s.heap H locs) (hR : g_R G E μ H) (hle : g_le E0 E) (hPV : PV E (some (.int v))) (hc : cells ≤ mc) (hs : slots ≤ ms) (hdg : decode cc pc = .ok (.ireturn, 1)) : W p l e R s m args below meth c H locs cells slots (MQ below (g_Q G E0 μ PV) args s mc ms (g_A G)) (F0 m pc ls [.int v]) :=
  W.widen hc hs (W.iret hx hb hr (fun t ht _ => ⟨_, E, rfl, hPV, hle, by rw [ht]; exact hR, hS.F ht⟩) hS.2.2 hdg)
theorem g_zret {E0 : gEn} {PV : gEn → Option Value → Prop} {v : Int32} (hx : p.tables.exec = Jvm.exec) (hb : c.code = cc) (hlocks : meth.locks = false) (hr : meth.sig.returnType = some .boolean) (hS : va_S (g_A G) s.heap H locs) (hR : g_R G E μ H) (hle : g_le E0 E) (hz : v = 0 ∨ v = 1) (hPV : PV E (some (.int v))) (hc : cells ≤ mc) (hs : slots ≤ ms) (hdg : decode cc pc = .ok (.ireturn, 1)) : W p l e R s m args below meth c H locs cells slots (MQ below (g_Q G E0 μ PV) args s mc ms (g_A G)) (F0 m pc ls [.int v]) :=
  W.widen hc hs (W.zret hx hb hr (by rcases hz with rfl | rfl <;> rfl) (fun t ht _ => ⟨_, E, rfl, hPV, hle, by rw [ht]; exact hR, hS.F ht⟩) hS.2.2 hdg)
theorem g_lret {E0 : gEn} {PV : gEn → Option Value → Prop} {v : Int64} (hx : p.tables.exec = Jvm.exec) (hb : c.code = cc) (hlocks : meth.locks = false) (hr : meth.sig.returnType = some .long) (hS : va_S (g_A G) s.heap H locs) (hR : g_R G E μ H) (hle : g_le E0 E) (hPV : PV E (some (.long v))) (hc : cells ≤ mc) (hs : slots ≤ ms) (hdg : decode cc pc = .ok (.lreturn, 1)) : W p l e R s m args below meth c H locs cells slots (MQ below (g_Q G E0 μ PV) args s mc ms (g_A G)) (F0 m pc ls [.long v]) :=
  W.widen hc hs (W.lret hx hb hr (fun t ht _ => ⟨_, E, rfl, hPV, hle, by rw [ht]; exact hR, hS.F ht⟩) hS.2.2 hdg)
theorem g_vret {E0 : gEn} {PV : gEn → Option Value → Prop} (hx : p.tables.exec = Jvm.exec) (hb : c.code = cc) (hlocks : meth.locks = false) (hr : meth.sig.returnType = none) (hS : va_S (g_A G) s.heap H locs) (hR : g_R G E μ H) (hle : g_le E0 E) (hPV : PV E none) (hc : cells ≤ mc) (hs : slots ≤ ms) (hdg : decode cc pc = .ok (.return_, 1)) : W p l e R s m args below meth c H locs cells slots (MQ below (g_Q G E0 μ PV) args s mc ms (g_A G)) (F0 m pc ls []) :=
  W.widen hc hs (W.vret hx hb hr (fun t ht _ => ⟨_, E, rfl, hPV, hle, by rw [ht]; exact hR, hS.F ht⟩) hS.2.2 hdg)
theorem g_vretR {q : Nat} {x : va_E} (hx : p.tables.exec = Jvm.exec) (hb : c.code = cc) (hlocks : meth.locks = false) (hr : meth.sig.returnType = none) (hS : va_S (g_A G) s.heap H locs) (hR : g_R G E μ H) (hq : g_at G q x H) (hdg : decode cc pc = .ok (.return_, 1)) : W p l e R s m args below meth c H locs 0 0 (MQ below (g_QR G E μ q x) args s 0 0 (g_A G)) (F0 m pc ls []) :=
  W.vret hx hb hr (fun t ht _ => ⟨rfl, by rw [ht]; exact hq, by rw [ht]; exact hR, hS.F ht⟩) hS.2.2 hdg
theorem g_aret {E0 : gEn} {PV : gEn → Option Value → Prop} {v : Value} {C : String} (hx : p.tables.exec = Jvm.exec) (hb : c.code = cc) (hlocks : meth.locks = false) (hr : meth.sig.returnType = some (.object C)) (hS : va_S (g_A G) s.heap H locs) (hR : g_R G E μ H) (hle : g_le E0 E) (hv : v = .null ∨ ∃ a, v = .ref a) (hPV : PV E (some v)) (hc : cells ≤ mc) (hs : slots ≤ ms) (hdg : decode cc pc = .ok (.areturn, 1)) : W p l e R s m args below meth c H locs cells slots (MQ below (g_Q G E0 μ PV) args s mc ms (g_A G)) (F0 m pc ls [v]) :=
  W.widen hc hs (W.aret hx hb hr (Or.inl ⟨C, rfl⟩) hv (fun t ht _ => ⟨_, E, rfl, hPV, hle, by rw [ht]; exact hR, hS.F ht⟩) hS.2.2 hdg)
end GROWS
