theorem g_setS_so (μ : gMu) {i j : Nat} (σ : gSt) (h : j ≠ i) : g_setS (g_setS μ i σ) j (μ.1 j) = g_setS μ i σ := by
  have e := g_setS_self (g_setS μ i σ) j
  rw [g_setS_ne μ σ h] at e
  exact e
theorem g_R.so {G : gG} {E : gEn} {μ : gMu} {i j : Nat} {σ : gSt} {H : Heap} (h : g_R G E (g_setS μ i σ) H) (hne : j ≠ i) : g_R G E (g_setS (g_setS μ i σ) j (μ.1 j)) H := by rw [g_setS_so μ σ hne]; exact h
theorem g_sp {α β : Type} {a c : α} {b d : β} (h : some (a, b) = some (c, d)) : a = c ∧ b = d := ⟨congrArg Prod.fst (Option.some.inj h), congrArg Prod.snd (Option.some.inj h)⟩
theorem g_s1 {α : Type} {a b : α} (h : some a = some b) : a = b := Option.some.inj h
