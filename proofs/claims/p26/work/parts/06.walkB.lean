set_option maxHeartbeats 4000000 in
set_option maxRecDepth 100000 in
theorem c0_here (l : Launch) (G : gG) (E : gEn) (μ : gMu) (z0 : gTx)  (ro : Int32) (hf : f0_here z0 = some ro) : Met l yX0_here wsX0_here ({ frames := 0, cells := 0, slots := 0, locals := 0 } : Room) (g_Pre G E (g_setT μ z0) [.ref (G.2.2 + 52)]) (g_Q G E (g_setT μ z0) (fun E' v => E' = E ∧ v = some (.int ro))) 0 0 (g_A G) := by
  refine Met.ofW (cc := cX0_here) (maxL := 1) (ret := some .int) (by decide) rfl ?_
  intro p e s m args below meth c s₁ B hml hv
  obtain ⟨rfl, hR, hK⟩ := hv
  have hx := B.exec
  have hb := B.bytes
  have hr := B.returns
  have hts := atoms_spec (ws := wsX0_here) B.pre
  have hown : s.vm.findClass RX0 = some m.cls := findClass_of_methodNamed B.named
  have hlocks := B.notSynchronized
  have hS : va_S (g_A G) s.heap s.heap [] := va_S.rf
  have hl := lv_entry ([.ref (G.2.2 + 52)]) (n := 1) (Nat.le_of_ble_eq_true rfl)
  rw [lg_entry_eq]
  generalize (lg_sl ([.ref (G.2.2 + 52)]) ++ List.replicate (1 - (lg_sl ([.ref (G.2.2 + 52)])).length) Slot.unset).toArray = ls at hl ⊢
  have hl : lv_has ls 1 [(0, .ref (G.2.2 + 52))] := hl
  have in_0 : ∀ w ∈ u_ws RX0 TX0 12, w ∈ wsX0_here := ifX0_here_0
  have l_15 := hts (.fieldLink RX0 15 "GlassRacks$CommandText" "length" "I") (by decide +kernel)
  have l_19 := hts (.fieldLink RX0 19 "GlassRacks$CommandText" "position" "I") (by decide +kernel)
  have l_9 := hts (.fieldLink RX0 9 "GlassRacks$CommandText" "characters" "[C") (by decide +kernel)
  unfold f0_here at hf
  refine lv_aload_n hx hb dX0_here_0 rfl (lv_at hl 0 rfl) ?_
  refine g_get hx hb hts in_0 hown hK hR.2.2.1.1 rfl 2 (by decide) l_19 rfl rfl dX0_here_1 ?_
  refine lv_if_lt (tgt := 42) hx hb dX0_here_4 (by decide) (fun c1 => ?_) (fun c1 => ?_)
  · replace hf := g_it hf c1
    refine lv_iconst (v := -1) hx hb dX0_here_42 (by decide) ?_
    obtain rfl := g_s1 hf
    exact g_iret hx hb hlocks hr hS hR g_le.rf ⟨rfl, rfl⟩ (by omega) (by omega) dX0_here_43
  · replace hf := g_if hf c1
    refine lv_aload_n hx hb dX0_here_7 rfl (lv_at hl 0 rfl) ?_
    refine g_get hx hb hts in_0 hown hK hR.2.2.1.1 rfl 2 (by decide) l_19 rfl rfl dX0_here_8 ?_
    refine lv_aload_n hx hb dX0_here_11 rfl (lv_at hl 0 rfl) ?_
    refine g_get hx hb hts in_0 hown hK hR.2.2.1.1 rfl 1 (by decide) l_15 rfl rfl dX0_here_12 ?_
    refine lv_icmp_ge (tgt := 42) hx hb dX0_here_15 (by decide) (fun c2 => ?_) (fun c2 => ?_)
    · replace hf := g_it hf c2
      refine lv_iconst (v := -1) hx hb dX0_here_42 (by decide) ?_
      obtain rfl := g_s1 hf
      exact g_iret hx hb hlocks hr hS hR g_le.rf ⟨rfl, rfl⟩ (by omega) (by omega) dX0_here_43
    · replace hf := g_if hf c2
      refine lv_aload_n hx hb dX0_here_18 rfl (lv_at hl 0 rfl) ?_
      refine g_get hx hb hts in_0 hown hK hR.2.2.1.1 rfl 2 (by decide) l_19 rfl rfl dX0_here_19 ?_
      refine lv_aload_n hx hb dX0_here_22 rfl (lv_at hl 0 rfl) ?_
      refine g_get hx hb hts in_0 hown hK hR.2.2.1.1 rfl 0 (by decide) l_9 rfl rfl dX0_here_23 ?_
      refine g_aclen hx hb hK hR dX0_here_26 ?_
      refine lv_icmp_ge (tgt := 42) hx hb dX0_here_27 (by decide) (fun c3 => ?_) (fun c3 => ?_)
      · replace hf := g_it hf c3
        refine lv_iconst (v := -1) hx hb dX0_here_42 (by decide) ?_
        obtain rfl := g_s1 hf
        exact g_iret hx hb hlocks hr hS hR g_le.rf ⟨rfl, rfl⟩ (by omega) (by omega) dX0_here_43
      · replace hf := g_if hf c3
        refine lv_aload_n hx hb dX0_here_30 rfl (lv_at hl 0 rfl) ?_
        refine g_get hx hb hts in_0 hown hK hR.2.2.1.1 rfl 0 (by decide) l_9 rfl rfl dX0_here_31 ?_
        refine lv_aload_n hx hb dX0_here_34 rfl (lv_at hl 0 rfl) ?_
        refine g_get hx hb hts in_0 hown hK hR.2.2.1.1 rfl 2 (by decide) l_19 rfl rfl dX0_here_35 ?_
        obtain ⟨hg4, hf⟩ := g_gd hf
        refine g_acld hx hb hK hR hg4 dX0_here_38 ?_
        refine lv_goto (tgt := 43) hx hb dX0_here_39 (by decide) ?_
        obtain rfl := g_s1 hf
        exact g_iret hx hb hlocks hr hS hR g_le.rf ⟨rfl, rfl⟩ (by omega) (by omega) dX0_here_43
set_option maxHeartbeats 4000000 in
set_option maxRecDepth 100000 in
theorem c0_expect (l : Launch) (G : gG) (E : gEn) (μ : gMu) (z0 : gTx) (p1 : Int32) (zo : gTx) (hf : f0_expect z0 p1 = some zo) : Met l yX0_expect wsX0_expect ({ frames := 1, cells := 0, slots := 0, locals := 20 } : Room) (g_Pre G E (g_setT μ z0) [.ref (G.2.2 + 52), .int p1]) (g_Q G E (g_setT μ zo) (fun E' v => E' = E ∧ v = none)) 0 0 (g_A G) := by
  refine Met.ofW (cc := cX0_expect) (maxL := 2) (ret := none) (by decide) rfl ?_
  intro p e s m args below meth c s₁ B hml hv
  obtain ⟨rfl, hR, hK⟩ := hv
  have hx := B.exec
  have hb := B.bytes
  have hr := B.returns
  have hts := atoms_spec (ws := wsX0_expect) B.pre
  have hown : s.vm.findClass RX0 = some m.cls := findClass_of_methodNamed B.named
  have hlocks := B.notSynchronized
  have hS : va_S (g_A G) s.heap s.heap [] := va_S.rf
  have hl := lv_entry ([.ref (G.2.2 + 52), .int p1]) (n := 2) (Nat.le_of_ble_eq_true rfl)
  rw [lg_entry_eq]
  generalize (lg_sl ([.ref (G.2.2 + 52), .int p1]) ++ List.replicate (2 - (lg_sl ([.ref (G.2.2 + 52), .int p1])).length) Slot.unset).toArray = ls at hl ⊢
  have hl : lv_has ls 2 [(0, .ref (G.2.2 + 52)), (1, .int p1)] := hl
  have in_0 : ∀ w ∈ u_ws RX0 TX0 12, w ∈ wsX0_expect := ifX0_expect_0
  have l_19 := hts (.fieldLink RX0 19 "GlassRacks$CommandText" "position" "I") (by decide +kernel)
  have l_22 := hts (.fieldLink RX0 22 "GlassRacks$CommandText" "faulty" "Z") (by decide +kernel)
  have hB15 : ∀ (z0 : gTx)  (H : Heap) (locs : List Loc) (ls : Array Slot), f0_expect_15 z0 = some zo → g_R G E (g_setT μ z0) H → va_S (g_A G) s.heap H locs → lv_has ls 2 [(0, .ref (G.2.2 + 52))] → W p l e (headSpec wsX0_expect ({ frames := 1, cells := 0, slots := 0, locals := 20 } : Room)).room s m ([.ref (G.2.2 + 52), .int p1] : List Value).toArray below meth c H locs 0 0 (MQ below (g_Q G E (g_setT μ zo) (fun E' v => E' = E ∧ v = none)) ([.ref (G.2.2 + 52), .int p1] : List Value).toArray s 0 0 (g_A G)) (F0 m 15 ls []) := by
    intro z0  H locs ls hf  hR hS hl
    unfold f0_expect_15 at hf
    refine lv_aload_n hx hb dX0_expect_15 rfl (lv_at hl 0 rfl) ?_
    refine lv_iconst (v := 1) hx hb dX0_expect_16 (by decide) ?_
    refine g_p0_3 hx hb hts in_0 hown hK hS hR (by decide) l_22 dX0_expect_17 (fun H locs hR hS => ?_)
    obtain ⟨z2, ez2, hf⟩ := g_let_e hf
    replace hR : g_R G E (g_setT μ z2) H := by rw [ez2]; exact hR
    refine lv_goto (tgt := 33) hx hb dX0_expect_20 (by decide) ?_
    obtain rfl := g_s1 hf
    exact g_vret hx hb hlocks hr hS hR g_le.rf ⟨rfl, rfl⟩ (by omega) (by omega) dX0_expect_33
  unfold f0_expect at hf
  refine lv_aload_n hx hb dX0_expect_0 rfl (lv_at hl 0 rfl) ?_
  refine g_get hx hb hts in_0 hown hK hR.2.2.1.1 rfl 3 (by decide) l_22 rfl rfl dX0_expect_1 ?_
  refine lv_if_ne (tgt := 15) hx hb dX0_expect_4 (by decide) (fun c1 => ?_) (fun c1 => ?_)
  · replace hf := g_it hf c1
    exact hB15 _  _ _ _ hf  hR hS (lv_sub hl [0] rfl)
  · replace hf := g_if hf (fun q => q c1)
    refine lv_aload_n hx hb dX0_expect_7 rfl (lv_at hl 0 rfl) ?_
    obtain ⟨r3, hc4, hf⟩ := g_b1_e hf
    refine g_call (va_runV (As := []) (rest := []) ⟨hx, hb, hml, hown, hts⟩ (c0_here l G E μ _ _ hc4) (cwV 0 hts gX0_expect_X0_here rfl rfl rfl (by decide +kernel) ⟨Nat.le_of_ble_eq_true rfl, Nat.le_of_ble_eq_true rfl⟩) (g_preV (ci := 0) hR hK (hR.2.2.1.1) rfl) rfl rfl hl.1 rfl (lv_room (Nat.le_of_ble_eq_true rfl)) dX0_expect_8 ⟨by show _ ≤ 0; omega, by show _ ≤ 0; omega⟩) hS (fun w5 H locs hp hR hS => ?_)
    subst hp
    refine lv_iload_n hx hb dX0_expect_11 rfl (lv_at hl 1 rfl) ?_
    refine lv_icmp_eq (tgt := 23) hx hb dX0_expect_12 (by decide) (fun c6 => ?_) (fun c6 => ?_)
    · replace hf := g_it hf c6
      refine lv_aload_n hx hb dX0_expect_23 rfl (lv_at hl 0 rfl) ?_
      refine lv_dup hx hb dX0_expect_24 rfl ?_
      refine g_get hx hb hts in_0 hown hK hR.2.2.1.1 rfl 2 (by decide) l_19 rfl rfl dX0_expect_25 ?_
      refine lv_iconst (v := 1) hx hb dX0_expect_28 (by decide) ?_
      refine lv_iadd hx hb dX0_expect_29 ?_
      refine g_p0_2 hx hb hts in_0 hown hK hS hR l_19 dX0_expect_30 (fun H locs hR hS => ?_)
      obtain ⟨z7, ez7, hf⟩ := g_let_e hf
      replace hR : g_R G E (g_setT μ z7) H := by rw [ez7]; exact hR
      obtain rfl := g_s1 hf
      exact g_vret hx hb hlocks hr hS hR g_le.rf ⟨rfl, rfl⟩ (by omega) (by omega) dX0_expect_33
    · replace hf := g_if hf c6
      exact hB15 _  _ _ _ hf  hR hS (lv_sub hl [0] rfl)
set_option maxHeartbeats 4000000 in
set_option maxRecDepth 100000 in
theorem c0_digitHere (l : Launch) (G : gG) (E : gEn) (μ : gMu) (z0 : gTx)  (ro : Int32) (hf : f0_digitHere z0 = some ro) : Met l yX0_digitHere wsX0_digitHere ({ frames := 1, cells := 0, slots := 0, locals := 20 } : Room) (g_Pre G E (g_setT μ z0) [.ref (G.2.2 + 52)]) (g_Q G E (g_setT μ z0) (fun E' v => E' = E ∧ v = some (.int ro))) 0 0 (g_A G) := by
  refine Met.ofW (cc := cX0_digitHere) (maxL := 2) (ret := some .int) (by decide) rfl ?_
  intro p e s m args below meth c s₁ B hml hv
  obtain ⟨rfl, hR, hK⟩ := hv
  have hx := B.exec
  have hb := B.bytes
  have hr := B.returns
  have hts := atoms_spec (ws := wsX0_digitHere) B.pre
  have hown : s.vm.findClass RX0 = some m.cls := findClass_of_methodNamed B.named
  have hlocks := B.notSynchronized
  have hS : va_S (g_A G) s.heap s.heap [] := va_S.rf
  have hl := lv_entry ([.ref (G.2.2 + 52)]) (n := 2) (Nat.le_of_ble_eq_true rfl)
  rw [lg_entry_eq]
  generalize (lg_sl ([.ref (G.2.2 + 52)]) ++ List.replicate (2 - (lg_sl ([.ref (G.2.2 + 52)])).length) Slot.unset).toArray = ls at hl ⊢
  have hl : lv_has ls 2 [(0, .ref (G.2.2 + 52))] := hl
  unfold f0_digitHere at hf
  refine lv_aload_n hx hb dX0_digitHere_0 rfl (lv_at hl 0 rfl) ?_
  obtain ⟨r1, hc2, hf⟩ := g_b1_e hf
  refine g_call (va_runV (As := []) (rest := []) ⟨hx, hb, hml, hown, hts⟩ (c0_here l G E μ _ _ hc2) (cwV 0 hts gX0_digitHere_X0_here rfl rfl rfl (by decide +kernel) ⟨Nat.le_of_ble_eq_true rfl, Nat.le_of_ble_eq_true rfl⟩) (g_preV (ci := 0) hR hK (hR.2.2.1.1) rfl) rfl rfl hl.1 rfl (lv_room (Nat.le_of_ble_eq_true rfl)) dX0_digitHere_1 ⟨by show _ ≤ 0; omega, by show _ ≤ 0; omega⟩) hS (fun w3 H locs hp hR hS => ?_)
  subst hp
  refine lv_istore_n (lv' := [(1, .int r1), (0, .ref (G.2.2 + 52))]) hx hb dX0_digitHere_4 rfl hl (by decide) rfl (fun ls hl => ?_)
  refine lv_iload_n hx hb dX0_digitHere_5 rfl (lv_at hl 0 rfl) ?_
  refine lv_bipush (v := 48) hx hb dX0_digitHere_6 (by decide) ?_
  refine lv_icmp_lt (tgt := 24) hx hb dX0_digitHere_8 (by decide) (fun c4 => ?_) (fun c4 => ?_)
  · replace hf := g_it hf c4
    refine lv_iconst (v := -1) hx hb dX0_digitHere_24 (by decide) ?_
    obtain rfl := g_s1 hf
    exact g_iret hx hb hlocks hr hS hR g_le.rf ⟨rfl, rfl⟩ (by omega) (by omega) dX0_digitHere_25
  · replace hf := g_if hf c4
    refine lv_iload_n hx hb dX0_digitHere_11 rfl (lv_at hl 0 rfl) ?_
    refine lv_bipush (v := 57) hx hb dX0_digitHere_12 (by decide) ?_
    refine lv_icmp_gt (tgt := 24) hx hb dX0_digitHere_14 (by decide) (fun c5 => ?_) (fun c5 => ?_)
    · replace hf := g_it hf c5
      refine lv_iconst (v := -1) hx hb dX0_digitHere_24 (by decide) ?_
      obtain rfl := g_s1 hf
      exact g_iret hx hb hlocks hr hS hR g_le.rf ⟨rfl, rfl⟩ (by omega) (by omega) dX0_digitHere_25
    · replace hf := g_if hf c5
      refine lv_iload_n hx hb dX0_digitHere_17 rfl (lv_at hl 0 rfl) ?_
      refine lv_bipush (v := 48) hx hb dX0_digitHere_18 (by decide) ?_
      refine lv_isub hx hb dX0_digitHere_20 ?_
      refine lv_goto (tgt := 25) hx hb dX0_digitHere_21 (by decide) ?_
      obtain rfl := g_s1 hf
      exact g_iret hx hb hlocks hr hS hR g_le.rf ⟨rfl, rfl⟩ (by omega) (by omega) dX0_digitHere_25
set_option maxHeartbeats 4000000 in
set_option maxRecDepth 100000 in
theorem c0_numberBehind (l : Launch) (G : gG) (E : gEn) (μ : gMu) (z0 : gTx) (p1 : Int32) (p2 : Int32) (p3 : Int32) (ro : Int32) (zo : gTx) (hf : f0_numberBehind z0 p1 p2 p3 = some (ro, zo)) : Met l yX0_numberBehind wsX0_numberBehind ({ frames := 2, cells := 0, slots := 0, locals := 41 } : Room) (g_Pre G E (g_setT μ z0) [.ref (G.2.2 + 52), .int p1, .int p2, .int p3]) (g_Q G E (g_setT μ zo) (fun E' v => E' = E ∧ v = some (.int ro))) 0 0 (g_A G) := by
  refine Met.ofW (cc := cX0_numberBehind) (maxL := 7) (ret := some .int) (by decide) rfl ?_
  intro p e s m args below meth c s₁ B hml hv
  obtain ⟨rfl, hR, hK⟩ := hv
  have hx := B.exec
  have hb := B.bytes
  have hr := B.returns
  have hts := atoms_spec (ws := wsX0_numberBehind) B.pre
  have hown : s.vm.findClass RX0 = some m.cls := findClass_of_methodNamed B.named
  have hlocks := B.notSynchronized
  have hS : va_S (g_A G) s.heap s.heap [] := va_S.rf
  have hl := lv_entry ([.ref (G.2.2 + 52), .int p1, .int p2, .int p3]) (n := 7) (Nat.le_of_ble_eq_true rfl)
  rw [lg_entry_eq]
  generalize (lg_sl ([.ref (G.2.2 + 52), .int p1, .int p2, .int p3]) ++ List.replicate (7 - (lg_sl ([.ref (G.2.2 + 52), .int p1, .int p2, .int p3])).length) Slot.unset).toArray = ls at hl ⊢
  have hl : lv_has ls 7 [(0, .ref (G.2.2 + 52)), (1, .int p1), (2, .int p2), (3, .int p3)] := hl
  have in_0 : ∀ w ∈ u_ws RX0 TX0 12, w ∈ wsX0_numberBehind := ifX0_numberBehind_0
  have l_19 := hts (.fieldLink RX0 19 "GlassRacks$CommandText" "position" "I") (by decide +kernel)
  have l_22 := hts (.fieldLink RX0 22 "GlassRacks$CommandText" "faulty" "Z") (by decide +kernel)
  have hB30 : ∀ (z0 : gTx) (x2 : Int32) (H : Heap) (locs : List Loc) (ls : Array Slot), f0_numberBehind_30 z0 x2 = some (ro, zo) → g_R G E (g_setT μ z0) H → va_S (g_A G) s.heap H locs → lv_has ls 7 [(0, .ref (G.2.2 + 52)), (2, .int x2)] → W p l e (headSpec wsX0_numberBehind ({ frames := 2, cells := 0, slots := 0, locals := 41 } : Room)).room s m ([.ref (G.2.2 + 52), .int p1, .int p2, .int p3] : List Value).toArray below meth c H locs 0 0 (MQ below (g_Q G E (g_setT μ zo) (fun E' v => E' = E ∧ v = some (.int ro))) ([.ref (G.2.2 + 52), .int p1, .int p2, .int p3] : List Value).toArray s 0 0 (g_A G)) (F0 m 30 ls []) := by
    intro z0 x2 H locs ls hf  hR hS hl
    unfold f0_numberBehind_30 at hf
    refine lv_aload_n hx hb dX0_numberBehind_30 rfl (lv_at hl 0 rfl) ?_
    refine lv_iconst (v := 1) hx hb dX0_numberBehind_31 (by decide) ?_
    refine g_p0_3 hx hb hts in_0 hown hK hS hR (by decide) l_22 dX0_numberBehind_32 (fun H locs hR hS => ?_)
    obtain ⟨z8, ez8, hf⟩ := g_let_e hf
    replace hR : g_R G E (g_setT μ z8) H := by rw [ez8]; exact hR
    refine lv_iload_n hx hb dX0_numberBehind_35 rfl (lv_at hl 1 rfl) ?_
    obtain ⟨rfl, rfl⟩ := g_sp hf
    exact g_iret hx hb hlocks hr hS hR g_le.rf ⟨rfl, rfl⟩ (by omega) (by omega) dX0_numberBehind_36
  have hB50 : ∀ (n : Nat) (z0 : gTx) (x3 : Int32) (x4 : Int32) (x5 : Int32) (H : Heap) (locs : List Loc) (ls : Array Slot), f0_numberBehind_50 n z0 x3 x4 x5 = some (ro, zo) → g_R G E (g_setT μ z0) H → va_S (g_A G) s.heap H locs → lv_has ls 7 [(0, .ref (G.2.2 + 52)), (3, .int x3), (4, .int x4), (5, .int x5)] → W p l e (headSpec wsX0_numberBehind ({ frames := 2, cells := 0, slots := 0, locals := 41 } : Room)).room s m ([.ref (G.2.2 + 52), .int p1, .int p2, .int p3] : List Value).toArray below meth c H locs 0 0 (MQ below (g_Q G E (g_setT μ zo) (fun E' v => E' = E ∧ v = some (.int ro))) ([.ref (G.2.2 + 52), .int p1, .int p2, .int p3] : List Value).toArray s 0 0 (g_A G)) (F0 m 50 ls []) := by
    intro n
    induction n with
    | zero =>
      intro z0 x3 x4 x5 H locs ls hf
      rw [f0_numberBehind_50] at hf
      cases hf
    | succ n ih =>
      intro z0 x3 x4 x5 H locs ls hf  hR hS hl
      rw [f0_numberBehind_50] at hf
      refine lv_iload hx hb dX0_numberBehind_50 (lv_at hl 3 rfl) ?_
      refine lv_bipush (v := 60) hx hb dX0_numberBehind_52 (by decide) ?_
      refine lv_icmp_ge (tgt := 114) hx hb dX0_numberBehind_54 (by decide) (fun c12 => ?_) (fun c12 => ?_)
      · replace hf := g_it hf c12
        refine lv_iload hx hb dX0_numberBehind_114 (lv_at hl 2 rfl) ?_
        obtain ⟨rfl, rfl⟩ := g_sp hf
        exact g_iret hx hb hlocks hr hS hR g_le.rf ⟨rfl, rfl⟩ (by omega) (by omega) dX0_numberBehind_116
      · replace hf := g_if hf c12
        refine lv_iload hx hb dX0_numberBehind_57 (lv_at hl 2 rfl) ?_
        refine lv_if_le (tgt := 114) hx hb dX0_numberBehind_59 (by decide) (fun c13 => ?_) (fun c13 => ?_)
        · replace hf := g_it hf c13
          refine lv_iload hx hb dX0_numberBehind_114 (lv_at hl 2 rfl) ?_
          obtain ⟨rfl, rfl⟩ := g_sp hf
          exact g_iret hx hb hlocks hr hS hR g_le.rf ⟨rfl, rfl⟩ (by omega) (by omega) dX0_numberBehind_116
        · replace hf := g_if hf c13
          refine lv_aload_n hx hb dX0_numberBehind_62 rfl (lv_at hl 0 rfl) ?_
          obtain ⟨r14, hc15, hf⟩ := g_b1_e hf
          refine g_call (va_runV (As := []) (rest := []) ⟨hx, hb, hml, hown, hts⟩ (c0_digitHere l G E μ _ _ hc15) (cwV 0 hts gX0_numberBehind_X0_digitHere rfl rfl rfl (by decide +kernel) ⟨Nat.le_of_ble_eq_true rfl, Nat.le_of_ble_eq_true rfl⟩) (g_preV (ci := 0) hR hK (hR.2.2.1.1) rfl) rfl rfl hl.1 rfl (lv_room (Nat.le_of_ble_eq_true rfl)) dX0_numberBehind_63 ⟨by show _ ≤ 0; omega, by show _ ≤ 0; omega⟩) hS (fun w16 H locs hp hR hS => ?_)
          subst hp
          refine lv_istore (lv' := [(6, .int r14), (0, .ref (G.2.2 + 52)), (3, .int x3), (4, .int x4), (5, .int x5)]) hx hb dX0_numberBehind_66 hl (by decide) rfl (fun ls hl => ?_)
          refine lv_iload hx hb dX0_numberBehind_68 (lv_at hl 0 rfl) ?_
          refine lv_if_lt (tgt := 114) hx hb dX0_numberBehind_70 (by decide) (fun c17 => ?_) (fun c17 => ?_)
          · replace hf := g_it hf c17
            refine lv_iload hx hb dX0_numberBehind_114 (lv_at hl 3 rfl) ?_
            obtain ⟨rfl, rfl⟩ := g_sp hf
            exact g_iret hx hb hlocks hr hS hR g_le.rf ⟨rfl, rfl⟩ (by omega) (by omega) dX0_numberBehind_116
          · replace hf := g_if hf c17
            refine lv_iload hx hb dX0_numberBehind_73 (lv_at hl 3 rfl) ?_
            refine lv_bipush (v := 10) hx hb dX0_numberBehind_75 (by decide) ?_
            refine lv_imul hx hb dX0_numberBehind_77 ?_
            refine lv_iload hx hb dX0_numberBehind_78 (lv_at hl 0 rfl) ?_
            refine lv_iadd hx hb dX0_numberBehind_80 ?_
            refine lv_iload_n hx hb dX0_numberBehind_81 rfl (lv_at hl 2 rfl) ?_
            refine lv_icmp_le (tgt := 88) hx hb dX0_numberBehind_82 (by decide) (fun c18 => ?_) (fun c18 => ?_)
            · replace hf := g_it hf c18
              refine lv_iload hx hb dX0_numberBehind_88 (lv_at hl 3 rfl) ?_
              refine lv_bipush (v := 10) hx hb dX0_numberBehind_90 (by decide) ?_
              refine lv_imul hx hb dX0_numberBehind_92 ?_
              refine lv_iload hx hb dX0_numberBehind_93 (lv_at hl 0 rfl) ?_
              refine lv_iadd hx hb dX0_numberBehind_95 ?_
              refine lv_topi (fun t19 et19 => ?_)
              replace hf := g_let_at hf et19
              refine lv_istore (lv' := [(4, .int t19), (6, .int r14), (0, .ref (G.2.2 + 52)), (3, .int x3), (5, .int x5)]) hx hb dX0_numberBehind_96 hl (by decide) rfl (fun ls hl => ?_)
              refine lv_aload_n hx hb dX0_numberBehind_98 rfl (lv_at hl 2 rfl) ?_
              refine lv_dup hx hb dX0_numberBehind_99 rfl ?_
              refine g_get hx hb hts in_0 hown hK hR.2.2.1.1 rfl 2 (by decide) l_19 rfl rfl dX0_numberBehind_100 ?_
              refine lv_iconst (v := 1) hx hb dX0_numberBehind_103 (by decide) ?_
              refine lv_iadd hx hb dX0_numberBehind_104 ?_
              refine g_p0_2 hx hb hts in_0 hown hK hS hR l_19 dX0_numberBehind_105 (fun H locs hR hS => ?_)
              obtain ⟨z20, ez20, hf⟩ := g_let_e hf
              replace hR : g_R G E (g_setT μ z20) H := by rw [ez20]; exact hR
              refine lv_iinc (v := x5 + 1) (lv' := [(5, .int (x5 + 1)), (4, .int t19), (6, .int r14), (0, .ref (G.2.2 + 52)), (3, .int x3)]) hx hb dX0_numberBehind_108 hl (k := 4) rfl rfl (by decide) rfl (fun ls hl => ?_)
              refine lv_goto (tgt := 50) hx hb dX0_numberBehind_111 (by decide) ?_
              exact ih _ _ _ _ _ _ _ hf  hR hS (lv_sub hl [3, 4, 1, 0] rfl)
            · replace hf := g_if hf c18
              refine lv_goto (tgt := 114) hx hb dX0_numberBehind_85 (by decide) ?_
              refine lv_iload hx hb dX0_numberBehind_114 (lv_at hl 3 rfl) ?_
              obtain ⟨rfl, rfl⟩ := g_sp hf
              exact g_iret hx hb hlocks hr hS hR g_le.rf ⟨rfl, rfl⟩ (by omega) (by omega) dX0_numberBehind_116
  unfold f0_numberBehind at hf
  refine lv_aload_n hx hb dX0_numberBehind_0 rfl (lv_at hl 0 rfl) ?_
  refine lv_iload_n hx hb dX0_numberBehind_1 rfl (lv_at hl 1 rfl) ?_
  obtain ⟨z1, hc2, hf⟩ := g_b1_e hf
  refine g_call (va_runV (As := [.int p1]) (rest := []) ⟨hx, hb, hml, hown, hts⟩ (c0_expect l G E μ _ _ _ hc2) (cwV 1 hts gX0_numberBehind_X0_expect rfl rfl rfl (by decide +kernel) ⟨Nat.le_of_ble_eq_true rfl, Nat.le_of_ble_eq_true rfl⟩) (g_preV (ci := 0) hR hK (hR.2.2.1.1) rfl) rfl rfl hl.1 rfl (lv_room (Nat.le_of_ble_eq_true rfl)) dX0_numberBehind_2 ⟨by show _ ≤ 0; omega, by show _ ≤ 0; omega⟩) hS (fun w3 H locs hp hR hS => ?_)
  subst hp
  refine lv_aload_n hx hb dX0_numberBehind_5 rfl (lv_at hl 0 rfl) ?_
  obtain ⟨r4, hc5, hf⟩ := g_b1_e hf
  refine g_call (va_runV (As := []) (rest := []) ⟨hx, hb, hml, hown, hts⟩ (c0_digitHere l G E μ _ _ hc5) (cwV 0 hts gX0_numberBehind_X0_digitHere rfl rfl rfl (by decide +kernel) ⟨Nat.le_of_ble_eq_true rfl, Nat.le_of_ble_eq_true rfl⟩) (g_preV (ci := 0) hR hK (hR.2.2.1.1) rfl) rfl rfl hl.1 rfl (lv_room (Nat.le_of_ble_eq_true rfl)) dX0_numberBehind_6 ⟨by show _ ≤ 0; omega, by show _ ≤ 0; omega⟩) hS (fun w6 H locs hp hR hS => ?_)
  subst hp
  refine lv_istore (lv' := [(4, .int r4), (0, .ref (G.2.2 + 52)), (1, .int p1), (2, .int p2), (3, .int p3)]) hx hb dX0_numberBehind_9 hl (by decide) rfl (fun ls hl => ?_)
  refine lv_aload_n hx hb dX0_numberBehind_11 rfl (lv_at hl 1 rfl) ?_
  refine g_get hx hb hts in_0 hown hK hR.2.2.1.1 rfl 3 (by decide) l_22 rfl rfl dX0_numberBehind_12 ?_
  refine lv_if_ne (tgt := 30) hx hb dX0_numberBehind_15 (by decide) (fun c7 => ?_) (fun c7 => ?_)
  · replace hf := g_it hf c7
    exact hB30 _ _ _ _ _ hf  hR hS (lv_sub hl [1, 3] rfl)
  · replace hf := g_if hf (fun q => q c7)
    refine lv_iload hx hb dX0_numberBehind_18 (lv_at hl 0 rfl) ?_
    refine lv_iload_n hx hb dX0_numberBehind_20 rfl (lv_at hl 3 rfl) ?_
    refine lv_icmp_lt (tgt := 30) hx hb dX0_numberBehind_21 (by decide) (fun c9 => ?_) (fun c9 => ?_)
    · replace hf := g_it hf c9
      exact hB30 _ _ _ _ _ hf  hR hS (lv_sub hl [1, 3] rfl)
    · replace hf := g_if hf c9
      refine lv_iload hx hb dX0_numberBehind_24 (lv_at hl 0 rfl) ?_
      refine lv_iload_n hx hb dX0_numberBehind_26 rfl (lv_at hl 4 rfl) ?_
      refine lv_icmp_le (tgt := 37) hx hb dX0_numberBehind_27 (by decide) (fun c10 => ?_) (fun c10 => ?_)
      · replace hf := g_it hf c10
        refine lv_aload_n hx hb dX0_numberBehind_37 rfl (lv_at hl 1 rfl) ?_
        refine lv_dup hx hb dX0_numberBehind_38 rfl ?_
        refine g_get hx hb hts in_0 hown hK hR.2.2.1.1 rfl 2 (by decide) l_19 rfl rfl dX0_numberBehind_39 ?_
        refine lv_iconst (v := 1) hx hb dX0_numberBehind_42 (by decide) ?_
        refine lv_iadd hx hb dX0_numberBehind_43 ?_
        refine g_p0_2 hx hb hts in_0 hown hK hS hR l_19 dX0_numberBehind_44 (fun H locs hR hS => ?_)
        obtain ⟨z11, ez11, hf⟩ := g_let_e hf
        replace hR : g_R G E (g_setT μ z11) H := by rw [ez11]; exact hR
        refine lv_iconst (v := 1) hx hb dX0_numberBehind_47 (by decide) ?_
        refine lv_istore (lv' := [(5, .int (1 : Int32)), (4, .int r4), (0, .ref (G.2.2 + 52)), (1, .int p1), (2, .int p2), (3, .int p3)]) hx hb dX0_numberBehind_48 hl (by decide) rfl (fun ls hl => ?_)
        exact hB50 70 _ _ _ _ _ _ _ hf  hR hS (lv_sub hl [2, 5, 1, 0] rfl)
      · replace hf := g_if hf c10
        exact hB30 _ _ _ _ _ hf  hR hS (lv_sub hl [1, 3] rfl)
set_option maxHeartbeats 4000000 in
set_option maxRecDepth 100000 in
theorem c0_readOrder (l : Launch) (G : gG) (E : gEn) (μ : gMu) (z0 : gTx)  (zo : gTx) (hf : f0_readOrder z0 = some zo) : Met l yX0_readOrder wsX0_readOrder ({ frames := 3, cells := 0, slots := 0, locals := 67 } : Room) (g_Pre G E (g_setT μ z0) [.ref (G.2.2 + 52)]) (g_Q G E (g_setT μ zo) (fun E' v => E' = E ∧ v = none)) 0 0 (g_A G) := by
  refine Met.ofW (cc := cX0_readOrder) (maxL := 1) (ret := none) (by decide) rfl ?_
  intro p e s m args below meth c s₁ B hml hv
  obtain ⟨rfl, hR, hK⟩ := hv
  have hx := B.exec
  have hb := B.bytes
  have hr := B.returns
  have hts := atoms_spec (ws := wsX0_readOrder) B.pre
  have hown : s.vm.findClass RX0 = some m.cls := findClass_of_methodNamed B.named
  have hlocks := B.notSynchronized
  have hS : va_S (g_A G) s.heap s.heap [] := va_S.rf
  have hl := lv_entry ([.ref (G.2.2 + 52)]) (n := 1) (Nat.le_of_ble_eq_true rfl)
  rw [lg_entry_eq]
  generalize (lg_sl ([.ref (G.2.2 + 52)]) ++ List.replicate (1 - (lg_sl ([.ref (G.2.2 + 52)])).length) Slot.unset).toArray = ls at hl ⊢
  have hl : lv_has ls 1 [(0, .ref (G.2.2 + 52))] := hl
  have in_0 : ∀ w ∈ u_ws RX0 TX0 12, w ∈ wsX0_readOrder := ifX0_readOrder_0
  have l_32 := hts (.fieldLink RX0 32 "GlassRacks$CommandText" "sort" "I") (by decide +kernel)
  have l_35 := hts (.fieldLink RX0 35 "GlassRacks$CommandText" "width" "I") (by decide +kernel)
  have l_38 := hts (.fieldLink RX0 38 "GlassRacks$CommandText" "height" "I") (by decide +kernel)
  have l_41 := hts (.fieldLink RX0 41 "GlassRacks$CommandText" "day" "I") (by decide +kernel)
  unfold f0_readOrder at hf
  refine lv_aload_n hx hb dX0_readOrder_0 rfl (lv_at hl 0 rfl) ?_
  refine lv_aload_n hx hb dX0_readOrder_1 rfl (lv_at hl 0 rfl) ?_
  refine lv_bipush (v := 111) hx hb dX0_readOrder_2 (by decide) ?_
  refine lv_iconst (v := 0) hx hb dX0_readOrder_4 (by decide) ?_
  refine lv_iconst (v := 2) hx hb dX0_readOrder_5 (by decide) ?_
  obtain ⟨r1, z2, hc3, hf⟩ := g_bd_e hf
  refine g_call (va_runV (As := [.int (111 : Int32), .int (0 : Int32), .int (2 : Int32)]) (rest := [.ref (G.2.2 + 52)]) ⟨hx, hb, hml, hown, hts⟩ (c0_numberBehind l G E μ _ _ _ _ _ _ hc3) (cwV 3 hts gX0_readOrder_X0_numberBehind rfl rfl rfl (by decide +kernel) ⟨Nat.le_of_ble_eq_true rfl, Nat.le_of_ble_eq_true rfl⟩) (g_preV (ci := 0) hR hK (hR.2.2.1.1) rfl) rfl rfl hl.1 rfl (lv_room (Nat.le_of_ble_eq_true rfl)) dX0_readOrder_6 ⟨by show _ ≤ 0; omega, by show _ ≤ 0; omega⟩) hS (fun w4 H locs hp hR hS => ?_)
  subst hp
  refine g_p0_6 hx hb hts in_0 hown hK hS hR l_32 dX0_readOrder_9 (fun H locs hR hS => ?_)
  obtain ⟨z5, ez5, hf⟩ := g_let_e hf
  replace hR : g_R G E (g_setT μ z5) H := by rw [ez5]; exact hR
  refine lv_aload_n hx hb dX0_readOrder_12 rfl (lv_at hl 0 rfl) ?_
  refine lv_aload_n hx hb dX0_readOrder_13 rfl (lv_at hl 0 rfl) ?_
  refine lv_bipush (v := 44) hx hb dX0_readOrder_14 (by decide) ?_
  refine lv_iconst (v := 1) hx hb dX0_readOrder_16 (by decide) ?_
  refine lv_bipush (v := 99) hx hb dX0_readOrder_17 (by decide) ?_
  obtain ⟨r6, z7, hc8, hf⟩ := g_bd_e hf
  refine g_call (va_runV (As := [.int (44 : Int32), .int (1 : Int32), .int (99 : Int32)]) (rest := [.ref (G.2.2 + 52)]) ⟨hx, hb, hml, hown, hts⟩ (c0_numberBehind l G E μ _ _ _ _ _ _ hc8) (cwV 3 hts gX0_readOrder_X0_numberBehind rfl rfl rfl (by decide +kernel) ⟨Nat.le_of_ble_eq_true rfl, Nat.le_of_ble_eq_true rfl⟩) (g_preV (ci := 0) hR hK (hR.2.2.1.1) rfl) rfl rfl hl.1 rfl (lv_room (Nat.le_of_ble_eq_true rfl)) dX0_readOrder_19 ⟨by show _ ≤ 0; omega, by show _ ≤ 0; omega⟩) hS (fun w9 H locs hp hR hS => ?_)
  subst hp
  refine g_p0_7 hx hb hts in_0 hown hK hS hR l_35 dX0_readOrder_22 (fun H locs hR hS => ?_)
  obtain ⟨z10, ez10, hf⟩ := g_let_e hf
  replace hR : g_R G E (g_setT μ z10) H := by rw [ez10]; exact hR
  refine lv_aload_n hx hb dX0_readOrder_25 rfl (lv_at hl 0 rfl) ?_
  refine lv_aload_n hx hb dX0_readOrder_26 rfl (lv_at hl 0 rfl) ?_
  refine lv_bipush (v := 120) hx hb dX0_readOrder_27 (by decide) ?_
  refine lv_iconst (v := 1) hx hb dX0_readOrder_29 (by decide) ?_
  refine lv_bipush (v := 99) hx hb dX0_readOrder_30 (by decide) ?_
  obtain ⟨r11, z12, hc13, hf⟩ := g_bd_e hf
  refine g_call (va_runV (As := [.int (120 : Int32), .int (1 : Int32), .int (99 : Int32)]) (rest := [.ref (G.2.2 + 52)]) ⟨hx, hb, hml, hown, hts⟩ (c0_numberBehind l G E μ _ _ _ _ _ _ hc13) (cwV 3 hts gX0_readOrder_X0_numberBehind rfl rfl rfl (by decide +kernel) ⟨Nat.le_of_ble_eq_true rfl, Nat.le_of_ble_eq_true rfl⟩) (g_preV (ci := 0) hR hK (hR.2.2.1.1) rfl) rfl rfl hl.1 rfl (lv_room (Nat.le_of_ble_eq_true rfl)) dX0_readOrder_32 ⟨by show _ ≤ 0; omega, by show _ ≤ 0; omega⟩) hS (fun w14 H locs hp hR hS => ?_)
  subst hp
  refine g_p0_8 hx hb hts in_0 hown hK hS hR l_38 dX0_readOrder_35 (fun H locs hR hS => ?_)
  obtain ⟨z15, ez15, hf⟩ := g_let_e hf
  replace hR : g_R G E (g_setT μ z15) H := by rw [ez15]; exact hR
  refine lv_aload_n hx hb dX0_readOrder_38 rfl (lv_at hl 0 rfl) ?_
  refine lv_aload_n hx hb dX0_readOrder_39 rfl (lv_at hl 0 rfl) ?_
  refine lv_bipush (v := 64) hx hb dX0_readOrder_40 (by decide) ?_
  refine lv_iconst (v := 0) hx hb dX0_readOrder_42 (by decide) ?_
  refine lv_sipush (v := 999) hx hb dX0_readOrder_43 (by decide) ?_
  obtain ⟨r16, z17, hc18, hf⟩ := g_bd_e hf
  refine g_call (va_runV (As := [.int (64 : Int32), .int (0 : Int32), .int (999 : Int32)]) (rest := [.ref (G.2.2 + 52)]) ⟨hx, hb, hml, hown, hts⟩ (c0_numberBehind l G E μ _ _ _ _ _ _ hc18) (cwV 3 hts gX0_readOrder_X0_numberBehind rfl rfl rfl (by decide +kernel) ⟨Nat.le_of_ble_eq_true rfl, Nat.le_of_ble_eq_true rfl⟩) (g_preV (ci := 0) hR hK (hR.2.2.1.1) rfl) rfl rfl hl.1 rfl (lv_room (Nat.le_of_ble_eq_true rfl)) dX0_readOrder_46 ⟨by show _ ≤ 0; omega, by show _ ≤ 0; omega⟩) hS (fun w19 H locs hp hR hS => ?_)
  subst hp
  refine g_p0_9 hx hb hts in_0 hown hK hS hR l_41 dX0_readOrder_49 (fun H locs hR hS => ?_)
  obtain ⟨z20, ez20, hf⟩ := g_let_e hf
  replace hR : g_R G E (g_setT μ z20) H := by rw [ez20]; exact hR
  obtain rfl := g_s1 hf
  exact g_vret hx hb hlocks hr hS hR g_le.rf ⟨rfl, rfl⟩ (by omega) (by omega) dX0_readOrder_52
set_option maxHeartbeats 4000000 in
set_option maxRecDepth 100000 in
theorem c0_readPurchase (l : Launch) (G : gG) (E : gEn) (μ : gMu) (z0 : gTx)  (zo : gTx) (hf : f0_readPurchase z0 = some zo) : Met l yX0_readPurchase wsX0_readPurchase ({ frames := 3, cells := 0, slots := 0, locals := 67 } : Room) (g_Pre G E (g_setT μ z0) [.ref (G.2.2 + 52)]) (g_Q G E (g_setT μ zo) (fun E' v => E' = E ∧ v = none)) 0 0 (g_A G) := by
  refine Met.ofW (cc := cX0_readPurchase) (maxL := 1) (ret := none) (by decide) rfl ?_
  intro p e s m args below meth c s₁ B hml hv
  obtain ⟨rfl, hR, hK⟩ := hv
  have hx := B.exec
  have hb := B.bytes
  have hr := B.returns
  have hts := atoms_spec (ws := wsX0_readPurchase) B.pre
  have hown : s.vm.findClass RX0 = some m.cls := findClass_of_methodNamed B.named
  have hlocks := B.notSynchronized
  have hS : va_S (g_A G) s.heap s.heap [] := va_S.rf
  have hl := lv_entry ([.ref (G.2.2 + 52)]) (n := 1) (Nat.le_of_ble_eq_true rfl)
  rw [lg_entry_eq]
  generalize (lg_sl ([.ref (G.2.2 + 52)]) ++ List.replicate (1 - (lg_sl ([.ref (G.2.2 + 52)])).length) Slot.unset).toArray = ls at hl ⊢
  have hl : lv_has ls 1 [(0, .ref (G.2.2 + 52))] := hl
  have in_0 : ∀ w ∈ u_ws RX0 TX0 12, w ∈ wsX0_readPurchase := ifX0_readPurchase_0
  have l_29 := hts (.fieldLink RX0 29 "GlassRacks$CommandText" "rack" "I") (by decide +kernel)
  have l_32 := hts (.fieldLink RX0 32 "GlassRacks$CommandText" "sort" "I") (by decide +kernel)
  have l_35 := hts (.fieldLink RX0 35 "GlassRacks$CommandText" "width" "I") (by decide +kernel)
  have l_38 := hts (.fieldLink RX0 38 "GlassRacks$CommandText" "height" "I") (by decide +kernel)
  unfold f0_readPurchase at hf
  refine lv_aload_n hx hb dX0_readPurchase_0 rfl (lv_at hl 0 rfl) ?_
  refine lv_aload_n hx hb dX0_readPurchase_1 rfl (lv_at hl 0 rfl) ?_
  refine lv_bipush (v := 115) hx hb dX0_readPurchase_2 (by decide) ?_
  refine lv_iconst (v := 0) hx hb dX0_readPurchase_4 (by decide) ?_
  refine lv_iconst (v := 3) hx hb dX0_readPurchase_5 (by decide) ?_
  obtain ⟨r1, z2, hc3, hf⟩ := g_bd_e hf
  refine g_call (va_runV (As := [.int (115 : Int32), .int (0 : Int32), .int (3 : Int32)]) (rest := [.ref (G.2.2 + 52)]) ⟨hx, hb, hml, hown, hts⟩ (c0_numberBehind l G E μ _ _ _ _ _ _ hc3) (cwV 3 hts gX0_readPurchase_X0_numberBehind rfl rfl rfl (by decide +kernel) ⟨Nat.le_of_ble_eq_true rfl, Nat.le_of_ble_eq_true rfl⟩) (g_preV (ci := 0) hR hK (hR.2.2.1.1) rfl) rfl rfl hl.1 rfl (lv_room (Nat.le_of_ble_eq_true rfl)) dX0_readPurchase_6 ⟨by show _ ≤ 0; omega, by show _ ≤ 0; omega⟩) hS (fun w4 H locs hp hR hS => ?_)
  subst hp
  refine g_p0_5 hx hb hts in_0 hown hK hS hR l_29 dX0_readPurchase_9 (fun H locs hR hS => ?_)
  obtain ⟨z5, ez5, hf⟩ := g_let_e hf
  replace hR : g_R G E (g_setT μ z5) H := by rw [ez5]; exact hR
  refine lv_aload_n hx hb dX0_readPurchase_12 rfl (lv_at hl 0 rfl) ?_
  refine lv_aload_n hx hb dX0_readPurchase_13 rfl (lv_at hl 0 rfl) ?_
  refine lv_bipush (v := 58) hx hb dX0_readPurchase_14 (by decide) ?_
  refine lv_iconst (v := 0) hx hb dX0_readPurchase_16 (by decide) ?_
  refine lv_iconst (v := 2) hx hb dX0_readPurchase_17 (by decide) ?_
  obtain ⟨r6, z7, hc8, hf⟩ := g_bd_e hf
  refine g_call (va_runV (As := [.int (58 : Int32), .int (0 : Int32), .int (2 : Int32)]) (rest := [.ref (G.2.2 + 52)]) ⟨hx, hb, hml, hown, hts⟩ (c0_numberBehind l G E μ _ _ _ _ _ _ hc8) (cwV 3 hts gX0_readPurchase_X0_numberBehind rfl rfl rfl (by decide +kernel) ⟨Nat.le_of_ble_eq_true rfl, Nat.le_of_ble_eq_true rfl⟩) (g_preV (ci := 0) hR hK (hR.2.2.1.1) rfl) rfl rfl hl.1 rfl (lv_room (Nat.le_of_ble_eq_true rfl)) dX0_readPurchase_18 ⟨by show _ ≤ 0; omega, by show _ ≤ 0; omega⟩) hS (fun w9 H locs hp hR hS => ?_)
  subst hp
  refine g_p0_6 hx hb hts in_0 hown hK hS hR l_32 dX0_readPurchase_21 (fun H locs hR hS => ?_)
  obtain ⟨z10, ez10, hf⟩ := g_let_e hf
  replace hR : g_R G E (g_setT μ z10) H := by rw [ez10]; exact hR
  refine lv_aload_n hx hb dX0_readPurchase_24 rfl (lv_at hl 0 rfl) ?_
  refine lv_aload_n hx hb dX0_readPurchase_25 rfl (lv_at hl 0 rfl) ?_
  refine lv_bipush (v := 44) hx hb dX0_readPurchase_26 (by decide) ?_
  refine lv_iconst (v := 1) hx hb dX0_readPurchase_28 (by decide) ?_
  refine lv_bipush (v := 99) hx hb dX0_readPurchase_29 (by decide) ?_
  obtain ⟨r11, z12, hc13, hf⟩ := g_bd_e hf
  refine g_call (va_runV (As := [.int (44 : Int32), .int (1 : Int32), .int (99 : Int32)]) (rest := [.ref (G.2.2 + 52)]) ⟨hx, hb, hml, hown, hts⟩ (c0_numberBehind l G E μ _ _ _ _ _ _ hc13) (cwV 3 hts gX0_readPurchase_X0_numberBehind rfl rfl rfl (by decide +kernel) ⟨Nat.le_of_ble_eq_true rfl, Nat.le_of_ble_eq_true rfl⟩) (g_preV (ci := 0) hR hK (hR.2.2.1.1) rfl) rfl rfl hl.1 rfl (lv_room (Nat.le_of_ble_eq_true rfl)) dX0_readPurchase_31 ⟨by show _ ≤ 0; omega, by show _ ≤ 0; omega⟩) hS (fun w14 H locs hp hR hS => ?_)
  subst hp
  refine g_p0_7 hx hb hts in_0 hown hK hS hR l_35 dX0_readPurchase_34 (fun H locs hR hS => ?_)
  obtain ⟨z15, ez15, hf⟩ := g_let_e hf
  replace hR : g_R G E (g_setT μ z15) H := by rw [ez15]; exact hR
  refine lv_aload_n hx hb dX0_readPurchase_37 rfl (lv_at hl 0 rfl) ?_
  refine lv_aload_n hx hb dX0_readPurchase_38 rfl (lv_at hl 0 rfl) ?_
  refine lv_bipush (v := 120) hx hb dX0_readPurchase_39 (by decide) ?_
  refine lv_iconst (v := 1) hx hb dX0_readPurchase_41 (by decide) ?_
  refine lv_bipush (v := 99) hx hb dX0_readPurchase_42 (by decide) ?_
  obtain ⟨r16, z17, hc18, hf⟩ := g_bd_e hf
  refine g_call (va_runV (As := [.int (120 : Int32), .int (1 : Int32), .int (99 : Int32)]) (rest := [.ref (G.2.2 + 52)]) ⟨hx, hb, hml, hown, hts⟩ (c0_numberBehind l G E μ _ _ _ _ _ _ hc18) (cwV 3 hts gX0_readPurchase_X0_numberBehind rfl rfl rfl (by decide +kernel) ⟨Nat.le_of_ble_eq_true rfl, Nat.le_of_ble_eq_true rfl⟩) (g_preV (ci := 0) hR hK (hR.2.2.1.1) rfl) rfl rfl hl.1 rfl (lv_room (Nat.le_of_ble_eq_true rfl)) dX0_readPurchase_44 ⟨by show _ ≤ 0; omega, by show _ ≤ 0; omega⟩) hS (fun w19 H locs hp hR hS => ?_)
  subst hp
  refine g_p0_8 hx hb hts in_0 hown hK hS hR l_38 dX0_readPurchase_47 (fun H locs hR hS => ?_)
  obtain ⟨z20, ez20, hf⟩ := g_let_e hf
  replace hR : g_R G E (g_setT μ z20) H := by rw [ez20]; exact hR
  obtain rfl := g_s1 hf
  exact g_vret hx hb hlocks hr hS hR g_le.rf ⟨rfl, rfl⟩ (by omega) (by omega) dX0_readPurchase_50
set_option maxHeartbeats 4000000 in
set_option maxRecDepth 100000 in
theorem c0_readCommand (l : Launch) (G : gG) (E : gEn) (μ : gMu) (z0 : gTx)  (zo : gTx) (hf : f0_readCommand z0 = some zo) : Met l yX0_readCommand wsX0_readCommand ({ frames := 4, cells := 0, slots := 0, locals := 87 } : Room) (g_Pre G E (g_setT μ z0) [.ref (G.2.2 + 52)]) (g_Q G E (g_setT μ zo) (fun E' v => E' = E ∧ v = none)) 0 0 (g_A G) := by
  refine Met.ofW (cc := cX0_readCommand) (maxL := 1) (ret := none) (by decide) rfl ?_
  intro p e s m args below meth c s₁ B hml hv
  obtain ⟨rfl, hR, hK⟩ := hv
  have hx := B.exec
  have hb := B.bytes
  have hr := B.returns
  have hts := atoms_spec (ws := wsX0_readCommand) B.pre
  have hown : s.vm.findClass RX0 = some m.cls := findClass_of_methodNamed B.named
  have hlocks := B.notSynchronized
  have hS : va_S (g_A G) s.heap s.heap [] := va_S.rf
  have hl := lv_entry ([.ref (G.2.2 + 52)]) (n := 1) (Nat.le_of_ble_eq_true rfl)
  rw [lg_entry_eq]
  generalize (lg_sl ([.ref (G.2.2 + 52)]) ++ List.replicate (1 - (lg_sl ([.ref (G.2.2 + 52)])).length) Slot.unset).toArray = ls at hl ⊢
  have hl : lv_has ls 1 [(0, .ref (G.2.2 + 52))] := hl
  have in_0 : ∀ w ∈ u_ws RX0 TX0 12, w ∈ wsX0_readCommand := ifX0_readCommand_0
  have l_19 := hts (.fieldLink RX0 19 "GlassRacks$CommandText" "position" "I") (by decide +kernel)
  have l_22 := hts (.fieldLink RX0 22 "GlassRacks$CommandText" "faulty" "Z") (by decide +kernel)
  have l_26 := hts (.fieldLink RX0 26 "GlassRacks$CommandText" "command" "I") (by decide +kernel)
  have l_44 := hts (.fieldLink RX0 44 "GlassRacks$CommandText" "choice" "I") (by decide +kernel)
  have l_47 := hts (.fieldLink RX0 47 "GlassRacks$CommandText" "days" "I") (by decide +kernel)
  have hB13 : ∀ (z0 : gTx)  (H : Heap) (locs : List Loc) (ls : Array Slot), f0_readCommand_13 z0 = some zo → g_R G E (g_setT μ z0) H → va_S (g_A G) s.heap H locs → lv_has ls 1 [(0, .ref (G.2.2 + 52))] → W p l e (headSpec wsX0_readCommand ({ frames := 4, cells := 0, slots := 0, locals := 87 } : Room)).room s m ([.ref (G.2.2 + 52)] : List Value).toArray below meth c H locs 0 0 (MQ below (g_Q G E (g_setT μ zo) (fun E' v => E' = E ∧ v = none)) ([.ref (G.2.2 + 52)] : List Value).toArray s 0 0 (g_A G)) (F0 m 13 ls []) := by
    intro z0  H locs ls hf  hR hS hl
    unfold f0_readCommand_13 at hf
    refine lv_aload_n hx hb dX0_readCommand_13 rfl (lv_at hl 0 rfl) ?_
    refine lv_aload_n hx hb dX0_readCommand_14 rfl (lv_at hl 0 rfl) ?_
    obtain ⟨r2, hc3, hf⟩ := g_b1_e hf
    refine g_call (va_runV (As := []) (rest := [.ref (G.2.2 + 52)]) ⟨hx, hb, hml, hown, hts⟩ (c0_here l G E μ _ _ hc3) (cwV 0 hts gX0_readCommand_X0_here rfl rfl rfl (by decide +kernel) ⟨Nat.le_of_ble_eq_true rfl, Nat.le_of_ble_eq_true rfl⟩) (g_preV (ci := 0) hR hK (hR.2.2.1.1) rfl) rfl rfl hl.1 rfl (lv_room (Nat.le_of_ble_eq_true rfl)) dX0_readCommand_15 ⟨by show _ ≤ 0; omega, by show _ ≤ 0; omega⟩) hS (fun w4 H locs hp hR hS => ?_)
    subst hp
    refine g_p0_4 hx hb hts in_0 hown hK hS hR l_26 dX0_readCommand_18 (fun H locs hR hS => ?_)
    obtain ⟨z5, ez5, hf⟩ := g_let_e hf
    replace hR : g_R G E (g_setT μ z5) H := by rw [ez5]; exact hR
    refine lv_aload_n hx hb dX0_readCommand_21 rfl (lv_at hl 0 rfl) ?_
    refine g_get hx hb hts in_0 hown hK hR.2.2.1.1 rfl 4 (by decide) l_26 rfl rfl dX0_readCommand_22 ?_
    refine lv_topi (fun t6 et6 => ?_)
    replace hf := g_let_at hf et6
    by_cases hc1_100 : t6 = (100 : Int32)
    · replace hf := g_it hf hc1_100
      refine lv_lookup (off := 72) (tgt := 97) hx hb dX0_readCommand_25 (by decide) (by rw [hc1_100]; rfl) (by decide) ?_
      refine lv_aload_n hx hb dX0_readCommand_97 rfl (lv_at hl 0 rfl) ?_
      refine lv_aload_n hx hb dX0_readCommand_98 rfl (lv_at hl 0 rfl) ?_
      refine lv_bipush (v := 100) hx hb dX0_readCommand_99 (by decide) ?_
      refine lv_iconst (v := 1) hx hb dX0_readCommand_101 (by decide) ?_
      refine lv_bipush (v := 99) hx hb dX0_readCommand_102 (by decide) ?_
      obtain ⟨r7, z8, hc9, hf⟩ := g_bd_e hf
      refine g_call (va_runV (As := [.int (100 : Int32), .int (1 : Int32), .int (99 : Int32)]) (rest := [.ref (G.2.2 + 52)]) ⟨hx, hb, hml, hown, hts⟩ (c0_numberBehind l G E μ _ _ _ _ _ _ hc9) (cwV 3 hts gX0_readCommand_X0_numberBehind rfl rfl rfl (by decide +kernel) ⟨Nat.le_of_ble_eq_true rfl, Nat.le_of_ble_eq_true rfl⟩) (g_preV (ci := 0) hR hK (hR.2.2.1.1) rfl) rfl rfl hl.1 rfl (lv_room (Nat.le_of_ble_eq_true rfl)) dX0_readCommand_104 ⟨by show _ ≤ 0; omega, by show _ ≤ 0; omega⟩) hS (fun w10 H locs hp hR hS => ?_)
      subst hp
      refine g_p0_11 hx hb hts in_0 hown hK hS hR l_47 dX0_readCommand_107 (fun H locs hR hS => ?_)
      obtain ⟨z11, ez11, hf⟩ := g_let_e hf
      replace hR : g_R G E (g_setT μ z11) H := by rw [ez11]; exact hR
      refine lv_goto (tgt := 118) hx hb dX0_readCommand_110 (by decide) ?_
      obtain rfl := g_s1 hf
      exact g_vret hx hb hlocks hr hS hR g_le.rf ⟨rfl, rfl⟩ (by omega) (by omega) dX0_readCommand_118
    · replace hf := g_if hf hc1_100
      by_cases hc2_111 : t6 = (111 : Int32)
      · replace hf := g_it hf hc2_111
        refine lv_lookup (off := 50) (tgt := 75) hx hb dX0_readCommand_25 (by decide) (by rw [hc2_111]; rfl) (by decide) ?_
        refine lv_aload_n hx hb dX0_readCommand_75 rfl (lv_at hl 0 rfl) ?_
        obtain ⟨z12, hc13, hf⟩ := g_b1_e hf
        refine g_call (va_runV (As := []) (rest := []) ⟨hx, hb, hml, hown, hts⟩ (c0_readOrder l G E μ _ _ hc13) (cwV 0 hts gX0_readCommand_X0_readOrder rfl rfl rfl (by decide +kernel) ⟨Nat.le_of_ble_eq_true rfl, Nat.le_of_ble_eq_true rfl⟩) (g_preV (ci := 0) hR hK (hR.2.2.1.1) rfl) rfl rfl hl.1 rfl (lv_room (Nat.le_of_ble_eq_true rfl)) dX0_readCommand_76 ⟨by show _ ≤ 0; omega, by show _ ≤ 0; omega⟩) hS (fun w14 H locs hp hR hS => ?_)
        subst hp
        refine lv_goto (tgt := 118) hx hb dX0_readCommand_79 (by decide) ?_
        obtain rfl := g_s1 hf
        exact g_vret hx hb hlocks hr hS hR g_le.rf ⟨rfl, rfl⟩ (by omega) (by omega) dX0_readCommand_118
      · replace hf := g_if hf hc2_111
        by_cases hc3_112 : t6 = (112 : Int32)
        · replace hf := g_it hf hc3_112
          refine lv_lookup (off := 57) (tgt := 82) hx hb dX0_readCommand_25 (by decide) (by rw [hc3_112]; rfl) (by decide) ?_
          refine lv_aload_n hx hb dX0_readCommand_82 rfl (lv_at hl 0 rfl) ?_
          refine lv_aload_n hx hb dX0_readCommand_83 rfl (lv_at hl 0 rfl) ?_
          refine lv_bipush (v := 112) hx hb dX0_readCommand_84 (by decide) ?_
          refine lv_iconst (v := 0) hx hb dX0_readCommand_86 (by decide) ?_
          refine lv_iconst (v := 2) hx hb dX0_readCommand_87 (by decide) ?_
          obtain ⟨r15, z16, hc17, hf⟩ := g_bd_e hf
          refine g_call (va_runV (As := [.int (112 : Int32), .int (0 : Int32), .int (2 : Int32)]) (rest := [.ref (G.2.2 + 52)]) ⟨hx, hb, hml, hown, hts⟩ (c0_numberBehind l G E μ _ _ _ _ _ _ hc17) (cwV 3 hts gX0_readCommand_X0_numberBehind rfl rfl rfl (by decide +kernel) ⟨Nat.le_of_ble_eq_true rfl, Nat.le_of_ble_eq_true rfl⟩) (g_preV (ci := 0) hR hK (hR.2.2.1.1) rfl) rfl rfl hl.1 rfl (lv_room (Nat.le_of_ble_eq_true rfl)) dX0_readCommand_88 ⟨by show _ ≤ 0; omega, by show _ ≤ 0; omega⟩) hS (fun w18 H locs hp hR hS => ?_)
          subst hp
          refine g_p0_10 hx hb hts in_0 hown hK hS hR l_44 dX0_readCommand_91 (fun H locs hR hS => ?_)
          obtain ⟨z19, ez19, hf⟩ := g_let_e hf
          replace hR : g_R G E (g_setT μ z19) H := by rw [ez19]; exact hR
          refine lv_goto (tgt := 118) hx hb dX0_readCommand_94 (by decide) ?_
          obtain rfl := g_s1 hf
          exact g_vret hx hb hlocks hr hS hR g_le.rf ⟨rfl, rfl⟩ (by omega) (by omega) dX0_readCommand_118
        · replace hf := g_if hf hc3_112
          by_cases hc4_115 : t6 = (115 : Int32)
          · replace hf := g_it hf hc4_115
            refine lv_lookup (off := 43) (tgt := 68) hx hb dX0_readCommand_25 (by decide) (by rw [hc4_115]; rfl) (by decide) ?_
            refine lv_aload_n hx hb dX0_readCommand_68 rfl (lv_at hl 0 rfl) ?_
            obtain ⟨z20, hc21, hf⟩ := g_b1_e hf
            refine g_call (va_runV (As := []) (rest := []) ⟨hx, hb, hml, hown, hts⟩ (c0_readPurchase l G E μ _ _ hc21) (cwV 0 hts gX0_readCommand_X0_readPurchase rfl rfl rfl (by decide +kernel) ⟨Nat.le_of_ble_eq_true rfl, Nat.le_of_ble_eq_true rfl⟩) (g_preV (ci := 0) hR hK (hR.2.2.1.1) rfl) rfl rfl hl.1 rfl (lv_room (Nat.le_of_ble_eq_true rfl)) dX0_readCommand_69 ⟨by show _ ≤ 0; omega, by show _ ≤ 0; omega⟩) hS (fun w22 H locs hp hR hS => ?_)
            subst hp
            refine lv_goto (tgt := 118) hx hb dX0_readCommand_72 (by decide) ?_
            obtain rfl := g_s1 hf
            exact g_vret hx hb hlocks hr hS hR g_le.rf ⟨rfl, rfl⟩ (by omega) (by omega) dX0_readCommand_118
          · replace hf := g_if hf hc4_115
            refine lv_lookup (off := 88) (tgt := 113) hx hb dX0_readCommand_25 (by decide) (by show Op.lookupswitch.offset [(100, 72), (111, 50), (112, 57), (115, 43)] _ _ = _; rw [lv_osw (a := 100) hc1_100 (by decide), lv_osw (a := 111) hc2_111 (by decide), lv_osw (a := 112) hc3_112 (by decide), lv_osw (a := 115) hc4_115 (by decide)]; rfl) (by decide) ?_
            refine lv_aload_n hx hb dX0_readCommand_113 rfl (lv_at hl 0 rfl) ?_
            refine lv_iconst (v := 1) hx hb dX0_readCommand_114 (by decide) ?_
            refine g_p0_3 hx hb hts in_0 hown hK hS hR (by decide) l_22 dX0_readCommand_115 (fun H locs hR hS => ?_)
            obtain ⟨z23, ez23, hf⟩ := g_let_e hf
            replace hR : g_R G E (g_setT μ z23) H := by rw [ez23]; exact hR
            obtain rfl := g_s1 hf
            exact g_vret hx hb hlocks hr hS hR g_le.rf ⟨rfl, rfl⟩ (by omega) (by omega) dX0_readCommand_118
  unfold f0_readCommand at hf
  refine lv_aload_n hx hb dX0_readCommand_0 rfl (lv_at hl 0 rfl) ?_
  refine g_get hx hb hts in_0 hown hK hR.2.2.1.1 rfl 2 (by decide) l_19 rfl rfl dX0_readCommand_1 ?_
  refine lv_if_le (tgt := 13) hx hb dX0_readCommand_4 (by decide) (fun c1 => ?_) (fun c1 => ?_)
  · replace hf := g_it hf c1
    exact hB13 _  _ _ _ hf  hR hS (lv_sub hl [0] rfl)
  · replace hf := g_if hf c1
    refine lv_aload_n hx hb dX0_readCommand_7 rfl (lv_at hl 0 rfl) ?_
    refine lv_bipush (v := 59) hx hb dX0_readCommand_8 (by decide) ?_
    obtain ⟨z24, hc25, hf⟩ := g_b1_e hf
    refine g_call (va_runV (As := [.int (59 : Int32)]) (rest := []) ⟨hx, hb, hml, hown, hts⟩ (c0_expect l G E μ _ _ _ hc25) (cwV 1 hts gX0_readCommand_X0_expect rfl rfl rfl (by decide +kernel) ⟨Nat.le_of_ble_eq_true rfl, Nat.le_of_ble_eq_true rfl⟩) (g_preV (ci := 0) hR hK (hR.2.2.1.1) rfl) rfl rfl hl.1 rfl (lv_room (Nat.le_of_ble_eq_true rfl)) dX0_readCommand_10 ⟨by show _ ≤ 0; omega, by show _ ≤ 0; omega⟩) hS (fun w26 H locs hp hR hS => ?_)
    subst hp
    exact hB13 _  _ _ _ hf  hR hS (lv_sub hl [0] rfl)
set_option maxHeartbeats 4000000 in
set_option maxRecDepth 100000 in
theorem c0_rewind (l : Launch) (G : gG) (E : gEn) (μ : gMu) (z0 : gTx)  (zo : gTx) (hf : f0_rewind z0 = some zo) : Met l yX0_rewind wsX0_rewind ({ frames := 0, cells := 0, slots := 0, locals := 0 } : Room) (g_Pre G E (g_setT μ z0) [.ref (G.2.2 + 52)]) (g_Q G E (g_setT μ zo) (fun E' v => E' = E ∧ v = none)) 0 0 (g_A G) := by
  refine Met.ofW (cc := cX0_rewind) (maxL := 1) (ret := none) (by decide) rfl ?_
  intro p e s m args below meth c s₁ B hml hv
  obtain ⟨rfl, hR, hK⟩ := hv
  have hx := B.exec
  have hb := B.bytes
  have hr := B.returns
  have hts := atoms_spec (ws := wsX0_rewind) B.pre
  have hown : s.vm.findClass RX0 = some m.cls := findClass_of_methodNamed B.named
  have hlocks := B.notSynchronized
  have hS : va_S (g_A G) s.heap s.heap [] := va_S.rf
  have hl := lv_entry ([.ref (G.2.2 + 52)]) (n := 1) (Nat.le_of_ble_eq_true rfl)
  rw [lg_entry_eq]
  generalize (lg_sl ([.ref (G.2.2 + 52)]) ++ List.replicate (1 - (lg_sl ([.ref (G.2.2 + 52)])).length) Slot.unset).toArray = ls at hl ⊢
  have hl : lv_has ls 1 [(0, .ref (G.2.2 + 52))] := hl
  have in_0 : ∀ w ∈ u_ws RX0 TX0 12, w ∈ wsX0_rewind := ifX0_rewind_0
  have l_19 := hts (.fieldLink RX0 19 "GlassRacks$CommandText" "position" "I") (by decide +kernel)
  have l_22 := hts (.fieldLink RX0 22 "GlassRacks$CommandText" "faulty" "Z") (by decide +kernel)
  unfold f0_rewind at hf
  refine lv_aload_n hx hb dX0_rewind_0 rfl (lv_at hl 0 rfl) ?_
  refine lv_iconst (v := 0) hx hb dX0_rewind_1 (by decide) ?_
  refine g_p0_2 hx hb hts in_0 hown hK hS hR l_19 dX0_rewind_2 (fun H locs hR hS => ?_)
  obtain ⟨z1, ez1, hf⟩ := g_let_e hf
  replace hR : g_R G E (g_setT μ z1) H := by rw [ez1]; exact hR
  refine lv_aload_n hx hb dX0_rewind_5 rfl (lv_at hl 0 rfl) ?_
  refine lv_iconst (v := 0) hx hb dX0_rewind_6 (by decide) ?_
  refine g_p0_3 hx hb hts in_0 hown hK hS hR (by decide) l_22 dX0_rewind_7 (fun H locs hR hS => ?_)
  obtain ⟨z2, ez2, hf⟩ := g_let_e hf
  replace hR : g_R G E (g_setT μ z2) H := by rw [ez2]; exact hR
  obtain rfl := g_s1 hf
  exact g_vret hx hb hlocks hr hS hR g_le.rf ⟨rfl, rfl⟩ (by omega) (by omega) dX0_rewind_10
set_option maxHeartbeats 4000000 in
set_option maxRecDepth 100000 in
theorem c0_commandsOrFault (l : Launch) (G : gG) (E : gEn) (μ : gMu) (z0 : gTx)  (ro : Int32) (zo : gTx) (hf : f0_commandsOrFault z0 = some (ro, zo)) : Met l yX0_commandsOrFault wsX0_commandsOrFault ({ frames := 5, cells := 0, slots := 0, locals := 107 } : Room) (g_Pre G E (g_setT μ z0) [.ref (G.2.2 + 52)]) (g_Q G E (g_setT μ zo) (fun E' v => E' = E ∧ v = some (.int ro))) 0 0 (g_A G) := by
  refine Met.ofW (cc := cX0_commandsOrFault) (maxL := 2) (ret := some .int) (by decide) rfl ?_
  intro p e s m args below meth c s₁ B hml hv
  obtain ⟨rfl, hR, hK⟩ := hv
  have hx := B.exec
  have hb := B.bytes
  have hr := B.returns
  have hts := atoms_spec (ws := wsX0_commandsOrFault) B.pre
  have hown : s.vm.findClass RX0 = some m.cls := findClass_of_methodNamed B.named
  have hlocks := B.notSynchronized
  have hS : va_S (g_A G) s.heap s.heap [] := va_S.rf
  have hl := lv_entry ([.ref (G.2.2 + 52)]) (n := 2) (Nat.le_of_ble_eq_true rfl)
  rw [lg_entry_eq]
  generalize (lg_sl ([.ref (G.2.2 + 52)]) ++ List.replicate (2 - (lg_sl ([.ref (G.2.2 + 52)])).length) Slot.unset).toArray = ls at hl ⊢
  have hl : lv_has ls 2 [(0, .ref (G.2.2 + 52))] := hl
  have in_0 : ∀ w ∈ u_ws RX0 TX0 12, w ∈ wsX0_commandsOrFault := ifX0_commandsOrFault_0
  have l_15 := hts (.fieldLink RX0 15 "GlassRacks$CommandText" "length" "I") (by decide +kernel)
  have l_19 := hts (.fieldLink RX0 19 "GlassRacks$CommandText" "position" "I") (by decide +kernel)
  have l_22 := hts (.fieldLink RX0 22 "GlassRacks$CommandText" "faulty" "Z") (by decide +kernel)
  have hB6 : ∀ (n : Nat) (z0 : gTx) (x1 : Int32) (H : Heap) (locs : List Loc) (ls : Array Slot), f0_commandsOrFault_6 n z0 x1 = some (ro, zo) → g_R G E (g_setT μ z0) H → va_S (g_A G) s.heap H locs → lv_has ls 2 [(0, .ref (G.2.2 + 52)), (1, .int x1)] → W p l e (headSpec wsX0_commandsOrFault ({ frames := 5, cells := 0, slots := 0, locals := 107 } : Room)).room s m ([.ref (G.2.2 + 52)] : List Value).toArray below meth c H locs 0 0 (MQ below (g_Q G E (g_setT μ zo) (fun E' v => E' = E ∧ v = some (.int ro))) ([.ref (G.2.2 + 52)] : List Value).toArray s 0 0 (g_A G)) (F0 m 6 ls []) := by
    intro n
    induction n with
    | zero =>
      intro z0 x1 H locs ls hf
      rw [f0_commandsOrFault_6] at hf
      cases hf
    | succ n ih =>
      intro z0 x1 H locs ls hf  hR hS hl
      rw [f0_commandsOrFault_6] at hf
      refine lv_iload_n hx hb dX0_commandsOrFault_6 rfl (lv_at hl 1 rfl) ?_
      refine lv_bipush (v := 60) hx hb dX0_commandsOrFault_7 (by decide) ?_
      refine lv_icmp_gt (tgt := 45) hx hb dX0_commandsOrFault_9 (by decide) (fun c4 => ?_) (fun c4 => ?_)
      · replace hf := g_it hf c4
        refine lv_bipush (v := -100) hx hb dX0_commandsOrFault_45 (by decide) ?_
        refine lv_aload_n hx hb dX0_commandsOrFault_47 rfl (lv_at hl 0 rfl) ?_
        refine g_get hx hb hts in_0 hown hK hR.2.2.1.1 rfl 2 (by decide) l_19 rfl rfl dX0_commandsOrFault_48 ?_
        refine lv_isub hx hb dX0_commandsOrFault_51 ?_
        obtain ⟨rfl, rfl⟩ := g_sp hf
        exact g_iret hx hb hlocks hr hS hR g_le.rf ⟨rfl, rfl⟩ (by omega) (by omega) dX0_commandsOrFault_52
      · replace hf := g_if hf c4
        refine lv_aload_n hx hb dX0_commandsOrFault_12 rfl (lv_at hl 0 rfl) ?_
        obtain ⟨z5, hc6, hf⟩ := g_b1_e hf
        refine g_call (va_runV (As := []) (rest := []) ⟨hx, hb, hml, hown, hts⟩ (c0_readCommand l G E μ _ _ hc6) (cwV 0 hts gX0_commandsOrFault_X0_readCommand rfl rfl rfl (by decide +kernel) ⟨Nat.le_of_ble_eq_true rfl, Nat.le_of_ble_eq_true rfl⟩) (g_preV (ci := 0) hR hK (hR.2.2.1.1) rfl) rfl rfl hl.1 rfl (lv_room (Nat.le_of_ble_eq_true rfl)) dX0_commandsOrFault_13 ⟨by show _ ≤ 0; omega, by show _ ≤ 0; omega⟩) hS (fun w7 H locs hp hR hS => ?_)
        subst hp
        refine lv_aload_n hx hb dX0_commandsOrFault_16 rfl (lv_at hl 0 rfl) ?_
        refine g_get hx hb hts in_0 hown hK hR.2.2.1.1 rfl 3 (by decide) l_22 rfl rfl dX0_commandsOrFault_17 ?_
        refine lv_if_eq (tgt := 26) hx hb dX0_commandsOrFault_20 (by decide) (fun c8 => ?_) (fun c8 => ?_)
        · replace hf := g_it hf c8
          refine lv_aload_n hx hb dX0_commandsOrFault_26 rfl (lv_at hl 0 rfl) ?_
          refine g_get hx hb hts in_0 hown hK hR.2.2.1.1 rfl 2 (by decide) l_19 rfl rfl dX0_commandsOrFault_27 ?_
          refine lv_aload_n hx hb dX0_commandsOrFault_30 rfl (lv_at hl 0 rfl) ?_
          refine g_get hx hb hts in_0 hown hK hR.2.2.1.1 rfl 1 (by decide) l_15 rfl rfl dX0_commandsOrFault_31 ?_
          refine lv_icmp_lt (tgt := 39) hx hb dX0_commandsOrFault_34 (by decide) (fun c9 => ?_) (fun c9 => ?_)
          · replace hf := g_it hf c9
            refine lv_iinc (v := x1 + 1) (lv' := [(1, .int (x1 + 1)), (0, .ref (G.2.2 + 52))]) hx hb dX0_commandsOrFault_39 hl (k := 1) rfl rfl (by decide) rfl (fun ls hl => ?_)
            refine lv_goto (tgt := 6) hx hb dX0_commandsOrFault_42 (by decide) ?_
            exact ih _ _ _ _ _ hf  hR hS (lv_sub hl [1, 0] rfl)
          · replace hf := g_if hf c9
            refine lv_iload_n hx hb dX0_commandsOrFault_37 rfl (lv_at hl 1 rfl) ?_
            obtain ⟨rfl, rfl⟩ := g_sp hf
            exact g_iret hx hb hlocks hr hS hR g_le.rf ⟨rfl, rfl⟩ (by omega) (by omega) dX0_commandsOrFault_38
        · replace hf := g_if hf c8
          refine lv_goto (tgt := 45) hx hb dX0_commandsOrFault_23 (by decide) ?_
          refine lv_bipush (v := -100) hx hb dX0_commandsOrFault_45 (by decide) ?_
          refine lv_aload_n hx hb dX0_commandsOrFault_47 rfl (lv_at hl 0 rfl) ?_
          refine g_get hx hb hts in_0 hown hK hR.2.2.1.1 rfl 2 (by decide) l_19 rfl rfl dX0_commandsOrFault_48 ?_
          refine lv_isub hx hb dX0_commandsOrFault_51 ?_
          obtain ⟨rfl, rfl⟩ := g_sp hf
          exact g_iret hx hb hlocks hr hS hR g_le.rf ⟨rfl, rfl⟩ (by omega) (by omega) dX0_commandsOrFault_52
  unfold f0_commandsOrFault at hf
  refine lv_aload_n hx hb dX0_commandsOrFault_0 rfl (lv_at hl 0 rfl) ?_
  obtain ⟨z1, hc2, hf⟩ := g_b1_e hf
  refine g_call (va_runV (As := []) (rest := []) ⟨hx, hb, hml, hown, hts⟩ (c0_rewind l G E μ _ _ hc2) (cwV 0 hts gX0_commandsOrFault_X0_rewind rfl rfl rfl (by decide +kernel) ⟨Nat.le_of_ble_eq_true rfl, Nat.le_of_ble_eq_true rfl⟩) (g_preV (ci := 0) hR hK (hR.2.2.1.1) rfl) rfl rfl hl.1 rfl (lv_room (Nat.le_of_ble_eq_true rfl)) dX0_commandsOrFault_1 ⟨by show _ ≤ 0; omega, by show _ ≤ 0; omega⟩) hS (fun w3 H locs hp hR hS => ?_)
  subst hp
  refine lv_iconst (v := 1) hx hb dX0_commandsOrFault_4 (by decide) ?_
  refine lv_istore_n (lv' := [(1, .int (1 : Int32)), (0, .ref (G.2.2 + 52))]) hx hb dX0_commandsOrFault_5 rfl hl (by decide) rfl (fun ls hl => ?_)
  exact hB6 70 _ _ _ _ _ hf  hR hS (lv_sub hl [1, 0] rfl)
