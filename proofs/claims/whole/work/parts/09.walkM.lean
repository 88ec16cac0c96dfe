set_option maxHeartbeats 4000000 in
set_option maxRecDepth 100000 in
theorem c10_its (l : Launch) (G : gG) (E : gEn) (μ : gMu) (z0 : gMo) (p1 : Int32) (p2 : Int32) (ro : Int32) (hf : f10_its z0 p1 p2 = some ro) : Met l yX10_its wsX10_its ({ frames := 0, cells := 0, slots := 0, locals := 0 } : Room) (g_Pre G E (g_setM μ z0) [.ref (G.2.2 + 54), .int p1, .int p2]) (g_Q G E (g_setM μ z0) (fun E' v => E' = E ∧ v = some (.int ro))) 0 0 (g_A G) := by
  refine Met.ofW (cc := cX10_its) (maxL := 3) (ret := some .int) (by decide) rfl ?_
  intro p e s m args below meth c s₁ B hml hv
  obtain ⟨rfl, hR, hK⟩ := hv
  have hx := B.exec
  have hb := B.bytes
  have hr := B.returns
  have hts := atoms_spec (ws := wsX10_its) B.pre
  have hown : s.vm.findClass RX10 = some m.cls := findClass_of_methodNamed B.named
  have hlocks := B.notSynchronized
  have hS : va_S (g_A G) s.heap s.heap [] := va_S.rf
  have hl := lv_entry ([.ref (G.2.2 + 54), .int p1, .int p2]) (n := 3) (Nat.le_of_ble_eq_true rfl)
  rw [lg_entry_eq]
  generalize (lg_sl ([.ref (G.2.2 + 54), .int p1, .int p2]) ++ List.replicate (3 - (lg_sl ([.ref (G.2.2 + 54), .int p1, .int p2])).length) Slot.unset).toArray = ls at hl ⊢
  have hl : lv_has ls 3 [(0, .ref (G.2.2 + 54)), (1, .int p1), (2, .int p2)] := hl
  have in_10 : ∀ w ∈ u_ws RX10 TX10 9, w ∈ wsX10_its := ifX10_its_10
  have l_7 := hts (.fieldLink RX10 7 "GlassRacksModel" "now" "[I") (by decide +kernel)
  unfold f10_its at hf
  refine lv_aload_n hx hb dX10_its_0 rfl (lv_at hl 0 rfl) ?_
  refine g_get hx hb hts in_10 hown hK hR.2.2.2.2.1.1 rfl 0 (by decide) l_7 rfl rfl dX10_its_1 ?_
  refine lv_bipush (v := 50) hx hb dX10_its_4 (by decide) ?_
  refine lv_iconst (v := 5) hx hb dX10_its_6 (by decide) ?_
  refine lv_iload_n hx hb dX10_its_7 rfl (lv_at hl 1 rfl) ?_
  refine lv_imul hx hb dX10_its_8 ?_
  refine lv_iadd hx hb dX10_its_9 ?_
  refine lv_iload_n hx hb dX10_its_10 rfl (lv_at hl 2 rfl) ?_
  refine lv_iadd hx hb dX10_its_11 ?_
  obtain ⟨hg1, hf⟩ := g_gd hf
  refine g_aild hx hb hK hR (by decide) hg1 dX10_its_12 ?_
  obtain rfl := g_s1 hf
  exact g_iret hx hb hlocks hr hS hR g_le.rf ⟨rfl, rfl⟩ (by omega) (by omega) dX10_its_13
set_option maxHeartbeats 4000000 in
set_option maxRecDepth 100000 in
theorem c10_area (l : Launch) (G : gG) (E : gEn) (μ : gMu) (z0 : gMo) (p1 : Int32) (ro : Int32) (hf : f10_area z0 p1 = some ro) : Met l yX10_area wsX10_area ({ frames := 1, cells := 0, slots := 0, locals := 22 } : Room) (g_Pre G E (g_setM μ z0) [.ref (G.2.2 + 54), .int p1]) (g_Q G E (g_setM μ z0) (fun E' v => E' = E ∧ v = some (.int ro))) 0 0 (g_A G) := by
  refine Met.ofW (cc := cX10_area) (maxL := 2) (ret := some .int) (by decide) rfl ?_
  intro p e s m args below meth c s₁ B hml hv
  obtain ⟨rfl, hR, hK⟩ := hv
  have hx := B.exec
  have hb := B.bytes
  have hr := B.returns
  have hts := atoms_spec (ws := wsX10_area) B.pre
  have hown : s.vm.findClass RX10 = some m.cls := findClass_of_methodNamed B.named
  have hlocks := B.notSynchronized
  have hS : va_S (g_A G) s.heap s.heap [] := va_S.rf
  have hl := lv_entry ([.ref (G.2.2 + 54), .int p1]) (n := 2) (Nat.le_of_ble_eq_true rfl)
  rw [lg_entry_eq]
  generalize (lg_sl ([.ref (G.2.2 + 54), .int p1]) ++ List.replicate (2 - (lg_sl ([.ref (G.2.2 + 54), .int p1])).length) Slot.unset).toArray = ls at hl ⊢
  have hl : lv_has ls 2 [(0, .ref (G.2.2 + 54)), (1, .int p1)] := hl
  unfold f10_area at hf
  refine lv_aload_n hx hb dX10_area_0 rfl (lv_at hl 0 rfl) ?_
  refine lv_iload_n hx hb dX10_area_1 rfl (lv_at hl 1 rfl) ?_
  refine lv_iconst (v := 1) hx hb dX10_area_2 (by decide) ?_
  obtain ⟨r1, hc2, hf⟩ := g_b1_e hf
  refine g_call (va_runV (As := [.int p1, .int (1 : Int32)]) (rest := []) ⟨hx, hb, hml, hown, hts⟩ (c10_its l G E μ _ _ _ _ hc2) (cwV 2 hts gX10_area_X10_its rfl rfl rfl (by decide +kernel) ⟨Nat.le_of_ble_eq_true rfl, Nat.le_of_ble_eq_true rfl⟩) (g_preV (ci := 10) hR hK (hR.2.2.2.2.1.1) rfl) rfl rfl hl.1 rfl (lv_room (Nat.le_of_ble_eq_true rfl)) dX10_area_3 ⟨by show _ ≤ 0; omega, by show _ ≤ 0; omega⟩) hS (fun w3 H locs hp hR hS => ?_)
  subst hp
  refine lv_aload_n hx hb dX10_area_6 rfl (lv_at hl 0 rfl) ?_
  refine lv_iload_n hx hb dX10_area_7 rfl (lv_at hl 1 rfl) ?_
  refine lv_iconst (v := 2) hx hb dX10_area_8 (by decide) ?_
  obtain ⟨r4, hc5, hf⟩ := g_b1_e hf
  refine g_call (va_runV (As := [.int p1, .int (2 : Int32)]) (rest := [.int r1]) ⟨hx, hb, hml, hown, hts⟩ (c10_its l G E μ _ _ _ _ hc5) (cwV 2 hts gX10_area_X10_its rfl rfl rfl (by decide +kernel) ⟨Nat.le_of_ble_eq_true rfl, Nat.le_of_ble_eq_true rfl⟩) (g_preV (ci := 10) hR hK (hR.2.2.2.2.1.1) rfl) rfl rfl hl.1 rfl (lv_room (Nat.le_of_ble_eq_true rfl)) dX10_area_9 ⟨by show _ ≤ 0; omega, by show _ ≤ 0; omega⟩) hS (fun w6 H locs hp hR hS => ?_)
  subst hp
  refine lv_imul hx hb dX10_area_12 ?_
  obtain rfl := g_s1 hf
  exact g_iret hx hb hlocks hr hS hR g_le.rf ⟨rfl, rfl⟩ (by omega) (by omega) dX10_area_13
set_option maxHeartbeats 4000000 in
set_option maxRecDepth 100000 in
theorem c10_in (l : Launch) (G : gG) (E : gEn) (μ : gMu) (p0 : Int32) (p1 : Int32) (p2 : Int32) (ro : Int32) (hf : f10_in p0 p1 p2 = some ro) : Met l yX10_in wsX10_in ({ frames := 0, cells := 0, slots := 0, locals := 0 } : Room) (g_Pre G E μ [.int p0, .int p1, .int p2]) (g_Q G E μ (fun E' v => E' = E ∧ v = some (.int ro))) 0 0 (g_A G) := by
  refine Met.ofW (cc := cX10_in) (maxL := 3) (ret := some .boolean) (by decide) rfl ?_
  intro p e s m args below meth c s₁ B hml hv
  obtain ⟨rfl, hR, hK⟩ := hv
  have hx := B.exec
  have hb := B.bytes
  have hr := B.returns
  have hts := atoms_spec (ws := wsX10_in) B.pre
  have hown : s.vm.findClass RX10 = some m.cls := findClass_of_methodNamed B.named
  have hlocks := B.notSynchronized
  have hS : va_S (g_A G) s.heap s.heap [] := va_S.rf
  have hl := lv_entry ([.int p0, .int p1, .int p2]) (n := 3) (Nat.le_of_ble_eq_true rfl)
  rw [lg_entry_eq]
  generalize (lg_sl ([.int p0, .int p1, .int p2]) ++ List.replicate (3 - (lg_sl ([.int p0, .int p1, .int p2])).length) Slot.unset).toArray = ls at hl ⊢
  have hl : lv_has ls 3 [(0, .int p0), (1, .int p1), (2, .int p2)] := hl
  unfold f10_in at hf
  refine lv_iload_n hx hb dX10_in_0 rfl (lv_at hl 0 rfl) ?_
  refine lv_iload_n hx hb dX10_in_1 rfl (lv_at hl 1 rfl) ?_
  refine lv_icmp_lt (tgt := 14) hx hb dX10_in_2 (by decide) (fun c1 => ?_) (fun c1 => ?_)
  · replace hf := g_it hf c1
    refine lv_iconst (v := 0) hx hb dX10_in_14 (by decide) ?_
    obtain rfl := g_s1 hf
    exact g_zret hx hb hlocks hr hS hR g_le.rf (by decide) ⟨rfl, rfl⟩ (by omega) (by omega) dX10_in_15
  · replace hf := g_if hf c1
    refine lv_iload_n hx hb dX10_in_5 rfl (lv_at hl 0 rfl) ?_
    refine lv_iload_n hx hb dX10_in_6 rfl (lv_at hl 2 rfl) ?_
    refine lv_icmp_gt (tgt := 14) hx hb dX10_in_7 (by decide) (fun c2 => ?_) (fun c2 => ?_)
    · replace hf := g_it hf c2
      refine lv_iconst (v := 0) hx hb dX10_in_14 (by decide) ?_
      obtain rfl := g_s1 hf
      exact g_zret hx hb hlocks hr hS hR g_le.rf (by decide) ⟨rfl, rfl⟩ (by omega) (by omega) dX10_in_15
    · replace hf := g_if hf c2
      refine lv_iconst (v := 1) hx hb dX10_in_10 (by decide) ?_
      refine lv_goto (tgt := 15) hx hb dX10_in_11 (by decide) ?_
      obtain rfl := g_s1 hf
      exact g_zret hx hb hlocks hr hS hR g_le.rf (by decide) ⟨rfl, rfl⟩ (by omega) (by omega) dX10_in_15
set_option maxHeartbeats 4000000 in
set_option maxRecDepth 100000 in
theorem c10_many (l : Launch) (G : gG) (E : gEn) (μ : gMu) (z0 : gMo) (p1 : Int32) (ro : Int32) (hf : f10_many z0 p1 = some ro) : Met l yX10_many wsX10_many ({ frames := 0, cells := 0, slots := 0, locals := 0 } : Room) (g_Pre G E (g_setM μ z0) [.ref (G.2.2 + 54), .int p1]) (g_Q G E (g_setM μ z0) (fun E' v => E' = E ∧ v = some (.int ro))) 0 0 (g_A G) := by
  refine Met.ofW (cc := cX10_many) (maxL := 2) (ret := some .int) (by decide) rfl ?_
  intro p e s m args below meth c s₁ B hml hv
  obtain ⟨rfl, hR, hK⟩ := hv
  have hx := B.exec
  have hb := B.bytes
  have hr := B.returns
  have hts := atoms_spec (ws := wsX10_many) B.pre
  have hown : s.vm.findClass RX10 = some m.cls := findClass_of_methodNamed B.named
  have hlocks := B.notSynchronized
  have hS : va_S (g_A G) s.heap s.heap [] := va_S.rf
  have hl := lv_entry ([.ref (G.2.2 + 54), .int p1]) (n := 2) (Nat.le_of_ble_eq_true rfl)
  rw [lg_entry_eq]
  generalize (lg_sl ([.ref (G.2.2 + 54), .int p1]) ++ List.replicate (2 - (lg_sl ([.ref (G.2.2 + 54), .int p1])).length) Slot.unset).toArray = ls at hl ⊢
  have hl : lv_has ls 2 [(0, .ref (G.2.2 + 54)), (1, .int p1)] := hl
  have in_10 : ∀ w ∈ u_ws RX10 TX10 9, w ∈ wsX10_many := ifX10_many_10
  have l_7 := hts (.fieldLink RX10 7 "GlassRacksModel" "now" "[I") (by decide +kernel)
  unfold f10_many at hf
  refine lv_aload_n hx hb dX10_many_0 rfl (lv_at hl 0 rfl) ?_
  refine g_get hx hb hts in_10 hown hK hR.2.2.2.2.1.1 rfl 0 (by decide) l_7 rfl rfl dX10_many_1 ?_
  refine lv_bipush (v := 14) hx hb dX10_many_4 (by decide) ?_
  refine lv_bipush (v := 9) hx hb dX10_many_6 (by decide) ?_
  refine lv_iload_n hx hb dX10_many_8 rfl (lv_at hl 1 rfl) ?_
  refine lv_imul hx hb dX10_many_9 ?_
  refine lv_iadd hx hb dX10_many_10 ?_
  obtain ⟨hg1, hf⟩ := g_gd hf
  refine g_aild hx hb hK hR (by decide) hg1 dX10_many_11 ?_
  obtain rfl := g_s1 hf
  exact g_iret hx hb hlocks hr hS hR g_le.rf ⟨rfl, rfl⟩ (by omega) (by omega) dX10_many_12
set_option maxHeartbeats 4000000 in
set_option maxRecDepth 100000 in
theorem c10_standing (l : Launch) (G : gG) (E : gEn) (μ : gMu) (z0 : gMo) (p1 : Int32) (p2 : Int32) (ro : Int32) (hf : f10_standing z0 p1 p2 = some ro) : Met l yX10_standing wsX10_standing ({ frames := 0, cells := 0, slots := 0, locals := 0 } : Room) (g_Pre G E (g_setM μ z0) [.ref (G.2.2 + 54), .int p1, .int p2]) (g_Q G E (g_setM μ z0) (fun E' v => E' = E ∧ v = some (.int ro))) 0 0 (g_A G) := by
  refine Met.ofW (cc := cX10_standing) (maxL := 3) (ret := some .int) (by decide) rfl ?_
  intro p e s m args below meth c s₁ B hml hv
  obtain ⟨rfl, hR, hK⟩ := hv
  have hx := B.exec
  have hb := B.bytes
  have hr := B.returns
  have hts := atoms_spec (ws := wsX10_standing) B.pre
  have hown : s.vm.findClass RX10 = some m.cls := findClass_of_methodNamed B.named
  have hlocks := B.notSynchronized
  have hS : va_S (g_A G) s.heap s.heap [] := va_S.rf
  have hl := lv_entry ([.ref (G.2.2 + 54), .int p1, .int p2]) (n := 3) (Nat.le_of_ble_eq_true rfl)
  rw [lg_entry_eq]
  generalize (lg_sl ([.ref (G.2.2 + 54), .int p1, .int p2]) ++ List.replicate (3 - (lg_sl ([.ref (G.2.2 + 54), .int p1, .int p2])).length) Slot.unset).toArray = ls at hl ⊢
  have hl : lv_has ls 3 [(0, .ref (G.2.2 + 54)), (1, .int p1), (2, .int p2)] := hl
  have in_10 : ∀ w ∈ u_ws RX10 TX10 9, w ∈ wsX10_standing := ifX10_standing_10
  have l_7 := hts (.fieldLink RX10 7 "GlassRacksModel" "now" "[I") (by decide +kernel)
  unfold f10_standing at hf
  refine lv_aload_n hx hb dX10_standing_0 rfl (lv_at hl 0 rfl) ?_
  refine g_get hx hb hts in_10 hown hK hR.2.2.2.2.1.1 rfl 0 (by decide) l_7 rfl rfl dX10_standing_1 ?_
  refine lv_bipush (v := 14) hx hb dX10_standing_4 (by decide) ?_
  refine lv_bipush (v := 9) hx hb dX10_standing_6 (by decide) ?_
  refine lv_iload_n hx hb dX10_standing_8 rfl (lv_at hl 1 rfl) ?_
  refine lv_imul hx hb dX10_standing_9 ?_
  refine lv_iadd hx hb dX10_standing_10 ?_
  refine lv_iconst (v := 1) hx hb dX10_standing_11 (by decide) ?_
  refine lv_iadd hx hb dX10_standing_12 ?_
  refine lv_iload_n hx hb dX10_standing_13 rfl (lv_at hl 2 rfl) ?_
  refine lv_iadd hx hb dX10_standing_14 ?_
  obtain ⟨hg1, hf⟩ := g_gd hf
  refine g_aild hx hb hK hR (by decide) hg1 dX10_standing_15 ?_
  obtain rfl := g_s1 hf
  exact g_iret hx hb hlocks hr hS hR g_le.rf ⟨rfl, rfl⟩ (by omega) (by omega) dX10_standing_16
set_option maxHeartbeats 4000000 in
set_option maxRecDepth 100000 in
theorem c10_at (l : Launch) (G : gG) (E : gEn) (μ : gMu) (z0 : gMo) (p1 : Int32) (p2 : Int32) (ro : Int32) (hf : f10_at z0 p1 p2 = some ro) : Met l yX10_at wsX10_at ({ frames := 1, cells := 0, slots := 0, locals := 22 } : Room) (g_Pre G E (g_setM μ z0) [.ref (G.2.2 + 54), .int p1, .int p2]) (g_Q G E (g_setM μ z0) (fun E' v => E' = E ∧ v = some (.int ro))) 0 0 (g_A G) := by
  refine Met.ofW (cc := cX10_at) (maxL := 3) (ret := some .int) (by decide) rfl ?_
  intro p e s m args below meth c s₁ B hml hv
  obtain ⟨rfl, hR, hK⟩ := hv
  have hx := B.exec
  have hb := B.bytes
  have hr := B.returns
  have hts := atoms_spec (ws := wsX10_at) B.pre
  have hown : s.vm.findClass RX10 = some m.cls := findClass_of_methodNamed B.named
  have hlocks := B.notSynchronized
  have hS : va_S (g_A G) s.heap s.heap [] := va_S.rf
  have hl := lv_entry ([.ref (G.2.2 + 54), .int p1, .int p2]) (n := 3) (Nat.le_of_ble_eq_true rfl)
  rw [lg_entry_eq]
  generalize (lg_sl ([.ref (G.2.2 + 54), .int p1, .int p2]) ++ List.replicate (3 - (lg_sl ([.ref (G.2.2 + 54), .int p1, .int p2])).length) Slot.unset).toArray = ls at hl ⊢
  have hl : lv_has ls 3 [(0, .ref (G.2.2 + 54)), (1, .int p1), (2, .int p2)] := hl
  unfold f10_at at hf
  refine lv_iload_n hx hb dX10_at_0 rfl (lv_at hl 1 rfl) ?_
  refine lv_iconst (v := 0) hx hb dX10_at_1 (by decide) ?_
  refine lv_iconst (v := 3) hx hb dX10_at_2 (by decide) ?_
  obtain ⟨r1, hc2, hf⟩ := g_b1_e hf
  refine g_call (va_runS (As := [.int p1, .int (0 : Int32), .int (3 : Int32)]) (rest := []) ⟨hx, hb, hml, hown, hts⟩ (c10_in l G E (g_setM μ z0) _ _ _ _ hc2) (cwS 3 hts gX10_at_X10_in rfl rfl rfl (by decide +kernel) ⟨Nat.le_of_ble_eq_true rfl, Nat.le_of_ble_eq_true rfl⟩) (g_pre hR hK) rfl rfl hl.1 rfl (lv_room (Nat.le_of_ble_eq_true rfl)) dX10_at_3 ⟨by show _ ≤ 0; omega, by show _ ≤ 0; omega⟩) hS (fun w3 H locs hp hR hS => ?_)
  subst hp
  refine lv_if_ne (tgt := 11) hx hb dX10_at_6 (by decide) (fun c4 => ?_) (fun c4 => ?_)
  · replace hf := g_it hf c4
    refine lv_iload_n hx hb dX10_at_11 rfl (lv_at hl 2 rfl) ?_
    refine lv_if_ge (tgt := 18) hx hb dX10_at_12 (by decide) (fun c5 => ?_) (fun c5 => ?_)
    · replace hf := g_it hf c5
      refine lv_iload_n hx hb dX10_at_18 rfl (lv_at hl 2 rfl) ?_
      refine lv_aload_n hx hb dX10_at_19 rfl (lv_at hl 0 rfl) ?_
      refine lv_iload_n hx hb dX10_at_20 rfl (lv_at hl 1 rfl) ?_
      obtain ⟨r6, hc7, hf⟩ := g_b1_e hf
      refine g_call (va_runV (As := [.int p1]) (rest := [.int p2]) ⟨hx, hb, hml, hown, hts⟩ (c10_many l G E μ _ _ _ hc7) (cwV 1 hts gX10_at_X10_many rfl rfl rfl (by decide +kernel) ⟨Nat.le_of_ble_eq_true rfl, Nat.le_of_ble_eq_true rfl⟩) (g_preV (ci := 10) hR hK (hR.2.2.2.2.1.1) rfl) rfl rfl hl.1 rfl (lv_room (Nat.le_of_ble_eq_true rfl)) dX10_at_21 ⟨by show _ ≤ 0; omega, by show _ ≤ 0; omega⟩) hS (fun w8 H locs hp hR hS => ?_)
      subst hp
      refine lv_icmp_ge (tgt := 36) hx hb dX10_at_24 (by decide) (fun c9 => ?_) (fun c9 => ?_)
      · replace hf := g_it hf c9
        refine lv_bipush (v := -5) hx hb dX10_at_36 (by decide) ?_
        obtain rfl := g_s1 hf
        exact g_iret hx hb hlocks hr hS hR g_le.rf ⟨rfl, rfl⟩ (by omega) (by omega) dX10_at_38
      · replace hf := g_if hf c9
        refine lv_aload_n hx hb dX10_at_27 rfl (lv_at hl 0 rfl) ?_
        refine lv_iload_n hx hb dX10_at_28 rfl (lv_at hl 1 rfl) ?_
        refine lv_iload_n hx hb dX10_at_29 rfl (lv_at hl 2 rfl) ?_
        obtain ⟨r10, hc11, hf⟩ := g_b1_e hf
        refine g_call (va_runV (As := [.int p1, .int p2]) (rest := []) ⟨hx, hb, hml, hown, hts⟩ (c10_standing l G E μ _ _ _ _ hc11) (cwV 2 hts gX10_at_X10_standing rfl rfl rfl (by decide +kernel) ⟨Nat.le_of_ble_eq_true rfl, Nat.le_of_ble_eq_true rfl⟩) (g_preV (ci := 10) hR hK (hR.2.2.2.2.1.1) rfl) rfl rfl hl.1 rfl (lv_room (Nat.le_of_ble_eq_true rfl)) dX10_at_30 ⟨by show _ ≤ 0; omega, by show _ ≤ 0; omega⟩) hS (fun w12 H locs hp hR hS => ?_)
        subst hp
        refine lv_goto (tgt := 38) hx hb dX10_at_33 (by decide) ?_
        obtain rfl := g_s1 hf
        exact g_iret hx hb hlocks hr hS hR g_le.rf ⟨rfl, rfl⟩ (by omega) (by omega) dX10_at_38
    · replace hf := g_if hf c5
      refine lv_bipush (v := -2) hx hb dX10_at_15 (by decide) ?_
      obtain rfl := g_s1 hf
      exact g_iret hx hb hlocks hr hS hR g_le.rf ⟨rfl, rfl⟩ (by omega) (by omega) dX10_at_17
  · replace hf := g_if hf (fun q => q c4)
    refine lv_iconst (v := -1) hx hb dX10_at_9 (by decide) ?_
    obtain rfl := g_s1 hf
    exact g_iret hx hb hlocks hr hS hR g_le.rf ⟨rfl, rfl⟩ (by omega) (by omega) dX10_at_10
set_option maxHeartbeats 4000000 in
set_option maxRecDepth 100000 in
theorem c10_before (l : Launch) (G : gG) (E : gEn) (μ : gMu) (z0 : gMo) (p1 : Int32) (ro : Int32) (hf : f10_before z0 p1 = some ro) : Met l yX10_before wsX10_before ({ frames := 1, cells := 0, slots := 0, locals := 22 } : Room) (g_Pre G E (g_setM μ z0) [.ref (G.2.2 + 54), .int p1]) (g_Q G E (g_setM μ z0) (fun E' v => E' = E ∧ v = some (.int ro))) 0 0 (g_A G) := by
  refine Met.ofW (cc := cX10_before) (maxL := 3) (ret := some .int) (by decide) rfl ?_
  intro p e s m args below meth c s₁ B hml hv
  obtain ⟨rfl, hR, hK⟩ := hv
  have hx := B.exec
  have hb := B.bytes
  have hr := B.returns
  have hts := atoms_spec (ws := wsX10_before) B.pre
  have hown : s.vm.findClass RX10 = some m.cls := findClass_of_methodNamed B.named
  have hlocks := B.notSynchronized
  have hS : va_S (g_A G) s.heap s.heap [] := va_S.rf
  have hl := lv_entry ([.ref (G.2.2 + 54), .int p1]) (n := 3) (Nat.le_of_ble_eq_true rfl)
  rw [lg_entry_eq]
  generalize (lg_sl ([.ref (G.2.2 + 54), .int p1]) ++ List.replicate (3 - (lg_sl ([.ref (G.2.2 + 54), .int p1])).length) Slot.unset).toArray = ls at hl ⊢
  have hl : lv_has ls 3 [(0, .ref (G.2.2 + 54)), (1, .int p1)] := hl
  have hB2 : ∀ (n : Nat) (z0 : gMo) (x1 : Int32) (x2 : Int32) (H : Heap) (locs : List Loc) (ls : Array Slot), f10_before_2 n z0 x1 x2 = some ro → g_R G E (g_setM μ z0) H → va_S (g_A G) s.heap H locs → lv_has ls 3 [(0, .ref (G.2.2 + 54)), (1, .int x1), (2, .int x2)] → W p l e (headSpec wsX10_before ({ frames := 1, cells := 0, slots := 0, locals := 22 } : Room)).room s m ([.ref (G.2.2 + 54), .int p1] : List Value).toArray below meth c H locs 0 0 (MQ below (g_Q G E (g_setM μ z0) (fun E' v => E' = E ∧ v = some (.int ro))) ([.ref (G.2.2 + 54), .int p1] : List Value).toArray s 0 0 (g_A G)) (F0 m 2 ls []) := by
    intro n
    induction n with
    | zero =>
      intro z0 x1 x2 H locs ls hf
      rw [f10_before_2] at hf
      cases hf
    | succ n ih =>
      intro z0 x1 x2 H locs ls hf  hR hS hl
      rw [f10_before_2] at hf
      refine lv_aload_n hx hb dX10_before_2 rfl (lv_at hl 0 rfl) ?_
      refine lv_aload_n hx hb dX10_before_3 rfl (lv_at hl 0 rfl) ?_
      refine lv_iload_n hx hb dX10_before_4 rfl (lv_at hl 1 rfl) ?_
      refine lv_iconst (v := 3) hx hb dX10_before_5 (by decide) ?_
      obtain ⟨r1, hc2, hf⟩ := g_b1_e hf
      refine g_call (va_runV (As := [.int x1, .int (3 : Int32)]) (rest := [.ref (G.2.2 + 54)]) ⟨hx, hb, hml, hown, hts⟩ (c10_its l G E μ _ _ _ _ hc2) (cwV 2 hts gX10_before_X10_its rfl rfl rfl (by decide +kernel) ⟨Nat.le_of_ble_eq_true rfl, Nat.le_of_ble_eq_true rfl⟩) (g_preV (ci := 10) hR hK (hR.2.2.2.2.1.1) rfl) rfl rfl hl.1 rfl (lv_room (Nat.le_of_ble_eq_true rfl)) dX10_before_6 ⟨by show _ ≤ 0; omega, by show _ ≤ 0; omega⟩) hS (fun w3 H locs hp hR hS => ?_)
      subst hp
      refine lv_iload_n hx hb dX10_before_9 rfl (lv_at hl 2 rfl) ?_
      obtain ⟨r4, hc5, hf⟩ := g_b1_e hf
      refine g_call (va_runV (As := [.int r1, .int x2]) (rest := []) ⟨hx, hb, hml, hown, hts⟩ (c10_standing l G E μ _ _ _ _ hc5) (cwV 2 hts gX10_before_X10_standing rfl rfl rfl (by decide +kernel) ⟨Nat.le_of_ble_eq_true rfl, Nat.le_of_ble_eq_true rfl⟩) (g_preV (ci := 10) hR hK (hR.2.2.2.2.1.1) rfl) rfl rfl hl.1 rfl (lv_room (Nat.le_of_ble_eq_true rfl)) dX10_before_10 ⟨by show _ ≤ 0; omega, by show _ ≤ 0; omega⟩) hS (fun w6 H locs hp hR hS => ?_)
      subst hp
      refine lv_iload_n hx hb dX10_before_13 rfl (lv_at hl 1 rfl) ?_
      refine lv_icmp_eq (tgt := 23) hx hb dX10_before_14 (by decide) (fun c7 => ?_) (fun c7 => ?_)
      · replace hf := g_it hf c7
        refine lv_iload_n hx hb dX10_before_23 rfl (lv_at hl 2 rfl) ?_
        obtain rfl := g_s1 hf
        exact g_iret hx hb hlocks hr hS hR g_le.rf ⟨rfl, rfl⟩ (by omega) (by omega) dX10_before_24
      · replace hf := g_if hf c7
        refine lv_iinc (v := x2 + 1) (lv' := [(2, .int (x2 + 1)), (0, .ref (G.2.2 + 54)), (1, .int x1)]) hx hb dX10_before_17 hl (k := 2) rfl rfl (by decide) rfl (fun ls hl => ?_)
        refine lv_goto (tgt := 2) hx hb dX10_before_20 (by decide) ?_
        exact ih _ _ _ _ _ _ hf  hR hS (lv_sub hl [1, 2, 0] rfl)
  unfold f10_before at hf
  refine lv_iconst (v := 0) hx hb dX10_before_0 (by decide) ?_
  refine lv_istore_n (lv' := [(2, .int (0 : Int32)), (0, .ref (G.2.2 + 54)), (1, .int p1)]) hx hb dX10_before_1 rfl hl (by decide) rfl (fun ls hl => ?_)
  exact hB2 300 _ _ _ _ _ _ hf  hR hS (lv_sub hl [1, 2, 0] rfl)
set_option maxHeartbeats 4000000 in
set_option maxRecDepth 100000 in
theorem c10_setting (l : Launch) (G : gG) (E : gEn) (μ : gMu) (z0 : gMo) (p1 : Int32) (ro : Int32) (hf : f10_setting z0 p1 = some ro) : Met l yX10_setting wsX10_setting ({ frames := 0, cells := 0, slots := 0, locals := 0 } : Room) (g_Pre G E (g_setM μ z0) [.ref (G.2.2 + 54), .int p1]) (g_Q G E (g_setM μ z0) (fun E' v => E' = E ∧ v = some (.int ro))) 0 0 (g_A G) := by
  refine Met.ofW (cc := cX10_setting) (maxL := 2) (ret := some .int) (by decide) rfl ?_
  intro p e s m args below meth c s₁ B hml hv
  obtain ⟨rfl, hR, hK⟩ := hv
  have hx := B.exec
  have hb := B.bytes
  have hr := B.returns
  have hts := atoms_spec (ws := wsX10_setting) B.pre
  have hown : s.vm.findClass RX10 = some m.cls := findClass_of_methodNamed B.named
  have hlocks := B.notSynchronized
  have hS : va_S (g_A G) s.heap s.heap [] := va_S.rf
  have hl := lv_entry ([.ref (G.2.2 + 54), .int p1]) (n := 2) (Nat.le_of_ble_eq_true rfl)
  rw [lg_entry_eq]
  generalize (lg_sl ([.ref (G.2.2 + 54), .int p1]) ++ List.replicate (2 - (lg_sl ([.ref (G.2.2 + 54), .int p1])).length) Slot.unset).toArray = ls at hl ⊢
  have hl : lv_has ls 2 [(0, .ref (G.2.2 + 54)), (1, .int p1)] := hl
  have in_10 : ∀ w ∈ u_ws RX10 TX10 9, w ∈ wsX10_setting := ifX10_setting_10
  have l_7 := hts (.fieldLink RX10 7 "GlassRacksModel" "now" "[I") (by decide +kernel)
  unfold f10_setting at hf
  refine lv_aload_n hx hb dX10_setting_0 rfl (lv_at hl 0 rfl) ?_
  refine g_get hx hb hts in_10 hown hK hR.2.2.2.2.1.1 rfl 0 (by decide) l_7 rfl rfl dX10_setting_1 ?_
  refine lv_bipush (v := 9) hx hb dX10_setting_4 (by decide) ?_
  refine lv_iload_n hx hb dX10_setting_6 rfl (lv_at hl 1 rfl) ?_
  refine lv_iadd hx hb dX10_setting_7 ?_
  obtain ⟨hg1, hf⟩ := g_gd hf
  refine g_aild hx hb hK hR (by decide) hg1 dX10_setting_8 ?_
  obtain rfl := g_s1 hf
  exact g_iret hx hb hlocks hr hS hR g_le.rf ⟨rfl, rfl⟩ (by omega) (by omega) dX10_setting_9
set_option maxHeartbeats 4000000 in
set_option maxRecDepth 100000 in
theorem c10_breaks (l : Launch) (G : gG) (E : gEn) (μ : gMu) (z0 : gMo) (p1 : Int32) (ro : Int32) (zo : gMo) (hf : f10_breaks z0 p1 = some (ro, zo)) : Met l yX10_breaks wsX10_breaks ({ frames := 2, cells := 0, slots := 0, locals := 43 } : Room) (g_Pre G E (g_setM μ z0) [.ref (G.2.2 + 54), .int p1]) (g_Q G E (g_setM μ zo) (fun E' v => E' = E ∧ v = some (.int ro))) 0 0 (g_A G) := by
  refine Met.ofW (cc := cX10_breaks) (maxL := 3) (ret := some .boolean) (by decide) rfl ?_
  intro p e s m args below meth c s₁ B hml hv
  obtain ⟨rfl, hR, hK⟩ := hv
  have hx := B.exec
  have hb := B.bytes
  have hr := B.returns
  have hts := atoms_spec (ws := wsX10_breaks) B.pre
  have hown : s.vm.findClass RX10 = some m.cls := findClass_of_methodNamed B.named
  have hlocks := B.notSynchronized
  have hS : va_S (g_A G) s.heap s.heap [] := va_S.rf
  have hl := lv_entry ([.ref (G.2.2 + 54), .int p1]) (n := 3) (Nat.le_of_ble_eq_true rfl)
  rw [lg_entry_eq]
  generalize (lg_sl ([.ref (G.2.2 + 54), .int p1]) ++ List.replicate (3 - (lg_sl ([.ref (G.2.2 + 54), .int p1])).length) Slot.unset).toArray = ls at hl ⊢
  have hl : lv_has ls 3 [(0, .ref (G.2.2 + 54)), (1, .int p1)] := hl
  have in_10 : ∀ w ∈ u_ws RX10 TX10 9, w ∈ wsX10_breaks := ifX10_breaks_10
  have l_7 := hts (.fieldLink RX10 7 "GlassRacksModel" "now" "[I") (by decide +kernel)
  have hB40 : ∀ (z0 : gMo) (x1 : Int32) (y0 : Int32) (H : Heap) (locs : List Loc) (ls : Array Slot), f10_breaks_40 z0 x1 y0 = some (ro, zo) → g_R G E (g_setM μ z0) H → va_S (g_A G) s.heap H locs → lv_has ls 3 [(0, .ref (G.2.2 + 54)), (1, .int x1)] → W p l e (headSpec wsX10_breaks ({ frames := 2, cells := 0, slots := 0, locals := 43 } : Room)).room s m ([.ref (G.2.2 + 54), .int p1] : List Value).toArray below meth c H locs 0 0 (MQ below (g_Q G E (g_setM μ zo) (fun E' v => E' = E ∧ v = some (.int ro))) ([.ref (G.2.2 + 54), .int p1] : List Value).toArray s 0 0 (g_A G)) (F0 m 40 ls [.int y0]) := by
    intro z0 x1 y0 H locs ls hf  hR hS hl
    unfold f10_breaks_40 at hf
    refine lv_istore_n (lv' := [(2, .int y0), (0, .ref (G.2.2 + 54)), (1, .int x1)]) hx hb dX10_breaks_40 rfl hl (by decide) rfl (fun ls hl => ?_)
    refine lv_iload_n hx hb dX10_breaks_41 rfl (lv_at hl 0 rfl) ?_
    refine lv_if_eq (tgt := 73) hx hb dX10_breaks_42 (by decide) (fun c6 => ?_) (fun c6 => ?_)
    · replace hf := g_it hf c6
      refine lv_iload_n hx hb dX10_breaks_73 rfl (lv_at hl 0 rfl) ?_
      obtain ⟨hz7, hf⟩ := g_gd hf
      obtain ⟨rfl, rfl⟩ := g_sp hf
      exact g_zret hx hb hlocks hr hS hR g_le.rf hz7 ⟨rfl, rfl⟩ (by omega) (by omega) dX10_breaks_74
    · replace hf := g_if hf c6
      refine lv_aload_n hx hb dX10_breaks_45 rfl (lv_at hl 1 rfl) ?_
      refine g_get hx hb hts in_10 hown hK hR.2.2.2.2.1.1 rfl 0 (by decide) l_7 rfl rfl dX10_breaks_46 ?_
      refine lv_iconst (v := 4) hx hb dX10_breaks_49 (by decide) ?_
      refine lv_dup2_11 hx hb dX10_breaks_50 rfl rfl ?_
      refine g_aild hx hb hK hR (by decide) (by decide) dX10_breaks_51 ?_
      refine lv_aload_n hx hb dX10_breaks_52 rfl (lv_at hl 1 rfl) ?_
      refine lv_iload_n hx hb dX10_breaks_53 rfl (lv_at hl 2 rfl) ?_
      obtain ⟨r8, hc9, hf⟩ := g_b1_e hf
      refine g_call (va_runV (As := [.int x1]) (rest := [.int (z0.1 0 (4 : Int32).toNatClampNeg), .int (4 : Int32), .ref (g_maA G 0)]) ⟨hx, hb, hml, hown, hts⟩ (c10_area l G E μ _ _ _ hc9) (cwV 1 hts gX10_breaks_X10_area rfl rfl rfl (by decide +kernel) ⟨Nat.le_of_ble_eq_true rfl, Nat.le_of_ble_eq_true rfl⟩) (g_preV (ci := 10) hR hK (hR.2.2.2.2.1.1) rfl) rfl rfl hl.1 rfl (lv_room (Nat.le_of_ble_eq_true rfl)) dX10_breaks_54 ⟨by show _ ≤ 0; omega, by show _ ≤ 0; omega⟩) hS (fun w10 H locs hp hR hS => ?_)
      subst hp
      refine lv_iadd hx hb dX10_breaks_57 ?_
      refine g_aist hx hb hK hS hR (by decide) (by decide) dX10_breaks_58 (fun H locs hR hS => ?_)
      obtain ⟨z11, ez11, hf⟩ := g_let_e hf
      replace hR : g_R G E (g_setM μ z11) H := by rw [ez11]; exact hR
      refine lv_aload_n hx hb dX10_breaks_59 rfl (lv_at hl 1 rfl) ?_
      refine g_get hx hb hts in_10 hown hK hR.2.2.2.2.1.1 rfl 0 (by decide) l_7 rfl rfl dX10_breaks_60 ?_
      refine lv_bipush (v := 50) hx hb dX10_breaks_63 (by decide) ?_
      refine lv_iconst (v := 5) hx hb dX10_breaks_65 (by decide) ?_
      refine lv_iload_n hx hb dX10_breaks_66 rfl (lv_at hl 2 rfl) ?_
      refine lv_imul hx hb dX10_breaks_67 ?_
      refine lv_iadd hx hb dX10_breaks_68 ?_
      refine lv_iconst (v := 3) hx hb dX10_breaks_69 (by decide) ?_
      refine lv_iadd hx hb dX10_breaks_70 ?_
      refine lv_iconst (v := -1) hx hb dX10_breaks_71 (by decide) ?_
      obtain ⟨hg12, hf⟩ := g_gd hf
      refine g_aist hx hb hK hS hR (by decide) hg12 dX10_breaks_72 (fun H locs hR hS => ?_)
      obtain ⟨z13, ez13, hf⟩ := g_let_e hf
      replace hR : g_R G E (g_setM μ z13) H := by rw [ez13]; exact hR
      refine lv_iload_n hx hb dX10_breaks_73 rfl (lv_at hl 0 rfl) ?_
      obtain ⟨hz14, hf⟩ := g_gd hf
      obtain ⟨rfl, rfl⟩ := g_sp hf
      exact g_zret hx hb hlocks hr hS hR g_le.rf hz14 ⟨rfl, rfl⟩ (by omega) (by omega) dX10_breaks_74
  have hB39 : ∀ (z0 : gMo) (x1 : Int32) (H : Heap) (locs : List Loc) (ls : Array Slot), f10_breaks_39 z0 x1 = some (ro, zo) → g_R G E (g_setM μ z0) H → va_S (g_A G) s.heap H locs → lv_has ls 3 [(0, .ref (G.2.2 + 54)), (1, .int x1)] → W p l e (headSpec wsX10_breaks ({ frames := 2, cells := 0, slots := 0, locals := 43 } : Room)).room s m ([.ref (G.2.2 + 54), .int p1] : List Value).toArray below meth c H locs 0 0 (MQ below (g_Q G E (g_setM μ zo) (fun E' v => E' = E ∧ v = some (.int ro))) ([.ref (G.2.2 + 54), .int p1] : List Value).toArray s 0 0 (g_A G)) (F0 m 39 ls []) := by
    intro z0 x1 H locs ls hf  hR hS hl
    unfold f10_breaks_39 at hf
    refine lv_iconst (v := 0) hx hb dX10_breaks_39 (by decide) ?_
    exact hB40 _ _ _ _ _ _ hf  hR hS (lv_sub hl [0, 1] rfl)
  unfold f10_breaks at hf
  refine lv_aload_n hx hb dX10_breaks_0 rfl (lv_at hl 0 rfl) ?_
  refine g_get hx hb hts in_10 hown hK hR.2.2.2.2.1.1 rfl 0 (by decide) l_7 rfl rfl dX10_breaks_1 ?_
  refine lv_bipush (v := 6) hx hb dX10_breaks_4 (by decide) ?_
  refine lv_dup2_11 hx hb dX10_breaks_6 rfl rfl ?_
  refine g_aild hx hb hK hR (by decide) (by decide) dX10_breaks_7 ?_
  refine lv_iconst (v := 1) hx hb dX10_breaks_8 (by decide) ?_
  refine lv_iadd hx hb dX10_breaks_9 ?_
  refine g_aist hx hb hK hS hR (by decide) (by decide) dX10_breaks_10 (fun H locs hR hS => ?_)
  obtain ⟨z1, ez1, hf⟩ := g_let_e hf
  replace hR : g_R G E (g_setM μ z1) H := by rw [ez1]; exact hR
  refine lv_aload_n hx hb dX10_breaks_11 rfl (lv_at hl 0 rfl) ?_
  refine lv_iconst (v := 3) hx hb dX10_breaks_12 (by decide) ?_
  obtain ⟨r2, hc3, hf⟩ := g_b1_e hf
  refine g_call (va_runV (As := [.int (3 : Int32)]) (rest := []) ⟨hx, hb, hml, hown, hts⟩ (c10_setting l G E μ _ _ _ hc3) (cwV 1 hts gX10_breaks_X10_setting rfl rfl rfl (by decide +kernel) ⟨Nat.le_of_ble_eq_true rfl, Nat.le_of_ble_eq_true rfl⟩) (g_preV (ci := 10) hR hK (hR.2.2.2.2.1.1) rfl) rfl rfl hl.1 rfl (lv_room (Nat.le_of_ble_eq_true rfl)) dX10_breaks_13 ⟨by show _ ≤ 0; omega, by show _ ≤ 0; omega⟩) hS (fun w4 H locs hp hR hS => ?_)
  subst hp
  refine lv_if_le (tgt := 39) hx hb dX10_breaks_16 (by decide) (fun c5 => ?_) (fun c5 => ?_)
  · replace hf := g_it hf c5
    exact hB39 _ _ _ _ _ hf  hR hS (lv_sub hl [0, 1] rfl)
  · replace hf := g_if hf c5
    refine lv_aload_n hx hb dX10_breaks_19 rfl (lv_at hl 0 rfl) ?_
    refine g_get hx hb hts in_10 hown hK hR.2.2.2.2.1.1 rfl 0 (by decide) l_7 rfl rfl dX10_breaks_20 ?_
    refine lv_bipush (v := 6) hx hb dX10_breaks_23 (by decide) ?_
    refine g_aild hx hb hK hR (by decide) (by decide) dX10_breaks_25 ?_
    refine lv_aload_n hx hb dX10_breaks_26 rfl (lv_at hl 0 rfl) ?_
    refine lv_iconst (v := 3) hx hb dX10_breaks_27 (by decide) ?_
    obtain ⟨r15, hc16, hf⟩ := g_b1_e hf
    refine g_call (va_runV (As := [.int (3 : Int32)]) (rest := [.int (z1.1 0 (6 : Int32).toNatClampNeg)]) ⟨hx, hb, hml, hown, hts⟩ (c10_setting l G E μ _ _ _ hc16) (cwV 1 hts gX10_breaks_X10_setting rfl rfl rfl (by decide +kernel) ⟨Nat.le_of_ble_eq_true rfl, Nat.le_of_ble_eq_true rfl⟩) (g_preV (ci := 10) hR hK (hR.2.2.2.2.1.1) rfl) rfl rfl hl.1 rfl (lv_room (Nat.le_of_ble_eq_true rfl)) dX10_breaks_28 ⟨by show _ ≤ 0; omega, by show _ ≤ 0; omega⟩) hS (fun w17 H locs hp hR hS => ?_)
    subst hp
    obtain ⟨hn18, hf⟩ := g_gd hf
    refine lv_irem hx hb dX10_breaks_31 hn18 ?_
    refine lv_if_ne (tgt := 39) hx hb dX10_breaks_32 (by decide) (fun c19 => ?_) (fun c19 => ?_)
    · replace hf := g_it hf c19
      exact hB39 _ _ _ _ _ hf  hR hS (lv_sub hl [0, 1] rfl)
    · replace hf := g_if hf (fun q => q c19)
      refine lv_iconst (v := 1) hx hb dX10_breaks_35 (by decide) ?_
      refine lv_goto (tgt := 40) hx hb dX10_breaks_36 (by decide) ?_
      exact hB40 _ _ _ _ _ _ hf  hR hS (lv_sub hl [0, 1] rfl)
set_option maxHeartbeats 4000000 in
set_option maxRecDepth 100000 in
theorem c10_leans (l : Launch) (G : gG) (E : gEn) (μ : gMu) (z0 : gMo) (p1 : Int32) (p2 : Int32) (zo : gMo) (hf : f10_leans z0 p1 p2 = some zo) : Met l yX10_leans wsX10_leans ({ frames := 1, cells := 0, slots := 0, locals := 21 } : Room) (g_Pre G E (g_setM μ z0) [.ref (G.2.2 + 54), .int p1, .int p2]) (g_Q G E (g_setM μ zo) (fun E' v => E' = E ∧ v = none)) 0 0 (g_A G) := by
  refine Met.ofW (cc := cX10_leans) (maxL := 5) (ret := none) (by decide) rfl ?_
  intro p e s m args below meth c s₁ B hml hv
  obtain ⟨rfl, hR, hK⟩ := hv
  have hx := B.exec
  have hb := B.bytes
  have hr := B.returns
  have hts := atoms_spec (ws := wsX10_leans) B.pre
  have hown : s.vm.findClass RX10 = some m.cls := findClass_of_methodNamed B.named
  have hlocks := B.notSynchronized
  have hS : va_S (g_A G) s.heap s.heap [] := va_S.rf
  have hl := lv_entry ([.ref (G.2.2 + 54), .int p1, .int p2]) (n := 5) (Nat.le_of_ble_eq_true rfl)
  rw [lg_entry_eq]
  generalize (lg_sl ([.ref (G.2.2 + 54), .int p1, .int p2]) ++ List.replicate (5 - (lg_sl ([.ref (G.2.2 + 54), .int p1, .int p2])).length) Slot.unset).toArray = ls at hl ⊢
  have hl : lv_has ls 5 [(0, .ref (G.2.2 + 54)), (1, .int p1), (2, .int p2)] := hl
  have in_10 : ∀ w ∈ u_ws RX10 TX10 9, w ∈ wsX10_leans := ifX10_leans_10
  have l_7 := hts (.fieldLink RX10 7 "GlassRacksModel" "now" "[I") (by decide +kernel)
  have hB9 : ∀ (n : Nat) (z0 : gMo) (x1 : Int32) (x2 : Int32) (x3 : Int32) (x4 : Int32) (H : Heap) (locs : List Loc) (ls : Array Slot), f10_leans_9 n z0 x1 x2 x3 x4 = some zo → g_R G E (g_setM μ z0) H → va_S (g_A G) s.heap H locs → lv_has ls 5 [(0, .ref (G.2.2 + 54)), (1, .int x1), (2, .int x2), (3, .int x3), (4, .int x4)] → W p l e (headSpec wsX10_leans ({ frames := 1, cells := 0, slots := 0, locals := 21 } : Room)).room s m ([.ref (G.2.2 + 54), .int p1, .int p2] : List Value).toArray below meth c H locs 0 0 (MQ below (g_Q G E (g_setM μ zo) (fun E' v => E' = E ∧ v = none)) ([.ref (G.2.2 + 54), .int p1, .int p2] : List Value).toArray s 0 0 (g_A G)) (F0 m 9 ls []) := by
    intro n
    induction n with
    | zero =>
      intro z0 x1 x2 x3 x4 H locs ls hf
      rw [f10_leans_9] at hf
      cases hf
    | succ n ih =>
      intro z0 x1 x2 x3 x4 H locs ls hf  hR hS hl
      rw [f10_leans_9] at hf
      refine lv_iload hx hb dX10_leans_9 (lv_at hl 4 rfl) ?_
      refine lv_if_le (tgt := 52) hx hb dX10_leans_11 (by decide) (fun c4 => ?_) (fun c4 => ?_)
      · replace hf := g_it hf c4
        refine lv_aload_n hx hb dX10_leans_52 rfl (lv_at hl 0 rfl) ?_
        refine g_get hx hb hts in_10 hown hK hR.2.2.2.2.1.1 rfl 0 (by decide) l_7 rfl rfl dX10_leans_53 ?_
        refine lv_bipush (v := 14) hx hb dX10_leans_56 (by decide) ?_
        refine lv_bipush (v := 9) hx hb dX10_leans_58 (by decide) ?_
        refine lv_iload_n hx hb dX10_leans_60 rfl (lv_at hl 1 rfl) ?_
        refine lv_imul hx hb dX10_leans_61 ?_
        refine lv_iadd hx hb dX10_leans_62 ?_
        refine lv_iconst (v := 1) hx hb dX10_leans_63 (by decide) ?_
        refine lv_iadd hx hb dX10_leans_64 ?_
        refine lv_iload_n hx hb dX10_leans_65 rfl (lv_at hl 2 rfl) ?_
        obtain ⟨hg5, hf⟩ := g_gd hf
        refine g_aist hx hb hK hS hR (by decide) hg5 dX10_leans_66 (fun H locs hR hS => ?_)
        obtain ⟨z6, ez6, hf⟩ := g_let_e hf
        replace hR : g_R G E (g_setM μ z6) H := by rw [ez6]; exact hR
        refine lv_aload_n hx hb dX10_leans_67 rfl (lv_at hl 0 rfl) ?_
        refine g_get hx hb hts in_10 hown hK hR.2.2.2.2.1.1 rfl 0 (by decide) l_7 rfl rfl dX10_leans_68 ?_
        refine lv_bipush (v := 14) hx hb dX10_leans_71 (by decide) ?_
        refine lv_bipush (v := 9) hx hb dX10_leans_73 (by decide) ?_
        refine lv_iload_n hx hb dX10_leans_75 rfl (lv_at hl 1 rfl) ?_
        refine lv_imul hx hb dX10_leans_76 ?_
        refine lv_iadd hx hb dX10_leans_77 ?_
        refine lv_iload_n hx hb dX10_leans_78 rfl (lv_at hl 3 rfl) ?_
        refine lv_iconst (v := 1) hx hb dX10_leans_79 (by decide) ?_
        refine lv_iadd hx hb dX10_leans_80 ?_
        obtain ⟨hg7, hf⟩ := g_gd hf
        refine g_aist hx hb hK hS hR (by decide) hg7 dX10_leans_81 (fun H locs hR hS => ?_)
        obtain ⟨z8, ez8, hf⟩ := g_let_e hf
        replace hR : g_R G E (g_setM μ z8) H := by rw [ez8]; exact hR
        refine lv_aload_n hx hb dX10_leans_82 rfl (lv_at hl 0 rfl) ?_
        refine g_get hx hb hts in_10 hown hK hR.2.2.2.2.1.1 rfl 0 (by decide) l_7 rfl rfl dX10_leans_83 ?_
        refine lv_bipush (v := 50) hx hb dX10_leans_86 (by decide) ?_
        refine lv_iconst (v := 5) hx hb dX10_leans_88 (by decide) ?_
        refine lv_iload_n hx hb dX10_leans_89 rfl (lv_at hl 2 rfl) ?_
        refine lv_imul hx hb dX10_leans_90 ?_
        refine lv_iadd hx hb dX10_leans_91 ?_
        refine lv_iconst (v := 3) hx hb dX10_leans_92 (by decide) ?_
        refine lv_iadd hx hb dX10_leans_93 ?_
        refine lv_iload_n hx hb dX10_leans_94 rfl (lv_at hl 1 rfl) ?_
        obtain ⟨hg9, hf⟩ := g_gd hf
        refine g_aist hx hb hK hS hR (by decide) hg9 dX10_leans_95 (fun H locs hR hS => ?_)
        obtain ⟨z10, ez10, hf⟩ := g_let_e hf
        replace hR : g_R G E (g_setM μ z10) H := by rw [ez10]; exact hR
        obtain rfl := g_s1 hf
        exact g_vret hx hb hlocks hr hS hR g_le.rf ⟨rfl, rfl⟩ (by omega) (by omega) dX10_leans_96
      · replace hf := g_if hf c4
        refine lv_aload_n hx hb dX10_leans_14 rfl (lv_at hl 0 rfl) ?_
        refine g_get hx hb hts in_10 hown hK hR.2.2.2.2.1.1 rfl 0 (by decide) l_7 rfl rfl dX10_leans_15 ?_
        refine lv_bipush (v := 14) hx hb dX10_leans_18 (by decide) ?_
        refine lv_bipush (v := 9) hx hb dX10_leans_20 (by decide) ?_
        refine lv_iload_n hx hb dX10_leans_22 rfl (lv_at hl 1 rfl) ?_
        refine lv_imul hx hb dX10_leans_23 ?_
        refine lv_iadd hx hb dX10_leans_24 ?_
        refine lv_iconst (v := 1) hx hb dX10_leans_25 (by decide) ?_
        refine lv_iadd hx hb dX10_leans_26 ?_
        refine lv_iload hx hb dX10_leans_27 (lv_at hl 4 rfl) ?_
        refine lv_iadd hx hb dX10_leans_29 ?_
        refine lv_aload_n hx hb dX10_leans_30 rfl (lv_at hl 0 rfl) ?_
        refine g_get hx hb hts in_10 hown hK hR.2.2.2.2.1.1 rfl 0 (by decide) l_7 rfl rfl dX10_leans_31 ?_
        refine lv_bipush (v := 14) hx hb dX10_leans_34 (by decide) ?_
        refine lv_bipush (v := 9) hx hb dX10_leans_36 (by decide) ?_
        refine lv_iload_n hx hb dX10_leans_38 rfl (lv_at hl 1 rfl) ?_
        refine lv_imul hx hb dX10_leans_39 ?_
        refine lv_iadd hx hb dX10_leans_40 ?_
        refine lv_iload hx hb dX10_leans_41 (lv_at hl 4 rfl) ?_
        refine lv_iadd hx hb dX10_leans_43 ?_
        obtain ⟨hg11, hf⟩ := g_gd hf
        refine g_aild hx hb hK hR (by decide) hg11 dX10_leans_44 ?_
        obtain ⟨hg12, hf⟩ := g_gd hf
        refine g_aist hx hb hK hS hR (by decide) hg12 dX10_leans_45 (fun H locs hR hS => ?_)
        obtain ⟨z13, ez13, hf⟩ := g_let_e hf
        replace hR : g_R G E (g_setM μ z13) H := by rw [ez13]; exact hR
        refine lv_iinc (v := x4 + -1) (lv' := [(4, .int (x4 + -1)), (0, .ref (G.2.2 + 54)), (1, .int x1), (2, .int x2), (3, .int x3)]) hx hb dX10_leans_46 hl (k := 4) rfl rfl (by decide) rfl (fun ls hl => ?_)
        refine lv_goto (tgt := 9) hx hb dX10_leans_49 (by decide) ?_
        exact ih _ _ _ _ _ _ _ _ hf  hR hS (lv_sub hl [1, 2, 3, 4, 0] rfl)
  unfold f10_leans at hf
  refine lv_aload_n hx hb dX10_leans_0 rfl (lv_at hl 0 rfl) ?_
  refine lv_iload_n hx hb dX10_leans_1 rfl (lv_at hl 1 rfl) ?_
  obtain ⟨r1, hc2, hf⟩ := g_b1_e hf
  refine g_call (va_runV (As := [.int p1]) (rest := []) ⟨hx, hb, hml, hown, hts⟩ (c10_many l G E μ _ _ _ hc2) (cwV 1 hts gX10_leans_X10_many rfl rfl rfl (by decide +kernel) ⟨Nat.le_of_ble_eq_true rfl, Nat.le_of_ble_eq_true rfl⟩) (g_preV (ci := 10) hR hK (hR.2.2.2.2.1.1) rfl) rfl rfl hl.1 rfl (lv_room (Nat.le_of_ble_eq_true rfl)) dX10_leans_2 ⟨by show _ ≤ 0; omega, by show _ ≤ 0; omega⟩) hS (fun w3 H locs hp hR hS => ?_)
  subst hp
  refine lv_istore_n (lv' := [(3, .int r1), (0, .ref (G.2.2 + 54)), (1, .int p1), (2, .int p2)]) hx hb dX10_leans_5 rfl hl (by decide) rfl (fun ls hl => ?_)
  refine lv_iload_n hx hb dX10_leans_6 rfl (lv_at hl 0 rfl) ?_
  refine lv_istore (lv' := [(4, .int r1), (3, .int r1), (0, .ref (G.2.2 + 54)), (1, .int p1), (2, .int p2)]) hx hb dX10_leans_7 hl (by decide) rfl (fun ls hl => ?_)
  exact hB9 70 _ _ _ _ _ _ _ _ hf  hR hS (lv_sub hl [2, 3, 4, 1, 0] rfl)
set_option maxHeartbeats 4000000 in
set_option maxRecDepth 100000 in
theorem c10_makes (l : Launch) (G : gG) (E : gEn) (μ : gMu) (z0 : gMo) (p1 : Int32) (p2 : Int32) (p3 : Int32) (p4 : Int32) (p5 : Int32) (ro : Int32) (zo : gMo) (hf : f10_makes z0 p1 p2 p3 p4 p5 = some (ro, zo)) : Met l yX10_makes wsX10_makes ({ frames := 2, cells := 0, slots := 0, locals := 45 } : Room) (g_Pre G E (g_setM μ z0) [.ref (G.2.2 + 54), .int p1, .int p2, .int p3, .int p4, .int p5]) (g_Q G E (g_setM μ zo) (fun E' v => E' = E ∧ v = some (.int ro))) 0 0 (g_A G) := by
  refine Met.ofW (cc := cX10_makes) (maxL := 7) (ret := some .int) (by decide) rfl ?_
  intro p e s m args below meth c s₁ B hml hv
  obtain ⟨rfl, hR, hK⟩ := hv
  have hx := B.exec
  have hb := B.bytes
  have hr := B.returns
  have hts := atoms_spec (ws := wsX10_makes) B.pre
  have hown : s.vm.findClass RX10 = some m.cls := findClass_of_methodNamed B.named
  have hlocks := B.notSynchronized
  have hS : va_S (g_A G) s.heap s.heap [] := va_S.rf
  have hl := lv_entry ([.ref (G.2.2 + 54), .int p1, .int p2, .int p3, .int p4, .int p5]) (n := 7) (Nat.le_of_ble_eq_true rfl)
  rw [lg_entry_eq]
  generalize (lg_sl ([.ref (G.2.2 + 54), .int p1, .int p2, .int p3, .int p4, .int p5]) ++ List.replicate (7 - (lg_sl ([.ref (G.2.2 + 54), .int p1, .int p2, .int p3, .int p4, .int p5])).length) Slot.unset).toArray = ls at hl ⊢
  have hl : lv_has ls 7 [(0, .ref (G.2.2 + 54)), (1, .int p1), (2, .int p2), (3, .int p3), (4, .int p4), (5, .int p5)] := hl
  have in_10 : ∀ w ∈ u_ws RX10 TX10 9, w ∈ wsX10_makes := ifX10_makes_10
  have l_7 := hts (.fieldLink RX10 7 "GlassRacksModel" "now" "[I") (by decide +kernel)
  unfold f10_makes at hf
  refine lv_aload_n hx hb dX10_makes_0 rfl (lv_at hl 0 rfl) ?_
  refine g_get hx hb hts in_10 hown hK hR.2.2.2.2.1.1 rfl 0 (by decide) l_7 rfl rfl dX10_makes_1 ?_
  refine lv_bipush (v := 8) hx hb dX10_makes_4 (by decide) ?_
  refine g_aild hx hb hK hR (by decide) (by decide) dX10_makes_6 ?_
  refine lv_topi (fun t1 et1 => ?_)
  replace hf := g_let_at hf et1
  refine lv_istore (lv' := [(6, .int t1), (0, .ref (G.2.2 + 54)), (1, .int p1), (2, .int p2), (3, .int p3), (4, .int p4), (5, .int p5)]) hx hb dX10_makes_7 hl (by decide) rfl (fun ls hl => ?_)
  refine lv_aload_n hx hb dX10_makes_9 rfl (lv_at hl 1 rfl) ?_
  refine g_get hx hb hts in_10 hown hK hR.2.2.2.2.1.1 rfl 0 (by decide) l_7 rfl rfl dX10_makes_10 ?_
  refine lv_bipush (v := 8) hx hb dX10_makes_13 (by decide) ?_
  refine lv_iload hx hb dX10_makes_15 (lv_at hl 0 rfl) ?_
  refine lv_iconst (v := 1) hx hb dX10_makes_17 (by decide) ?_
  refine lv_iadd hx hb dX10_makes_18 ?_
  refine g_aist hx hb hK hS hR (by decide) (by decide) dX10_makes_19 (fun H locs hR hS => ?_)
  obtain ⟨z2, ez2, hf⟩ := g_let_e hf
  replace hR : g_R G E (g_setM μ z2) H := by rw [ez2]; exact hR
  refine lv_aload_n hx hb dX10_makes_20 rfl (lv_at hl 1 rfl) ?_
  refine g_get hx hb hts in_10 hown hK hR.2.2.2.2.1.1 rfl 0 (by decide) l_7 rfl rfl dX10_makes_21 ?_
  refine lv_bipush (v := 50) hx hb dX10_makes_24 (by decide) ?_
  refine lv_iconst (v := 5) hx hb dX10_makes_26 (by decide) ?_
  refine lv_iload hx hb dX10_makes_27 (lv_at hl 0 rfl) ?_
  refine lv_imul hx hb dX10_makes_29 ?_
  refine lv_iadd hx hb dX10_makes_30 ?_
  refine lv_iconst (v := 0) hx hb dX10_makes_31 (by decide) ?_
  refine lv_iadd hx hb dX10_makes_32 ?_
  refine lv_iload_n hx hb dX10_makes_33 rfl (lv_at hl 3 rfl) ?_
  obtain ⟨hg3, hf⟩ := g_gd hf
  refine g_aist hx hb hK hS hR (by decide) hg3 dX10_makes_34 (fun H locs hR hS => ?_)
  obtain ⟨z4, ez4, hf⟩ := g_let_e hf
  replace hR : g_R G E (g_setM μ z4) H := by rw [ez4]; exact hR
  refine lv_aload_n hx hb dX10_makes_35 rfl (lv_at hl 1 rfl) ?_
  refine g_get hx hb hts in_10 hown hK hR.2.2.2.2.1.1 rfl 0 (by decide) l_7 rfl rfl dX10_makes_36 ?_
  refine lv_bipush (v := 50) hx hb dX10_makes_39 (by decide) ?_
  refine lv_iconst (v := 5) hx hb dX10_makes_41 (by decide) ?_
  refine lv_iload hx hb dX10_makes_42 (lv_at hl 0 rfl) ?_
  refine lv_imul hx hb dX10_makes_44 ?_
  refine lv_iadd hx hb dX10_makes_45 ?_
  refine lv_iconst (v := 1) hx hb dX10_makes_46 (by decide) ?_
  refine lv_iadd hx hb dX10_makes_47 ?_
  refine lv_iload_n hx hb dX10_makes_48 rfl (lv_at hl 4 rfl) ?_
  obtain ⟨hg5, hf⟩ := g_gd hf
  refine g_aist hx hb hK hS hR (by decide) hg5 dX10_makes_49 (fun H locs hR hS => ?_)
  obtain ⟨z6, ez6, hf⟩ := g_let_e hf
  replace hR : g_R G E (g_setM μ z6) H := by rw [ez6]; exact hR
  refine lv_aload_n hx hb dX10_makes_50 rfl (lv_at hl 1 rfl) ?_
  refine g_get hx hb hts in_10 hown hK hR.2.2.2.2.1.1 rfl 0 (by decide) l_7 rfl rfl dX10_makes_51 ?_
  refine lv_bipush (v := 50) hx hb dX10_makes_54 (by decide) ?_
  refine lv_iconst (v := 5) hx hb dX10_makes_56 (by decide) ?_
  refine lv_iload hx hb dX10_makes_57 (lv_at hl 0 rfl) ?_
  refine lv_imul hx hb dX10_makes_59 ?_
  refine lv_iadd hx hb dX10_makes_60 ?_
  refine lv_iconst (v := 2) hx hb dX10_makes_61 (by decide) ?_
  refine lv_iadd hx hb dX10_makes_62 ?_
  refine lv_iload hx hb dX10_makes_63 (lv_at hl 5 rfl) ?_
  obtain ⟨hg7, hf⟩ := g_gd hf
  refine g_aist hx hb hK hS hR (by decide) hg7 dX10_makes_65 (fun H locs hR hS => ?_)
  obtain ⟨z8, ez8, hf⟩ := g_let_e hf
  replace hR : g_R G E (g_setM μ z8) H := by rw [ez8]; exact hR
  refine lv_aload_n hx hb dX10_makes_66 rfl (lv_at hl 1 rfl) ?_
  refine g_get hx hb hts in_10 hown hK hR.2.2.2.2.1.1 rfl 0 (by decide) l_7 rfl rfl dX10_makes_67 ?_
  refine lv_bipush (v := 50) hx hb dX10_makes_70 (by decide) ?_
  refine lv_iconst (v := 5) hx hb dX10_makes_72 (by decide) ?_
  refine lv_iload hx hb dX10_makes_73 (lv_at hl 0 rfl) ?_
  refine lv_imul hx hb dX10_makes_75 ?_
  refine lv_iadd hx hb dX10_makes_76 ?_
  refine lv_iconst (v := 4) hx hb dX10_makes_77 (by decide) ?_
  refine lv_iadd hx hb dX10_makes_78 ?_
  refine lv_iload hx hb dX10_makes_79 (lv_at hl 6 rfl) ?_
  obtain ⟨hg9, hf⟩ := g_gd hf
  refine g_aist hx hb hK hS hR (by decide) hg9 dX10_makes_81 (fun H locs hR hS => ?_)
  obtain ⟨z10, ez10, hf⟩ := g_let_e hf
  replace hR : g_R G E (g_setM μ z10) H := by rw [ez10]; exact hR
  refine lv_aload_n hx hb dX10_makes_82 rfl (lv_at hl 1 rfl) ?_
  refine lv_iload_n hx hb dX10_makes_83 rfl (lv_at hl 2 rfl) ?_
  refine lv_iload hx hb dX10_makes_84 (lv_at hl 0 rfl) ?_
  obtain ⟨z11, hc12, hf⟩ := g_b1_e hf
  refine g_call (va_runV (As := [.int p1, .int t1]) (rest := []) ⟨hx, hb, hml, hown, hts⟩ (c10_leans l G E μ _ _ _ _ hc12) (cwV 2 hts gX10_makes_X10_leans rfl rfl rfl (by decide +kernel) ⟨Nat.le_of_ble_eq_true rfl, Nat.le_of_ble_eq_true rfl⟩) (g_preV (ci := 10) hR hK (hR.2.2.2.2.1.1) rfl) rfl rfl hl.1 rfl (lv_room (Nat.le_of_ble_eq_true rfl)) dX10_makes_86 ⟨by show _ ≤ 0; omega, by show _ ≤ 0; omega⟩) hS (fun w13 H locs hp hR hS => ?_)
  subst hp
  refine lv_iload hx hb dX10_makes_89 (lv_at hl 0 rfl) ?_
  obtain ⟨rfl, rfl⟩ := g_sp hf
  exact g_iret hx hb hlocks hr hS hR g_le.rf ⟨rfl, rfl⟩ (by omega) (by omega) dX10_makes_91
set_option maxHeartbeats 4000000 in
set_option maxRecDepth 100000 in
theorem c10_buys (l : Launch) (G : gG) (E : gEn) (μ : gMu) (z0 : gMo) (p1 : Int32) (p2 : Int32) (p3 : Int32) (p4 : Int32) (ro : Int32) (zo : gMo) (hf : f10_buys z0 p1 p2 p3 p4 = some (ro, zo)) : Met l yX10_buys wsX10_buys ({ frames := 3, cells := 0, slots := 0, locals := 71 } : Room) (g_Pre G E (g_setM μ z0) [.ref (G.2.2 + 54), .int p1, .int p2, .int p3, .int p4]) (g_Q G E (g_setM μ zo) (fun E' v => E' = E ∧ v = some (.int ro))) 0 0 (g_A G) := by
  refine Met.ofW (cc := cX10_buys) (maxL := 5) (ret := some .int) (by decide) rfl ?_
  intro p e s m args below meth c s₁ B hml hv
  obtain ⟨rfl, hR, hK⟩ := hv
  have hx := B.exec
  have hb := B.bytes
  have hr := B.returns
  have hts := atoms_spec (ws := wsX10_buys) B.pre
  have hown : s.vm.findClass RX10 = some m.cls := findClass_of_methodNamed B.named
  have hlocks := B.notSynchronized
  have hS : va_S (g_A G) s.heap s.heap [] := va_S.rf
  have hl := lv_entry ([.ref (G.2.2 + 54), .int p1, .int p2, .int p3, .int p4]) (n := 5) (Nat.le_of_ble_eq_true rfl)
  rw [lg_entry_eq]
  generalize (lg_sl ([.ref (G.2.2 + 54), .int p1, .int p2, .int p3, .int p4]) ++ List.replicate (5 - (lg_sl ([.ref (G.2.2 + 54), .int p1, .int p2, .int p3, .int p4])).length) Slot.unset).toArray = ls at hl ⊢
  have hl : lv_has ls 5 [(0, .ref (G.2.2 + 54)), (1, .int p1), (2, .int p2), (3, .int p3), (4, .int p4)] := hl
  have in_10 : ∀ w ∈ u_ws RX10 TX10 9, w ∈ wsX10_buys := ifX10_buys_10
  have l_7 := hts (.fieldLink RX10 7 "GlassRacksModel" "now" "[I") (by decide +kernel)
  unfold f10_buys at hf
  refine lv_aload_n hx hb dX10_buys_0 rfl (lv_at hl 0 rfl) ?_
  refine lv_iload_n hx hb dX10_buys_1 rfl (lv_at hl 1 rfl) ?_
  obtain ⟨r1, hc2, hf⟩ := g_b1_e hf
  refine g_call (va_runV (As := [.int p1]) (rest := []) ⟨hx, hb, hml, hown, hts⟩ (c10_many l G E μ _ _ _ hc2) (cwV 1 hts gX10_buys_X10_many rfl rfl rfl (by decide +kernel) ⟨Nat.le_of_ble_eq_true rfl, Nat.le_of_ble_eq_true rfl⟩) (g_preV (ci := 10) hR hK (hR.2.2.2.2.1.1) rfl) rfl rfl hl.1 rfl (lv_room (Nat.le_of_ble_eq_true rfl)) dX10_buys_2 ⟨by show _ ≤ 0; omega, by show _ ≤ 0; omega⟩) hS (fun w3 H locs hp hR hS => ?_)
  subst hp
  refine lv_bipush (v := 8) hx hb dX10_buys_5 (by decide) ?_
  refine lv_icmp_eq (tgt := 23) hx hb dX10_buys_7 (by decide) (fun c4 => ?_) (fun c4 => ?_)
  · replace hf := g_it hf c4
    refine lv_bipush (v := -3) hx hb dX10_buys_23 (by decide) ?_
    obtain ⟨rfl, rfl⟩ := g_sp hf
    exact g_iret hx hb hlocks hr hS hR g_le.rf ⟨rfl, rfl⟩ (by omega) (by omega) dX10_buys_25
  · replace hf := g_if hf c4
    refine lv_aload_n hx hb dX10_buys_10 rfl (lv_at hl 0 rfl) ?_
    refine g_get hx hb hts in_10 hown hK hR.2.2.2.2.1.1 rfl 0 (by decide) l_7 rfl rfl dX10_buys_11 ?_
    refine lv_bipush (v := 8) hx hb dX10_buys_14 (by decide) ?_
    refine g_aild hx hb hK hR (by decide) (by decide) dX10_buys_16 ?_
    refine lv_sipush (v := 200) hx hb dX10_buys_17 (by decide) ?_
    refine lv_icmp_ne (tgt := 26) hx hb dX10_buys_20 (by decide) (fun c5 => ?_) (fun c5 => ?_)
    · replace hf := g_it hf c5
      refine lv_aload_n hx hb dX10_buys_26 rfl (lv_at hl 0 rfl) ?_
      refine g_get hx hb hts in_10 hown hK hR.2.2.2.2.1.1 rfl 0 (by decide) l_7 rfl rfl dX10_buys_27 ?_
      refine lv_iconst (v := 1) hx hb dX10_buys_30 (by decide) ?_
      refine lv_dup2_11 hx hb dX10_buys_31 rfl rfl ?_
      refine g_aild hx hb hK hR (by decide) (by decide) dX10_buys_32 ?_
      refine lv_iload_n hx hb dX10_buys_33 rfl (lv_at hl 3 rfl) ?_
      refine lv_iload hx hb dX10_buys_34 (lv_at hl 4 rfl) ?_
      refine lv_imul hx hb dX10_buys_36 ?_
      refine lv_iadd hx hb dX10_buys_37 ?_
      refine g_aist hx hb hK hS hR (by decide) (by decide) dX10_buys_38 (fun H locs hR hS => ?_)
      obtain ⟨z6, ez6, hf⟩ := g_let_e hf
      replace hR : g_R G E (g_setM μ z6) H := by rw [ez6]; exact hR
      refine lv_aload_n hx hb dX10_buys_39 rfl (lv_at hl 0 rfl) ?_
      refine lv_iload_n hx hb dX10_buys_40 rfl (lv_at hl 1 rfl) ?_
      refine lv_iload_n hx hb dX10_buys_41 rfl (lv_at hl 2 rfl) ?_
      refine lv_iload_n hx hb dX10_buys_42 rfl (lv_at hl 3 rfl) ?_
      refine lv_iload hx hb dX10_buys_43 (lv_at hl 4 rfl) ?_
      refine lv_bipush (v := -5) hx hb dX10_buys_45 (by decide) ?_
      obtain ⟨r7, z8, hc9, hf⟩ := g_bd_e hf
      refine g_call (va_runV (As := [.int p1, .int p2, .int p3, .int p4, .int (-5 : Int32)]) (rest := []) ⟨hx, hb, hml, hown, hts⟩ (c10_makes l G E μ _ _ _ _ _ _ _ _ hc9) (cwV 5 hts gX10_buys_X10_makes rfl rfl rfl (by decide +kernel) ⟨Nat.le_of_ble_eq_true rfl, Nat.le_of_ble_eq_true rfl⟩) (g_preV (ci := 10) hR hK (hR.2.2.2.2.1.1) rfl) rfl rfl hl.1 rfl (lv_room (Nat.le_of_ble_eq_true rfl)) dX10_buys_47 ⟨by show _ ≤ 0; omega, by show _ ≤ 0; omega⟩) hS (fun w10 H locs hp hR hS => ?_)
      subst hp
      obtain ⟨rfl, rfl⟩ := g_sp hf
      exact g_iret hx hb hlocks hr hS hR g_le.rf ⟨rfl, rfl⟩ (by omega) (by omega) dX10_buys_50
    · replace hf := g_if hf (fun q => q c5)
      refine lv_bipush (v := -3) hx hb dX10_buys_23 (by decide) ?_
      obtain ⟨rfl, rfl⟩ := g_sp hf
      exact g_iret hx hb hlocks hr hS hR g_le.rf ⟨rfl, rfl⟩ (by omega) (by omega) dX10_buys_25
set_option maxHeartbeats 4000000 in
set_option maxRecDepth 100000 in
theorem c10_copy (l : Launch) (G : gG) (E : gEn) (μ : gMu) (z0 : gMo) (b0 : Nat) (hb0 : b0 < 5) (b1 : Nat) (hb1 : b1 < 5) (zo : gMo) (hf : f10_copy z0 b0 b1 = some zo) : Met l yX10_copy wsX10_copy ({ frames := 0, cells := 0, slots := 0, locals := 0 } : Room) (g_Pre G E (g_setM μ z0) [.ref (g_maA G b0), .ref (g_maA G b1)]) (g_Q G E (g_setM μ zo) (fun E' v => E' = E ∧ v = none)) 0 0 (g_A G) := by
  refine Met.ofW (cc := cX10_copy) (maxL := 3) (ret := none) (by decide) rfl ?_
  intro p e s m args below meth c s₁ B hml hv
  obtain ⟨rfl, hR, hK⟩ := hv
  have hx := B.exec
  have hb := B.bytes
  have hr := B.returns
  have hts := atoms_spec (ws := wsX10_copy) B.pre
  have hown : s.vm.findClass RX10 = some m.cls := findClass_of_methodNamed B.named
  have hlocks := B.notSynchronized
  have hS : va_S (g_A G) s.heap s.heap [] := va_S.rf
  have hl := lv_entry ([.ref (g_maA G b0), .ref (g_maA G b1)]) (n := 3) (Nat.le_of_ble_eq_true rfl)
  rw [lg_entry_eq]
  generalize (lg_sl ([.ref (g_maA G b0), .ref (g_maA G b1)]) ++ List.replicate (3 - (lg_sl ([.ref (g_maA G b0), .ref (g_maA G b1)])).length) Slot.unset).toArray = ls at hl ⊢
  have hl : lv_has ls 3 [(0, .ref (g_maA G b0)), (1, .ref (g_maA G b1))] := hl
  have hB2 : ∀ (n : Nat) (z0 : gMo) (x2 : Int32) (H : Heap) (locs : List Loc) (ls : Array Slot), f10_copy_2 b0 b1 n z0 x2 = some zo → g_R G E (g_setM μ z0) H → va_S (g_A G) s.heap H locs → lv_has ls 3 [(0, .ref (g_maA G b0)), (1, .ref (g_maA G b1)), (2, .int x2)] → W p l e (headSpec wsX10_copy ({ frames := 0, cells := 0, slots := 0, locals := 0 } : Room)).room s m ([.ref (g_maA G b0), .ref (g_maA G b1)] : List Value).toArray below meth c H locs 0 0 (MQ below (g_Q G E (g_setM μ zo) (fun E' v => E' = E ∧ v = none)) ([.ref (g_maA G b0), .ref (g_maA G b1)] : List Value).toArray s 0 0 (g_A G)) (F0 m 2 ls []) := by
    intro n
    induction n with
    | zero =>
      intro z0 x2 H locs ls hf
      rw [f10_copy_2] at hf
      cases hf
    | succ n ih =>
      intro z0 x2 H locs ls hf  hR hS hl
      rw [f10_copy_2] at hf
      refine lv_iload_n hx hb dX10_copy_2 rfl (lv_at hl 2 rfl) ?_
      refine lv_sipush (v := 1134) hx hb dX10_copy_3 (by decide) ?_
      refine lv_icmp_ge (tgt := 21) hx hb dX10_copy_6 (by decide) (fun c1 => ?_) (fun c1 => ?_)
      · replace hf := g_it hf c1
        obtain rfl := g_s1 hf
        exact g_vret hx hb hlocks hr hS hR g_le.rf ⟨rfl, rfl⟩ (by omega) (by omega) dX10_copy_21
      · replace hf := g_if hf c1
        refine lv_aload_n hx hb dX10_copy_9 rfl (lv_at hl 1 rfl) ?_
        refine lv_iload_n hx hb dX10_copy_10 rfl (lv_at hl 2 rfl) ?_
        refine lv_aload_n hx hb dX10_copy_11 rfl (lv_at hl 0 rfl) ?_
        refine lv_iload_n hx hb dX10_copy_12 rfl (lv_at hl 2 rfl) ?_
        obtain ⟨hg2, hf⟩ := g_gd hf
        refine g_aild hx hb hK hR hb0 hg2 dX10_copy_13 ?_
        obtain ⟨hg3, hf⟩ := g_gd hf
        refine g_aist hx hb hK hS hR hb1 hg3 dX10_copy_14 (fun H locs hR hS => ?_)
        obtain ⟨z4, ez4, hf⟩ := g_let_e hf
        replace hR : g_R G E (g_setM μ z4) H := by rw [ez4]; exact hR
        refine lv_iinc (v := x2 + 1) (lv' := [(2, .int (x2 + 1)), (0, .ref (g_maA G b0)), (1, .ref (g_maA G b1))]) hx hb dX10_copy_15 hl (k := 2) rfl rfl (by decide) rfl (fun ls hl => ?_)
        refine lv_goto (tgt := 2) hx hb dX10_copy_18 (by decide) ?_
        exact ih _ _ _ _ _ hf  hR hS (lv_sub hl [1, 2, 0] rfl)
  unfold f10_copy at hf
  refine lv_iconst (v := 0) hx hb dX10_copy_0 (by decide) ?_
  refine lv_istore_n (lv' := [(2, .int (0 : Int32)), (0, .ref (g_maA G b0)), (1, .ref (g_maA G b1))]) hx hb dX10_copy_1 rfl hl (by decide) rfl (fun ls hl => ?_)
  exact hB2 1200 _ _ _ _ _ hf  hR hS (lv_sub hl [1, 2, 0] rfl)
set_option maxHeartbeats 4000000 in
set_option maxRecDepth 100000 in
theorem c10_record (l : Launch) (G : gG) (E : gEn) (μ : gMu) (z0 : gMo) (b1 : Nat) (hb1 : b1 < 5) (zo : gMo) (hf : f10_record z0 b1 = some zo) : Met l yX10_record wsX10_record ({ frames := 0, cells := 0, slots := 0, locals := 0 } : Room) (g_Pre G E (g_setM μ z0) [.ref (G.2.2 + 54), .ref (g_maA G b1)]) (g_Q G E (g_setM μ zo) (fun E' v => E' = E ∧ v = none)) 0 0 (g_A G) := by
  refine Met.ofW (cc := cX10_record) (maxL := 3) (ret := none) (by decide) rfl ?_
  intro p e s m args below meth c s₁ B hml hv
  obtain ⟨rfl, hR, hK⟩ := hv
  have hx := B.exec
  have hb := B.bytes
  have hr := B.returns
  have hts := atoms_spec (ws := wsX10_record) B.pre
  have hown : s.vm.findClass RX10 = some m.cls := findClass_of_methodNamed B.named
  have hlocks := B.notSynchronized
  have hS : va_S (g_A G) s.heap s.heap [] := va_S.rf
  have hl := lv_entry ([.ref (G.2.2 + 54), .ref (g_maA G b1)]) (n := 3) (Nat.le_of_ble_eq_true rfl)
  rw [lg_entry_eq]
  generalize (lg_sl ([.ref (G.2.2 + 54), .ref (g_maA G b1)]) ++ List.replicate (3 - (lg_sl ([.ref (G.2.2 + 54), .ref (g_maA G b1)])).length) Slot.unset).toArray = ls at hl ⊢
  have hl : lv_has ls 3 [(0, .ref (G.2.2 + 54)), (1, .ref (g_maA G b1))] := hl
  have in_10 : ∀ w ∈ u_ws RX10 TX10 9, w ∈ wsX10_record := ifX10_record_10
  have l_19 := hts (.fieldLink RX10 19 "GlassRacksModel" "history" "[I") (by decide +kernel)
  have l_25 := hts (.fieldLink RX10 25 "GlassRacksModel" "kept" "I") (by decide +kernel)
  have hB51 : ∀ (n : Nat) (z0 : gMo) (x2 : Int32) (H : Heap) (locs : List Loc) (ls : Array Slot), f10_record_51 b1 n z0 x2 = some zo → g_R G E (g_setM μ z0) H → va_S (g_A G) s.heap H locs → lv_has ls 3 [(0, .ref (G.2.2 + 54)), (1, .ref (g_maA G b1)), (2, .int x2)] → W p l e (headSpec wsX10_record ({ frames := 0, cells := 0, slots := 0, locals := 0 } : Room)).room s m ([.ref (G.2.2 + 54), .ref (g_maA G b1)] : List Value).toArray below meth c H locs 0 0 (MQ below (g_Q G E (g_setM μ zo) (fun E' v => E' = E ∧ v = none)) ([.ref (G.2.2 + 54), .ref (g_maA G b1)] : List Value).toArray s 0 0 (g_A G)) (F0 m 51 ls []) := by
    intro n
    induction n with
    | zero =>
      intro z0 x2 H locs ls hf
      rw [f10_record_51] at hf
      cases hf
    | succ n ih =>
      intro z0 x2 H locs ls hf  hR hS hl
      rw [f10_record_51] at hf
      refine lv_iload_n hx hb dX10_record_51 rfl (lv_at hl 2 rfl) ?_
      refine lv_sipush (v := 1134) hx hb dX10_record_52 (by decide) ?_
      refine lv_icmp_ge (tgt := 82) hx hb dX10_record_55 (by decide) (fun c2 => ?_) (fun c2 => ?_)
      · replace hf := g_it hf c2
        refine lv_aload_n hx hb dX10_record_82 rfl (lv_at hl 0 rfl) ?_
        refine lv_dup hx hb dX10_record_83 rfl ?_
        refine g_get hx hb hts in_10 hown hK hR.2.2.2.2.1.1 rfl 5 (by decide) l_25 rfl rfl dX10_record_84 ?_
        refine lv_iconst (v := 1) hx hb dX10_record_87 (by decide) ?_
        refine lv_iadd hx hb dX10_record_88 ?_
        refine g_p10_5 hx hb hts in_10 hown hK hS hR l_25 dX10_record_89 (fun H locs hR hS => ?_)
        obtain ⟨z3, ez3, hf⟩ := g_let_e hf
        replace hR : g_R G E (g_setM μ z3) H := by rw [ez3]; exact hR
        obtain rfl := g_s1 hf
        exact g_vret hx hb hlocks hr hS hR g_le.rf ⟨rfl, rfl⟩ (by omega) (by omega) dX10_record_92
      · replace hf := g_if hf c2
        refine lv_aload_n hx hb dX10_record_58 rfl (lv_at hl 0 rfl) ?_
        refine g_get hx hb hts in_10 hown hK hR.2.2.2.2.1.1 rfl 3 (by decide) l_19 rfl rfl dX10_record_59 ?_
        refine lv_sipush (v := 1134) hx hb dX10_record_62 (by decide) ?_
        refine lv_aload_n hx hb dX10_record_65 rfl (lv_at hl 0 rfl) ?_
        refine g_get hx hb hts in_10 hown hK hR.2.2.2.2.1.1 rfl 5 (by decide) l_25 rfl rfl dX10_record_66 ?_
        refine lv_imul hx hb dX10_record_69 ?_
        refine lv_iload_n hx hb dX10_record_70 rfl (lv_at hl 2 rfl) ?_
        refine lv_iadd hx hb dX10_record_71 ?_
        refine lv_aload_n hx hb dX10_record_72 rfl (lv_at hl 1 rfl) ?_
        refine lv_iload_n hx hb dX10_record_73 rfl (lv_at hl 2 rfl) ?_
        obtain ⟨hg4, hf⟩ := g_gd hf
        refine g_aild hx hb hK hR hb1 hg4 dX10_record_74 ?_
        obtain ⟨hg5, hf⟩ := g_gd hf
        refine g_aist hx hb hK hS hR (by decide) hg5 dX10_record_75 (fun H locs hR hS => ?_)
        obtain ⟨z6, ez6, hf⟩ := g_let_e hf
        replace hR : g_R G E (g_setM μ z6) H := by rw [ez6]; exact hR
        refine lv_iinc (v := x2 + 1) (lv' := [(2, .int (x2 + 1)), (0, .ref (G.2.2 + 54)), (1, .ref (g_maA G b1))]) hx hb dX10_record_76 hl (k := 2) rfl rfl (by decide) rfl (fun ls hl => ?_)
        refine lv_goto (tgt := 51) hx hb dX10_record_79 (by decide) ?_
        exact ih _ _ _ _ _ hf  hR hS (lv_sub hl [1, 2, 0] rfl)
  have hB10 : ∀ (n : Nat) (z0 : gMo) (x2 : Int32) (H : Heap) (locs : List Loc) (ls : Array Slot), f10_record_10 b1 n z0 x2 = some zo → g_R G E (g_setM μ z0) H → va_S (g_A G) s.heap H locs → lv_has ls 3 [(0, .ref (G.2.2 + 54)), (1, .ref (g_maA G b1)), (2, .int x2)] → W p l e (headSpec wsX10_record ({ frames := 0, cells := 0, slots := 0, locals := 0 } : Room)).room s m ([.ref (G.2.2 + 54), .ref (g_maA G b1)] : List Value).toArray below meth c H locs 0 0 (MQ below (g_Q G E (g_setM μ zo) (fun E' v => E' = E ∧ v = none)) ([.ref (G.2.2 + 54), .ref (g_maA G b1)] : List Value).toArray s 0 0 (g_A G)) (F0 m 10 ls []) := by
    intro n
    induction n with
    | zero =>
      intro z0 x2 H locs ls hf
      rw [f10_record_10] at hf
      cases hf
    | succ n ih =>
      intro z0 x2 H locs ls hf  hR hS hl
      rw [f10_record_10] at hf
      refine lv_iload_n hx hb dX10_record_10 rfl (lv_at hl 2 rfl) ?_
      refine lv_sipush (v := 3402) hx hb dX10_record_11 (by decide) ?_
      refine lv_icmp_ge (tgt := 39) hx hb dX10_record_14 (by decide) (fun c7 => ?_) (fun c7 => ?_)
      · replace hf := g_it hf c7
        refine lv_aload_n hx hb dX10_record_39 rfl (lv_at hl 0 rfl) ?_
        refine lv_dup hx hb dX10_record_40 rfl ?_
        refine g_get hx hb hts in_10 hown hK hR.2.2.2.2.1.1 rfl 5 (by decide) l_25 rfl rfl dX10_record_41 ?_
        refine lv_iconst (v := 1) hx hb dX10_record_44 (by decide) ?_
        refine lv_isub hx hb dX10_record_45 ?_
        refine g_p10_5 hx hb hts in_10 hown hK hS hR l_25 dX10_record_46 (fun H locs hR hS => ?_)
        obtain ⟨z8, ez8, hf⟩ := g_let_e hf
        replace hR : g_R G E (g_setM μ z8) H := by rw [ez8]; exact hR
        refine lv_iconst (v := 0) hx hb dX10_record_49 (by decide) ?_
        refine lv_istore_n (lv' := [(2, .int (0 : Int32)), (0, .ref (G.2.2 + 54)), (1, .ref (g_maA G b1))]) hx hb dX10_record_50 rfl hl (by decide) rfl (fun ls hl => ?_)
        exact hB51 5000 _ _ _ _ _ hf  hR hS (lv_sub hl [1, 2, 0] rfl)
      · replace hf := g_if hf c7
        refine lv_aload_n hx hb dX10_record_17 rfl (lv_at hl 0 rfl) ?_
        refine g_get hx hb hts in_10 hown hK hR.2.2.2.2.1.1 rfl 3 (by decide) l_19 rfl rfl dX10_record_18 ?_
        refine lv_iload_n hx hb dX10_record_21 rfl (lv_at hl 2 rfl) ?_
        refine lv_aload_n hx hb dX10_record_22 rfl (lv_at hl 0 rfl) ?_
        refine g_get hx hb hts in_10 hown hK hR.2.2.2.2.1.1 rfl 3 (by decide) l_19 rfl rfl dX10_record_23 ?_
        refine lv_iload_n hx hb dX10_record_26 rfl (lv_at hl 2 rfl) ?_
        refine lv_sipush (v := 1134) hx hb dX10_record_27 (by decide) ?_
        refine lv_iadd hx hb dX10_record_30 ?_
        obtain ⟨hg9, hf⟩ := g_gd hf
        refine g_aild hx hb hK hR (by decide) hg9 dX10_record_31 ?_
        obtain ⟨hg10, hf⟩ := g_gd hf
        refine g_aist hx hb hK hS hR (by decide) hg10 dX10_record_32 (fun H locs hR hS => ?_)
        obtain ⟨z11, ez11, hf⟩ := g_let_e hf
        replace hR : g_R G E (g_setM μ z11) H := by rw [ez11]; exact hR
        refine lv_iinc (v := x2 + 1) (lv' := [(2, .int (x2 + 1)), (0, .ref (G.2.2 + 54)), (1, .ref (g_maA G b1))]) hx hb dX10_record_33 hl (k := 2) rfl rfl (by decide) rfl (fun ls hl => ?_)
        refine lv_goto (tgt := 10) hx hb dX10_record_36 (by decide) ?_
        exact ih _ _ _ _ _ hf  hR hS (lv_sub hl [1, 2, 0] rfl)
  unfold f10_record at hf
  refine lv_aload_n hx hb dX10_record_0 rfl (lv_at hl 0 rfl) ?_
  refine g_get hx hb hts in_10 hown hK hR.2.2.2.2.1.1 rfl 5 (by decide) l_25 rfl rfl dX10_record_1 ?_
  refine lv_iconst (v := 4) hx hb dX10_record_4 (by decide) ?_
  refine lv_icmp_ne (tgt := 49) hx hb dX10_record_5 (by decide) (fun c1 => ?_) (fun c1 => ?_)
  · replace hf := g_it hf c1
    refine lv_iconst (v := 0) hx hb dX10_record_49 (by decide) ?_
    refine lv_istore_n (lv' := [(2, .int (0 : Int32)), (0, .ref (G.2.2 + 54)), (1, .ref (g_maA G b1))]) hx hb dX10_record_50 rfl hl (by decide) rfl (fun ls hl => ?_)
    exact hB51 5000 _ _ _ _ _ hf  hR hS (lv_sub hl [1, 2, 0] rfl)
  · replace hf := g_if hf (fun q => q c1)
    refine lv_iconst (v := 0) hx hb dX10_record_8 (by decide) ?_
    refine lv_istore_n (lv' := [(2, .int (0 : Int32)), (0, .ref (G.2.2 + 54)), (1, .ref (g_maA G b1))]) hx hb dX10_record_9 rfl hl (by decide) rfl (fun ls hl => ?_)
    exact hB10 5000 _ _ _ _ _ hf  hR hS (lv_sub hl [1, 2, 0] rfl)
set_option maxHeartbeats 4000000 in
set_option maxRecDepth 100000 in
theorem c10_buy (l : Launch) (G : gG) (E : gEn) (μ : gMu) (z0 : gMo) (p1 : Int32) (p2 : Int32) (p3 : Int32) (p4 : Int32) (ro : Int32) (zo : gMo) (hf : f10_buy z0 p1 p2 p3 p4 = some (ro, zo)) : Met l yX10_buy wsX10_buy ({ frames := 4, cells := 0, slots := 0, locals := 95 } : Room) (g_Pre G E (g_setM μ z0) [.ref (G.2.2 + 54), .int p1, .int p2, .int p3, .int p4]) (g_Q G E (g_setM μ zo) (fun E' v => E' = E ∧ v = some (.int ro))) 0 0 (g_A G) := by
  refine Met.ofW (cc := cX10_buy) (maxL := 6) (ret := some .int) (by decide) rfl ?_
  intro p e s m args below meth c s₁ B hml hv
  obtain ⟨rfl, hR, hK⟩ := hv
  have hx := B.exec
  have hb := B.bytes
  have hr := B.returns
  have hts := atoms_spec (ws := wsX10_buy) B.pre
  have hown : s.vm.findClass RX10 = some m.cls := findClass_of_methodNamed B.named
  have hlocks := B.notSynchronized
  have hS : va_S (g_A G) s.heap s.heap [] := va_S.rf
  have hl := lv_entry ([.ref (G.2.2 + 54), .int p1, .int p2, .int p3, .int p4]) (n := 6) (Nat.le_of_ble_eq_true rfl)
  rw [lg_entry_eq]
  generalize (lg_sl ([.ref (G.2.2 + 54), .int p1, .int p2, .int p3, .int p4]) ++ List.replicate (6 - (lg_sl ([.ref (G.2.2 + 54), .int p1, .int p2, .int p3, .int p4])).length) Slot.unset).toArray = ls at hl ⊢
  have hl : lv_has ls 6 [(0, .ref (G.2.2 + 54)), (1, .int p1), (2, .int p2), (3, .int p3), (4, .int p4)] := hl
  have in_10 : ∀ w ∈ u_ws RX10 TX10 9, w ∈ wsX10_buy := ifX10_buy_10
  have l_13 := hts (.fieldLink RX10 13 "GlassRacksModel" "spare" "[I") (by decide +kernel)
  have l_7 := hts (.fieldLink RX10 7 "GlassRacksModel" "now" "[I") (by decide +kernel)
  unfold f10_buy at hf
  refine lv_iload_n hx hb dX10_buy_0 rfl (lv_at hl 1 rfl) ?_
  refine lv_iconst (v := 0) hx hb dX10_buy_1 (by decide) ?_
  refine lv_iconst (v := 3) hx hb dX10_buy_2 (by decide) ?_
  obtain ⟨r1, hc2, hf⟩ := g_b1_e hf
  refine g_call (va_runS (As := [.int p1, .int (0 : Int32), .int (3 : Int32)]) (rest := []) ⟨hx, hb, hml, hown, hts⟩ (c10_in l G E (g_setM μ z0) _ _ _ _ hc2) (cwS 3 hts gX10_buy_X10_in rfl rfl rfl (by decide +kernel) ⟨Nat.le_of_ble_eq_true rfl, Nat.le_of_ble_eq_true rfl⟩) (g_pre hR hK) rfl rfl hl.1 rfl (lv_room (Nat.le_of_ble_eq_true rfl)) dX10_buy_3 ⟨by show _ ≤ 0; omega, by show _ ≤ 0; omega⟩) hS (fun w3 H locs hp hR hS => ?_)
  subst hp
  refine lv_if_eq (tgt := 18) hx hb dX10_buy_6 (by decide) (fun c4 => ?_) (fun c4 => ?_)
  · replace hf := g_it hf c4
    refine lv_iconst (v := -1) hx hb dX10_buy_18 (by decide) ?_
    obtain ⟨rfl, rfl⟩ := g_sp hf
    exact g_iret hx hb hlocks hr hS hR g_le.rf ⟨rfl, rfl⟩ (by omega) (by omega) dX10_buy_19
  · replace hf := g_if hf c4
    refine lv_iload_n hx hb dX10_buy_9 rfl (lv_at hl 2 rfl) ?_
    refine lv_iconst (v := 0) hx hb dX10_buy_10 (by decide) ?_
    refine lv_iconst (v := 2) hx hb dX10_buy_11 (by decide) ?_
    obtain ⟨r5, hc6, hf⟩ := g_b1_e hf
    refine g_call (va_runS (As := [.int p2, .int (0 : Int32), .int (2 : Int32)]) (rest := []) ⟨hx, hb, hml, hown, hts⟩ (c10_in l G E (g_setM μ z0) _ _ _ _ hc6) (cwS 3 hts gX10_buy_X10_in rfl rfl rfl (by decide +kernel) ⟨Nat.le_of_ble_eq_true rfl, Nat.le_of_ble_eq_true rfl⟩) (g_pre hR hK) rfl rfl hl.1 rfl (lv_room (Nat.le_of_ble_eq_true rfl)) dX10_buy_12 ⟨by show _ ≤ 0; omega, by show _ ≤ 0; omega⟩) hS (fun w7 H locs hp hR hS => ?_)
    subst hp
    refine lv_if_ne (tgt := 20) hx hb dX10_buy_15 (by decide) (fun c8 => ?_) (fun c8 => ?_)
    · replace hf := g_it hf c8
      refine lv_iload_n hx hb dX10_buy_20 rfl (lv_at hl 3 rfl) ?_
      refine lv_iconst (v := 1) hx hb dX10_buy_21 (by decide) ?_
      refine lv_bipush (v := 99) hx hb dX10_buy_22 (by decide) ?_
      obtain ⟨r9, hc10, hf⟩ := g_b1_e hf
      refine g_call (va_runS (As := [.int p3, .int (1 : Int32), .int (99 : Int32)]) (rest := []) ⟨hx, hb, hml, hown, hts⟩ (c10_in l G E (g_setM μ z0) _ _ _ _ hc10) (cwS 3 hts gX10_buy_X10_in rfl rfl rfl (by decide +kernel) ⟨Nat.le_of_ble_eq_true rfl, Nat.le_of_ble_eq_true rfl⟩) (g_pre hR hK) rfl rfl hl.1 rfl (lv_room (Nat.le_of_ble_eq_true rfl)) dX10_buy_24 ⟨by show _ ≤ 0; omega, by show _ ≤ 0; omega⟩) hS (fun w11 H locs hp hR hS => ?_)
      subst hp
      refine lv_if_eq (tgt := 41) hx hb dX10_buy_27 (by decide) (fun c12 => ?_) (fun c12 => ?_)
      · replace hf := g_it hf c12
        refine lv_bipush (v := -2) hx hb dX10_buy_41 (by decide) ?_
        obtain ⟨rfl, rfl⟩ := g_sp hf
        exact g_iret hx hb hlocks hr hS hR g_le.rf ⟨rfl, rfl⟩ (by omega) (by omega) dX10_buy_43
      · replace hf := g_if hf c12
        refine lv_iload hx hb dX10_buy_30 (lv_at hl 4 rfl) ?_
        refine lv_iconst (v := 1) hx hb dX10_buy_32 (by decide) ?_
        refine lv_bipush (v := 99) hx hb dX10_buy_33 (by decide) ?_
        obtain ⟨r13, hc14, hf⟩ := g_b1_e hf
        refine g_call (va_runS (As := [.int p4, .int (1 : Int32), .int (99 : Int32)]) (rest := []) ⟨hx, hb, hml, hown, hts⟩ (c10_in l G E (g_setM μ z0) _ _ _ _ hc14) (cwS 3 hts gX10_buy_X10_in rfl rfl rfl (by decide +kernel) ⟨Nat.le_of_ble_eq_true rfl, Nat.le_of_ble_eq_true rfl⟩) (g_pre hR hK) rfl rfl hl.1 rfl (lv_room (Nat.le_of_ble_eq_true rfl)) dX10_buy_35 ⟨by show _ ≤ 0; omega, by show _ ≤ 0; omega⟩) hS (fun w15 H locs hp hR hS => ?_)
        subst hp
        refine lv_if_ne (tgt := 44) hx hb dX10_buy_38 (by decide) (fun c16 => ?_) (fun c16 => ?_)
        · replace hf := g_it hf c16
          refine lv_aload_n hx hb dX10_buy_44 rfl (lv_at hl 0 rfl) ?_
          refine g_get hx hb hts in_10 hown hK hR.2.2.2.2.1.1 rfl 0 (by decide) l_7 rfl rfl dX10_buy_45 ?_
          refine lv_aload_n hx hb dX10_buy_48 rfl (lv_at hl 0 rfl) ?_
          refine g_get hx hb hts in_10 hown hK hR.2.2.2.2.1.1 rfl 1 (by decide) l_13 rfl rfl dX10_buy_49 ?_
          obtain ⟨z17, hc18, hf⟩ := g_b1_e hf
          refine g_call (va_runS (As := [.ref (g_maA G 0), .ref (g_maA G 1)]) (rest := []) ⟨hx, hb, hml, hown, hts⟩ (c10_copy l G E μ _ 0 (by decide) 1 (by decide) _ hc18) (cwS 2 hts gX10_buy_X10_copy rfl rfl rfl (by decide +kernel) ⟨Nat.le_of_ble_eq_true rfl, Nat.le_of_ble_eq_true rfl⟩) (g_pre hR hK) rfl rfl hl.1 rfl (lv_room (Nat.le_of_ble_eq_true rfl)) dX10_buy_52 ⟨by show _ ≤ 0; omega, by show _ ≤ 0; omega⟩) hS (fun w19 H locs hp hR hS => ?_)
          subst hp
          refine lv_aload_n hx hb dX10_buy_55 rfl (lv_at hl 0 rfl) ?_
          refine lv_iload_n hx hb dX10_buy_56 rfl (lv_at hl 1 rfl) ?_
          refine lv_iload_n hx hb dX10_buy_57 rfl (lv_at hl 2 rfl) ?_
          refine lv_iload_n hx hb dX10_buy_58 rfl (lv_at hl 3 rfl) ?_
          refine lv_iload hx hb dX10_buy_59 (lv_at hl 4 rfl) ?_
          obtain ⟨r20, z21, hc22, hf⟩ := g_bd_e hf
          refine g_call (va_runV (As := [.int p1, .int p2, .int p3, .int p4]) (rest := []) ⟨hx, hb, hml, hown, hts⟩ (c10_buys l G E μ _ _ _ _ _ _ _ hc22) (cwV 4 hts gX10_buy_X10_buys rfl rfl rfl (by decide +kernel) ⟨Nat.le_of_ble_eq_true rfl, Nat.le_of_ble_eq_true rfl⟩) (g_preV (ci := 10) hR hK (hR.2.2.2.2.1.1) rfl) rfl rfl hl.1 rfl (lv_room (Nat.le_of_ble_eq_true rfl)) dX10_buy_61 ⟨by show _ ≤ 0; omega, by show _ ≤ 0; omega⟩) hS (fun w23 H locs hp hR hS => ?_)
          subst hp
          refine lv_istore (lv' := [(5, .int r20), (0, .ref (G.2.2 + 54)), (1, .int p1), (2, .int p2), (3, .int p3), (4, .int p4)]) hx hb dX10_buy_64 hl (by decide) rfl (fun ls hl => ?_)
          refine lv_iload hx hb dX10_buy_66 (lv_at hl 0 rfl) ?_
          refine lv_if_lt (tgt := 79) hx hb dX10_buy_68 (by decide) (fun c24 => ?_) (fun c24 => ?_)
          · replace hf := g_it hf c24
            refine lv_iload hx hb dX10_buy_79 (lv_at hl 0 rfl) ?_
            obtain ⟨rfl, rfl⟩ := g_sp hf
            exact g_iret hx hb hlocks hr hS hR g_le.rf ⟨rfl, rfl⟩ (by omega) (by omega) dX10_buy_81
          · replace hf := g_if hf c24
            refine lv_aload_n hx hb dX10_buy_71 rfl (lv_at hl 1 rfl) ?_
            refine lv_aload_n hx hb dX10_buy_72 rfl (lv_at hl 1 rfl) ?_
            refine g_get hx hb hts in_10 hown hK hR.2.2.2.2.1.1 rfl 1 (by decide) l_13 rfl rfl dX10_buy_73 ?_
            obtain ⟨z25, hc26, hf⟩ := g_b1_e hf
            refine g_call (va_runV (As := [.ref (g_maA G 1)]) (rest := []) ⟨hx, hb, hml, hown, hts⟩ (c10_record l G E μ _ 1 (by decide) _ hc26) (cwV 1 hts gX10_buy_X10_record rfl rfl rfl (by decide +kernel) ⟨Nat.le_of_ble_eq_true rfl, Nat.le_of_ble_eq_true rfl⟩) (g_preV (ci := 10) hR hK (hR.2.2.2.2.1.1) rfl) rfl rfl hl.1 rfl (lv_room (Nat.le_of_ble_eq_true rfl)) dX10_buy_76 ⟨by show _ ≤ 0; omega, by show _ ≤ 0; omega⟩) hS (fun w27 H locs hp hR hS => ?_)
            subst hp
            refine lv_iload hx hb dX10_buy_79 (lv_at hl 0 rfl) ?_
            obtain ⟨rfl, rfl⟩ := g_sp hf
            exact g_iret hx hb hlocks hr hS hR g_le.rf ⟨rfl, rfl⟩ (by omega) (by omega) dX10_buy_81
        · replace hf := g_if hf (fun q => q c16)
          refine lv_bipush (v := -2) hx hb dX10_buy_41 (by decide) ?_
          obtain ⟨rfl, rfl⟩ := g_sp hf
          exact g_iret hx hb hlocks hr hS hR g_le.rf ⟨rfl, rfl⟩ (by omega) (by omega) dX10_buy_43
    · replace hf := g_if hf (fun q => q c8)
      refine lv_iconst (v := -1) hx hb dX10_buy_18 (by decide) ?_
      obtain ⟨rfl, rfl⟩ := g_sp hf
      exact g_iret hx hb hlocks hr hS hR g_le.rf ⟨rfl, rfl⟩ (by omega) (by omega) dX10_buy_19
set_option maxHeartbeats 4000000 in
set_option maxRecDepth 100000 in
theorem c10_of (l : Launch) (G : gG) (E : gEn) (μ : gMu) (z0 : gMo) (p1 : Int32) (p2 : Int32) (ro : Int32) (hf : f10_of z0 p1 p2 = some ro) : Met l yX10_of wsX10_of ({ frames := 0, cells := 0, slots := 0, locals := 0 } : Room) (g_Pre G E (g_setM μ z0) [.ref (G.2.2 + 54), .int p1, .int p2]) (g_Q G E (g_setM μ z0) (fun E' v => E' = E ∧ v = some (.int ro))) 0 0 (g_A G) := by
  refine Met.ofW (cc := cX10_of) (maxL := 3) (ret := some .int) (by decide) rfl ?_
  intro p e s m args below meth c s₁ B hml hv
  obtain ⟨rfl, hR, hK⟩ := hv
  have hx := B.exec
  have hb := B.bytes
  have hr := B.returns
  have hts := atoms_spec (ws := wsX10_of) B.pre
  have hown : s.vm.findClass RX10 = some m.cls := findClass_of_methodNamed B.named
  have hlocks := B.notSynchronized
  have hS : va_S (g_A G) s.heap s.heap [] := va_S.rf
  have hl := lv_entry ([.ref (G.2.2 + 54), .int p1, .int p2]) (n := 3) (Nat.le_of_ble_eq_true rfl)
  rw [lg_entry_eq]
  generalize (lg_sl ([.ref (G.2.2 + 54), .int p1, .int p2]) ++ List.replicate (3 - (lg_sl ([.ref (G.2.2 + 54), .int p1, .int p2])).length) Slot.unset).toArray = ls at hl ⊢
  have hl : lv_has ls 3 [(0, .ref (G.2.2 + 54)), (1, .int p1), (2, .int p2)] := hl
  have in_10 : ∀ w ∈ u_ws RX10 TX10 9, w ∈ wsX10_of := ifX10_of_10
  have l_7 := hts (.fieldLink RX10 7 "GlassRacksModel" "now" "[I") (by decide +kernel)
  unfold f10_of at hf
  refine lv_aload_n hx hb dX10_of_0 rfl (lv_at hl 0 rfl) ?_
  refine g_get hx hb hts in_10 hown hK hR.2.2.2.2.1.1 rfl 0 (by decide) l_7 rfl rfl dX10_of_1 ?_
  refine lv_sipush (v := 1050) hx hb dX10_of_4 (by decide) ?_
  refine lv_bipush (v := 7) hx hb dX10_of_7 (by decide) ?_
  refine lv_iload_n hx hb dX10_of_9 rfl (lv_at hl 1 rfl) ?_
  refine lv_imul hx hb dX10_of_10 ?_
  refine lv_iadd hx hb dX10_of_11 ?_
  refine lv_iload_n hx hb dX10_of_12 rfl (lv_at hl 2 rfl) ?_
  refine lv_iadd hx hb dX10_of_13 ?_
  obtain ⟨hg1, hf⟩ := g_gd hf
  refine g_aild hx hb hK hR (by decide) hg1 dX10_of_14 ?_
  obtain rfl := g_s1 hf
  exact g_iret hx hb hlocks hr hS hR g_le.rf ⟨rfl, rfl⟩ (by omega) (by omega) dX10_of_15
set_option maxHeartbeats 4000000 in
set_option maxRecDepth 100000 in
theorem c10_isOpen (l : Launch) (G : gG) (E : gEn) (μ : gMu) (z0 : gMo) (p1 : Int32) (ro : Int32) (hf : f10_isOpen z0 p1 = some ro) : Met l yX10_isOpen wsX10_isOpen ({ frames := 1, cells := 0, slots := 0, locals := 22 } : Room) (g_Pre G E (g_setM μ z0) [.ref (G.2.2 + 54), .int p1]) (g_Q G E (g_setM μ z0) (fun E' v => E' = E ∧ v = some (.int ro))) 0 0 (g_A G) := by
  refine Met.ofW (cc := cX10_isOpen) (maxL := 2) (ret := some .boolean) (by decide) rfl ?_
  intro p e s m args below meth c s₁ B hml hv
  obtain ⟨rfl, hR, hK⟩ := hv
  have hx := B.exec
  have hb := B.bytes
  have hr := B.returns
  have hts := atoms_spec (ws := wsX10_isOpen) B.pre
  have hown : s.vm.findClass RX10 = some m.cls := findClass_of_methodNamed B.named
  have hlocks := B.notSynchronized
  have hS : va_S (g_A G) s.heap s.heap [] := va_S.rf
  have hl := lv_entry ([.ref (G.2.2 + 54), .int p1]) (n := 2) (Nat.le_of_ble_eq_true rfl)
  rw [lg_entry_eq]
  generalize (lg_sl ([.ref (G.2.2 + 54), .int p1]) ++ List.replicate (2 - (lg_sl ([.ref (G.2.2 + 54), .int p1])).length) Slot.unset).toArray = ls at hl ⊢
  have hl : lv_has ls 2 [(0, .ref (G.2.2 + 54)), (1, .int p1)] := hl
  unfold f10_isOpen at hf
  refine lv_aload_n hx hb dX10_isOpen_0 rfl (lv_at hl 0 rfl) ?_
  refine lv_iload_n hx hb dX10_isOpen_1 rfl (lv_at hl 1 rfl) ?_
  refine lv_iconst (v := 4) hx hb dX10_isOpen_2 (by decide) ?_
  obtain ⟨r1, hc2, hf⟩ := g_b1_e hf
  refine g_call (va_runV (As := [.int p1, .int (4 : Int32)]) (rest := []) ⟨hx, hb, hml, hown, hts⟩ (c10_of l G E μ _ _ _ _ hc2) (cwV 2 hts gX10_isOpen_X10_of rfl rfl rfl (by decide +kernel) ⟨Nat.le_of_ble_eq_true rfl, Nat.le_of_ble_eq_true rfl⟩) (g_preV (ci := 10) hR hK (hR.2.2.2.2.1.1) rfl) rfl rfl hl.1 rfl (lv_room (Nat.le_of_ble_eq_true rfl)) dX10_isOpen_3 ⟨by show _ ≤ 0; omega, by show _ ≤ 0; omega⟩) hS (fun w3 H locs hp hR hS => ?_)
  subst hp
  refine lv_if_ne (tgt := 13) hx hb dX10_isOpen_6 (by decide) (fun c4 => ?_) (fun c4 => ?_)
  · replace hf := g_it hf c4
    refine lv_iconst (v := 0) hx hb dX10_isOpen_13 (by decide) ?_
    obtain rfl := g_s1 hf
    exact g_zret hx hb hlocks hr hS hR g_le.rf (by decide) ⟨rfl, rfl⟩ (by omega) (by omega) dX10_isOpen_14
  · replace hf := g_if hf (fun q => q c4)
    refine lv_iconst (v := 1) hx hb dX10_isOpen_9 (by decide) ?_
    refine lv_goto (tgt := 14) hx hb dX10_isOpen_10 (by decide) ?_
    obtain rfl := g_s1 hf
    exact g_zret hx hb hlocks hr hS hR g_le.rf (by decide) ⟨rfl, rfl⟩ (by omega) (by omega) dX10_isOpen_14
set_option maxHeartbeats 4000000 in
set_option maxRecDepth 100000 in
theorem c10_isOrder (l : Launch) (G : gG) (E : gEn) (μ : gMu) (z0 : gMo) (p1 : Int32) (ro : Int32) (hf : f10_isOrder z0 p1 = some ro) : Met l yX10_isOrder wsX10_isOrder ({ frames := 1, cells := 0, slots := 0, locals := 22 } : Room) (g_Pre G E (g_setM μ z0) [.ref (G.2.2 + 54), .int p1]) (g_Q G E (g_setM μ z0) (fun E' v => E' = E ∧ v = some (.int ro))) 0 0 (g_A G) := by
  refine Met.ofW (cc := cX10_isOrder) (maxL := 2) (ret := some .boolean) (by decide) rfl ?_
  intro p e s m args below meth c s₁ B hml hv
  obtain ⟨rfl, hR, hK⟩ := hv
  have hx := B.exec
  have hb := B.bytes
  have hr := B.returns
  have hts := atoms_spec (ws := wsX10_isOrder) B.pre
  have hown : s.vm.findClass RX10 = some m.cls := findClass_of_methodNamed B.named
  have hlocks := B.notSynchronized
  have hS : va_S (g_A G) s.heap s.heap [] := va_S.rf
  have hl := lv_entry ([.ref (G.2.2 + 54), .int p1]) (n := 2) (Nat.le_of_ble_eq_true rfl)
  rw [lg_entry_eq]
  generalize (lg_sl ([.ref (G.2.2 + 54), .int p1]) ++ List.replicate (2 - (lg_sl ([.ref (G.2.2 + 54), .int p1])).length) Slot.unset).toArray = ls at hl ⊢
  have hl : lv_has ls 2 [(0, .ref (G.2.2 + 54)), (1, .int p1)] := hl
  have in_10 : ∀ w ∈ u_ws RX10 TX10 9, w ∈ wsX10_isOrder := ifX10_isOrder_10
  have l_7 := hts (.fieldLink RX10 7 "GlassRacksModel" "now" "[I") (by decide +kernel)
  unfold f10_isOrder at hf
  refine lv_iload_n hx hb dX10_isOrder_0 rfl (lv_at hl 1 rfl) ?_
  refine lv_iconst (v := 0) hx hb dX10_isOrder_1 (by decide) ?_
  refine lv_aload_n hx hb dX10_isOrder_2 rfl (lv_at hl 0 rfl) ?_
  refine g_get hx hb hts in_10 hown hK hR.2.2.2.2.1.1 rfl 0 (by decide) l_7 rfl rfl dX10_isOrder_3 ?_
  refine lv_bipush (v := 7) hx hb dX10_isOrder_6 (by decide) ?_
  refine g_aild hx hb hK hR (by decide) (by decide) dX10_isOrder_8 ?_
  refine lv_iconst (v := 1) hx hb dX10_isOrder_9 (by decide) ?_
  refine lv_isub hx hb dX10_isOrder_10 ?_
  obtain ⟨r1, hc2, hf⟩ := g_b1_e hf
  refine g_call (va_runS (As := [.int p1, .int (0 : Int32), .int ((z0.1 0 (7 : Int32).toNatClampNeg) - (1 : Int32))]) (rest := []) ⟨hx, hb, hml, hown, hts⟩ (c10_in l G E (g_setM μ z0) _ _ _ _ hc2) (cwS 3 hts gX10_isOrder_X10_in rfl rfl rfl (by decide +kernel) ⟨Nat.le_of_ble_eq_true rfl, Nat.le_of_ble_eq_true rfl⟩) (g_pre hR hK) rfl rfl hl.1 rfl (lv_room (Nat.le_of_ble_eq_true rfl)) dX10_isOrder_11 ⟨by show _ ≤ 0; omega, by show _ ≤ 0; omega⟩) hS (fun w3 H locs hp hR hS => ?_)
  subst hp
  obtain ⟨hz4, hf⟩ := g_gd hf
  obtain rfl := g_s1 hf
  exact g_zret hx hb hlocks hr hS hR g_le.rf hz4 ⟨rfl, rfl⟩ (by omega) (by omega) dX10_isOrder_14
set_option maxHeartbeats 4000000 in
set_option maxRecDepth 100000 in
theorem c10_open (l : Launch) (G : gG) (E : gEn) (μ : gMu) (z0 : gMo)  (ro : Int32) (hf : f10_open z0 = some ro) : Met l yX10_open wsX10_open ({ frames := 2, cells := 0, slots := 0, locals := 43 } : Room) (g_Pre G E (g_setM μ z0) [.ref (G.2.2 + 54)]) (g_Q G E (g_setM μ z0) (fun E' v => E' = E ∧ v = some (.int ro))) 0 0 (g_A G) := by
  refine Met.ofW (cc := cX10_open) (maxL := 3) (ret := some .int) (by decide) rfl ?_
  intro p e s m args below meth c s₁ B hml hv
  obtain ⟨rfl, hR, hK⟩ := hv
  have hx := B.exec
  have hb := B.bytes
  have hr := B.returns
  have hts := atoms_spec (ws := wsX10_open) B.pre
  have hown : s.vm.findClass RX10 = some m.cls := findClass_of_methodNamed B.named
  have hlocks := B.notSynchronized
  have hS : va_S (g_A G) s.heap s.heap [] := va_S.rf
  have hl := lv_entry ([.ref (G.2.2 + 54)]) (n := 3) (Nat.le_of_ble_eq_true rfl)
  rw [lg_entry_eq]
  generalize (lg_sl ([.ref (G.2.2 + 54)]) ++ List.replicate (3 - (lg_sl ([.ref (G.2.2 + 54)])).length) Slot.unset).toArray = ls at hl ⊢
  have hl : lv_has ls 3 [(0, .ref (G.2.2 + 54))] := hl
  have in_10 : ∀ w ∈ u_ws RX10 TX10 9, w ∈ wsX10_open := ifX10_open_10
  have l_7 := hts (.fieldLink RX10 7 "GlassRacksModel" "now" "[I") (by decide +kernel)
  have hB4 : ∀ (n : Nat) (z0 : gMo) (x1 : Int32) (x2 : Int32) (H : Heap) (locs : List Loc) (ls : Array Slot), f10_open_4 n z0 x1 x2 = some ro → g_R G E (g_setM μ z0) H → va_S (g_A G) s.heap H locs → lv_has ls 3 [(0, .ref (G.2.2 + 54)), (1, .int x1), (2, .int x2)] → W p l e (headSpec wsX10_open ({ frames := 2, cells := 0, slots := 0, locals := 43 } : Room)).room s m ([.ref (G.2.2 + 54)] : List Value).toArray below meth c H locs 0 0 (MQ below (g_Q G E (g_setM μ z0) (fun E' v => E' = E ∧ v = some (.int ro))) ([.ref (G.2.2 + 54)] : List Value).toArray s 0 0 (g_A G)) (F0 m 4 ls []) := by
    intro n
    induction n with
    | zero =>
      intro z0 x1 x2 H locs ls hf
      rw [f10_open_4] at hf
      cases hf
    | succ n ih =>
      intro z0 x1 x2 H locs ls hf  hR hS hl
      rw [f10_open_4] at hf
      refine lv_iload_n hx hb dX10_open_4 rfl (lv_at hl 2 rfl) ?_
      refine lv_aload_n hx hb dX10_open_5 rfl (lv_at hl 0 rfl) ?_
      refine g_get hx hb hts in_10 hown hK hR.2.2.2.2.1.1 rfl 0 (by decide) l_7 rfl rfl dX10_open_6 ?_
      refine lv_bipush (v := 7) hx hb dX10_open_9 (by decide) ?_
      refine g_aild hx hb hK hR (by decide) (by decide) dX10_open_11 ?_
      refine lv_icmp_ge (tgt := 37) hx hb dX10_open_12 (by decide) (fun c1 => ?_) (fun c1 => ?_)
      · replace hf := g_it hf c1
        refine lv_iload_n hx hb dX10_open_37 rfl (lv_at hl 1 rfl) ?_
        obtain rfl := g_s1 hf
        exact g_iret hx hb hlocks hr hS hR g_le.rf ⟨rfl, rfl⟩ (by omega) (by omega) dX10_open_38
      · replace hf := g_if hf c1
        refine lv_iload_n hx hb dX10_open_15 rfl (lv_at hl 1 rfl) ?_
        refine lv_aload_n hx hb dX10_open_16 rfl (lv_at hl 0 rfl) ?_
        refine lv_iload_n hx hb dX10_open_17 rfl (lv_at hl 2 rfl) ?_
        obtain ⟨r2, hc3, hf⟩ := g_b1_e hf
        refine g_call (va_runV (As := [.int x2]) (rest := [.int x1]) ⟨hx, hb, hml, hown, hts⟩ (c10_isOpen l G E μ _ _ _ hc3) (cwV 1 hts gX10_open_X10_isOpen rfl rfl rfl (by decide +kernel) ⟨Nat.le_of_ble_eq_true rfl, Nat.le_of_ble_eq_true rfl⟩) (g_preV (ci := 10) hR hK (hR.2.2.2.2.1.1) rfl) rfl rfl hl.1 rfl (lv_room (Nat.le_of_ble_eq_true rfl)) dX10_open_18 ⟨by show _ ≤ 0; omega, by show _ ≤ 0; omega⟩) hS (fun w4 H locs hp hR hS => ?_)
        subst hp
        refine lv_if_eq (tgt := 28) hx hb dX10_open_21 (by decide) (fun c5 => ?_) (fun c5 => ?_)
        · replace hf := g_it hf c5
          refine lv_iconst (v := 0) hx hb dX10_open_28 (by decide) ?_
          refine lv_iadd hx hb dX10_open_29 ?_
          refine lv_topi (fun t6 et6 => ?_)
          replace hf := g_let_at hf et6
          refine lv_istore_n (lv' := [(1, .int t6), (0, .ref (G.2.2 + 54)), (2, .int x2)]) hx hb dX10_open_30 rfl hl (by decide) rfl (fun ls hl => ?_)
          refine lv_iinc (v := x2 + 1) (lv' := [(2, .int (x2 + 1)), (1, .int t6), (0, .ref (G.2.2 + 54))]) hx hb dX10_open_31 hl (k := 2) rfl rfl (by decide) rfl (fun ls hl => ?_)
          refine lv_goto (tgt := 4) hx hb dX10_open_34 (by decide) ?_
          exact ih _ _ _ _ _ _ hf  hR hS (lv_sub hl [2, 1, 0] rfl)
        · replace hf := g_if hf c5
          refine lv_iconst (v := 1) hx hb dX10_open_24 (by decide) ?_
          refine lv_goto (tgt := 29) hx hb dX10_open_25 (by decide) ?_
          refine lv_iadd hx hb dX10_open_29 ?_
          refine lv_topi (fun t7 et7 => ?_)
          replace hf := g_let_at hf et7
          refine lv_istore_n (lv' := [(1, .int t7), (0, .ref (G.2.2 + 54)), (2, .int x2)]) hx hb dX10_open_30 rfl hl (by decide) rfl (fun ls hl => ?_)
          refine lv_iinc (v := x2 + 1) (lv' := [(2, .int (x2 + 1)), (1, .int t7), (0, .ref (G.2.2 + 54))]) hx hb dX10_open_31 hl (k := 2) rfl rfl (by decide) rfl (fun ls hl => ?_)
          refine lv_goto (tgt := 4) hx hb dX10_open_34 (by decide) ?_
          exact ih _ _ _ _ _ _ hf  hR hS (lv_sub hl [2, 1, 0] rfl)
  unfold f10_open at hf
  refine lv_iconst (v := 0) hx hb dX10_open_0 (by decide) ?_
  refine lv_istore_n (lv' := [(1, .int (0 : Int32)), (0, .ref (G.2.2 + 54))]) hx hb dX10_open_1 rfl hl (by decide) rfl (fun ls hl => ?_)
  refine lv_iconst (v := 0) hx hb dX10_open_2 (by decide) ?_
  refine lv_istore_n (lv' := [(2, .int (0 : Int32)), (1, .int (0 : Int32)), (0, .ref (G.2.2 + 54))]) hx hb dX10_open_3 rfl hl (by decide) rfl (fun ls hl => ?_)
  exact hB4 70 _ _ _ _ _ _ hf  hR hS (lv_sub hl [2, 1, 0] rfl)
set_option maxHeartbeats 4000000 in
set_option maxRecDepth 100000 in
theorem c10_cancel (l : Launch) (G : gG) (E : gEn) (μ : gMu) (z0 : gMo) (p1 : Int32) (ro : Int32) (zo : gMo) (hf : f10_cancel z0 p1 = some (ro, zo)) : Met l yX10_cancel wsX10_cancel ({ frames := 3, cells := 0, slots := 0, locals := 65 } : Room) (g_Pre G E (g_setM μ z0) [.ref (G.2.2 + 54), .int p1]) (g_Q G E (g_setM μ zo) (fun E' v => E' = E ∧ v = some (.int ro))) 0 0 (g_A G) := by
  refine Met.ofW (cc := cX10_cancel) (maxL := 2) (ret := some .int) (by decide) rfl ?_
  intro p e s m args below meth c s₁ B hml hv
  obtain ⟨rfl, hR, hK⟩ := hv
  have hx := B.exec
  have hb := B.bytes
  have hr := B.returns
  have hts := atoms_spec (ws := wsX10_cancel) B.pre
  have hown : s.vm.findClass RX10 = some m.cls := findClass_of_methodNamed B.named
  have hlocks := B.notSynchronized
  have hS : va_S (g_A G) s.heap s.heap [] := va_S.rf
  have hl := lv_entry ([.ref (G.2.2 + 54), .int p1]) (n := 2) (Nat.le_of_ble_eq_true rfl)
  rw [lg_entry_eq]
  generalize (lg_sl ([.ref (G.2.2 + 54), .int p1]) ++ List.replicate (2 - (lg_sl ([.ref (G.2.2 + 54), .int p1])).length) Slot.unset).toArray = ls at hl ⊢
  have hl : lv_has ls 2 [(0, .ref (G.2.2 + 54)), (1, .int p1)] := hl
  have in_10 : ∀ w ∈ u_ws RX10 TX10 9, w ∈ wsX10_cancel := ifX10_cancel_10
  have l_7 := hts (.fieldLink RX10 7 "GlassRacksModel" "now" "[I") (by decide +kernel)
  unfold f10_cancel at hf
  refine lv_aload_n hx hb dX10_cancel_0 rfl (lv_at hl 0 rfl) ?_
  refine lv_iload_n hx hb dX10_cancel_1 rfl (lv_at hl 1 rfl) ?_
  obtain ⟨r1, hc2, hf⟩ := g_b1_e hf
  refine g_call (va_runV (As := [.int p1]) (rest := []) ⟨hx, hb, hml, hown, hts⟩ (c10_isOrder l G E μ _ _ _ hc2) (cwV 1 hts gX10_cancel_X10_isOrder rfl rfl rfl (by decide +kernel) ⟨Nat.le_of_ble_eq_true rfl, Nat.le_of_ble_eq_true rfl⟩) (g_preV (ci := 10) hR hK (hR.2.2.2.2.1.1) rfl) rfl rfl hl.1 rfl (lv_room (Nat.le_of_ble_eq_true rfl)) dX10_cancel_2 ⟨by show _ ≤ 0; omega, by show _ ≤ 0; omega⟩) hS (fun w3 H locs hp hR hS => ?_)
  subst hp
  refine lv_if_ne (tgt := 10) hx hb dX10_cancel_5 (by decide) (fun c4 => ?_) (fun c4 => ?_)
  · replace hf := g_it hf c4
    refine lv_aload_n hx hb dX10_cancel_10 rfl (lv_at hl 0 rfl) ?_
    refine lv_iload_n hx hb dX10_cancel_11 rfl (lv_at hl 1 rfl) ?_
    obtain ⟨r5, hc6, hf⟩ := g_b1_e hf
    refine g_call (va_runV (As := [.int p1]) (rest := []) ⟨hx, hb, hml, hown, hts⟩ (c10_isOpen l G E μ _ _ _ hc6) (cwV 1 hts gX10_cancel_X10_isOpen rfl rfl rfl (by decide +kernel) ⟨Nat.le_of_ble_eq_true rfl, Nat.le_of_ble_eq_true rfl⟩) (g_preV (ci := 10) hR hK (hR.2.2.2.2.1.1) rfl) rfl rfl hl.1 rfl (lv_room (Nat.le_of_ble_eq_true rfl)) dX10_cancel_12 ⟨by show _ ≤ 0; omega, by show _ ≤ 0; omega⟩) hS (fun w7 H locs hp hR hS => ?_)
    subst hp
    refine lv_if_ne (tgt := 21) hx hb dX10_cancel_15 (by decide) (fun c8 => ?_) (fun c8 => ?_)
    · replace hf := g_it hf c8
      refine lv_aload_n hx hb dX10_cancel_21 rfl (lv_at hl 0 rfl) ?_
      refine lv_aload_n hx hb dX10_cancel_22 rfl (lv_at hl 0 rfl) ?_
      refine g_get hx hb hts in_10 hown hK hR.2.2.2.2.1.1 rfl 0 (by decide) l_7 rfl rfl dX10_cancel_23 ?_
      obtain ⟨z9, hc10, hf⟩ := g_b1_e hf
      refine g_call (va_runV (As := [.ref (g_maA G 0)]) (rest := []) ⟨hx, hb, hml, hown, hts⟩ (c10_record l G E μ _ 0 (by decide) _ hc10) (cwV 1 hts gX10_cancel_X10_record rfl rfl rfl (by decide +kernel) ⟨Nat.le_of_ble_eq_true rfl, Nat.le_of_ble_eq_true rfl⟩) (g_preV (ci := 10) hR hK (hR.2.2.2.2.1.1) rfl) rfl rfl hl.1 rfl (lv_room (Nat.le_of_ble_eq_true rfl)) dX10_cancel_26 ⟨by show _ ≤ 0; omega, by show _ ≤ 0; omega⟩) hS (fun w11 H locs hp hR hS => ?_)
      subst hp
      refine lv_aload_n hx hb dX10_cancel_29 rfl (lv_at hl 0 rfl) ?_
      refine g_get hx hb hts in_10 hown hK hR.2.2.2.2.1.1 rfl 0 (by decide) l_7 rfl rfl dX10_cancel_30 ?_
      refine lv_sipush (v := 1050) hx hb dX10_cancel_33 (by decide) ?_
      refine lv_bipush (v := 7) hx hb dX10_cancel_36 (by decide) ?_
      refine lv_iload_n hx hb dX10_cancel_38 rfl (lv_at hl 1 rfl) ?_
      refine lv_imul hx hb dX10_cancel_39 ?_
      refine lv_iadd hx hb dX10_cancel_40 ?_
      refine lv_iconst (v := 4) hx hb dX10_cancel_41 (by decide) ?_
      refine lv_iadd hx hb dX10_cancel_42 ?_
      refine lv_iconst (v := 2) hx hb dX10_cancel_43 (by decide) ?_
      obtain ⟨hg12, hf⟩ := g_gd hf
      refine g_aist hx hb hK hS hR (by decide) hg12 dX10_cancel_44 (fun H locs hR hS => ?_)
      obtain ⟨z13, ez13, hf⟩ := g_let_e hf
      replace hR : g_R G E (g_setM μ z13) H := by rw [ez13]; exact hR
      refine lv_aload_n hx hb dX10_cancel_45 rfl (lv_at hl 0 rfl) ?_
      obtain ⟨r14, hc15, hf⟩ := g_b1_e hf
      refine g_call (va_runV (As := []) (rest := []) ⟨hx, hb, hml, hown, hts⟩ (c10_open l G E μ _ _ hc15) (cwV 0 hts gX10_cancel_X10_open rfl rfl rfl (by decide +kernel) ⟨Nat.le_of_ble_eq_true rfl, Nat.le_of_ble_eq_true rfl⟩) (g_preV (ci := 10) hR hK (hR.2.2.2.2.1.1) rfl) rfl rfl hl.1 rfl (lv_room (Nat.le_of_ble_eq_true rfl)) dX10_cancel_46 ⟨by show _ ≤ 0; omega, by show _ ≤ 0; omega⟩) hS (fun w16 H locs hp hR hS => ?_)
      subst hp
      obtain ⟨rfl, rfl⟩ := g_sp hf
      exact g_iret hx hb hlocks hr hS hR g_le.rf ⟨rfl, rfl⟩ (by omega) (by omega) dX10_cancel_49
    · replace hf := g_if hf (fun q => q c8)
      refine lv_bipush (v := -4) hx hb dX10_cancel_18 (by decide) ?_
      obtain ⟨rfl, rfl⟩ := g_sp hf
      exact g_iret hx hb hlocks hr hS hR g_le.rf ⟨rfl, rfl⟩ (by omega) (by omega) dX10_cancel_20
  · replace hf := g_if hf (fun q => q c4)
    refine lv_iconst (v := -1) hx hb dX10_cancel_8 (by decide) ?_
    obtain ⟨rfl, rfl⟩ := g_sp hf
    exact g_iret hx hb hlocks hr hS hR g_le.rf ⟨rfl, rfl⟩ (by omega) (by omega) dX10_cancel_9
set_option maxHeartbeats 4000000 in
set_option maxRecDepth 100000 in
theorem c10_lies (l : Launch) (G : gG) (E : gEn) (μ : gMu) (z0 : gMo) (p1 : Int32) (p2 : Int32) (ro : Int32) (hf : f10_lies z0 p1 p2 = some ro) : Met l yX10_lies wsX10_lies ({ frames := 1, cells := 0, slots := 0, locals := 22 } : Room) (g_Pre G E (g_setM μ z0) [.ref (G.2.2 + 54), .int p1, .int p2]) (g_Q G E (g_setM μ z0) (fun E' v => E' = E ∧ v = some (.int ro))) 0 0 (g_A G) := by
  refine Met.ofW (cc := cX10_lies) (maxL := 7) (ret := some .int) (by decide) rfl ?_
  intro p e s m args below meth c s₁ B hml hv
  obtain ⟨rfl, hR, hK⟩ := hv
  have hx := B.exec
  have hb := B.bytes
  have hr := B.returns
  have hts := atoms_spec (ws := wsX10_lies) B.pre
  have hown : s.vm.findClass RX10 = some m.cls := findClass_of_methodNamed B.named
  have hlocks := B.notSynchronized
  have hS : va_S (g_A G) s.heap s.heap [] := va_S.rf
  have hl := lv_entry ([.ref (G.2.2 + 54), .int p1, .int p2]) (n := 7) (Nat.le_of_ble_eq_true rfl)
  rw [lg_entry_eq]
  generalize (lg_sl ([.ref (G.2.2 + 54), .int p1, .int p2]) ++ List.replicate (7 - (lg_sl ([.ref (G.2.2 + 54), .int p1, .int p2])).length) Slot.unset).toArray = ls at hl ⊢
  have hl : lv_has ls 7 [(0, .ref (G.2.2 + 54)), (1, .int p1), (2, .int p2)] := hl
  have hB63 : ∀ (z0 : gMo) (x3 : Int32) (x4 : Int32) (x5 : Int32) (x6 : Int32) (H : Heap) (locs : List Loc) (ls : Array Slot), f10_lies_63 z0 x3 x4 x5 x6 = some ro → g_R G E (g_setM μ z0) H → va_S (g_A G) s.heap H locs → lv_has ls 7 [(0, .ref (G.2.2 + 54)), (3, .int x3), (4, .int x4), (5, .int x5), (6, .int x6)] → W p l e (headSpec wsX10_lies ({ frames := 1, cells := 0, slots := 0, locals := 22 } : Room)).room s m ([.ref (G.2.2 + 54), .int p1, .int p2] : List Value).toArray below meth c H locs 0 0 (MQ below (g_Q G E (g_setM μ z0) (fun E' v => E' = E ∧ v = some (.int ro))) ([.ref (G.2.2 + 54), .int p1, .int p2] : List Value).toArray s 0 0 (g_A G)) (F0 m 63 ls []) := by
    intro z0 x3 x4 x5 x6 H locs ls hf  hR hS hl
    unfold f10_lies_63 at hf
    refine lv_aload_n hx hb dX10_lies_63 rfl (lv_at hl 0 rfl) ?_
    refine lv_iconst (v := 4) hx hb dX10_lies_64 (by decide) ?_
    obtain ⟨r21, hc22, hf⟩ := g_b1_e hf
    refine g_call (va_runV (As := [.int (4 : Int32)]) (rest := []) ⟨hx, hb, hml, hown, hts⟩ (c10_setting l G E μ _ _ _ hc22) (cwV 1 hts gX10_lies_X10_setting rfl rfl rfl (by decide +kernel) ⟨Nat.le_of_ble_eq_true rfl, Nat.le_of_ble_eq_true rfl⟩) (g_preV (ci := 10) hR hK (hR.2.2.2.2.1.1) rfl) rfl rfl hl.1 rfl (lv_room (Nat.le_of_ble_eq_true rfl)) dX10_lies_65 ⟨by show _ ≤ 0; omega, by show _ ≤ 0; omega⟩) hS (fun w23 H locs hp hR hS => ?_)
    subst hp
    refine lv_iconst (v := 1) hx hb dX10_lies_68 (by decide) ?_
    refine lv_icmp_ne (tgt := 89) hx hb dX10_lies_69 (by decide) (fun c24 => ?_) (fun c24 => ?_)
    · replace hf := g_it hf c24
      refine lv_iconst (v := -1) hx hb dX10_lies_89 (by decide) ?_
      obtain rfl := g_s1 hf
      exact g_iret hx hb hlocks hr hS hR g_le.rf ⟨rfl, rfl⟩ (by omega) (by omega) dX10_lies_90
    · replace hf := g_if hf (fun q => q c24)
      refine lv_iload hx hb dX10_lies_72 (lv_at hl 2 rfl) ?_
      refine lv_iload hx hb dX10_lies_74 (lv_at hl 3 rfl) ?_
      refine lv_icmp_gt (tgt := 89) hx hb dX10_lies_76 (by decide) (fun c25 => ?_) (fun c25 => ?_)
      · replace hf := g_it hf c25
        refine lv_iconst (v := -1) hx hb dX10_lies_89 (by decide) ?_
        obtain rfl := g_s1 hf
        exact g_iret hx hb hlocks hr hS hR g_le.rf ⟨rfl, rfl⟩ (by omega) (by omega) dX10_lies_90
      · replace hf := g_if hf c25
        refine lv_iload_n hx hb dX10_lies_79 rfl (lv_at hl 1 rfl) ?_
        refine lv_iload hx hb dX10_lies_80 (lv_at hl 4 rfl) ?_
        refine lv_icmp_gt (tgt := 89) hx hb dX10_lies_82 (by decide) (fun c26 => ?_) (fun c26 => ?_)
        · replace hf := g_it hf c26
          refine lv_iconst (v := -1) hx hb dX10_lies_89 (by decide) ?_
          obtain rfl := g_s1 hf
          exact g_iret hx hb hlocks hr hS hR g_le.rf ⟨rfl, rfl⟩ (by omega) (by omega) dX10_lies_90
        · replace hf := g_if hf c26
          refine lv_iconst (v := 1) hx hb dX10_lies_85 (by decide) ?_
          refine lv_goto (tgt := 90) hx hb dX10_lies_86 (by decide) ?_
          obtain rfl := g_s1 hf
          exact g_iret hx hb hlocks hr hS hR g_le.rf ⟨rfl, rfl⟩ (by omega) (by omega) dX10_lies_90
  unfold f10_lies at hf
  refine lv_aload_n hx hb dX10_lies_0 rfl (lv_at hl 0 rfl) ?_
  refine lv_iload_n hx hb dX10_lies_1 rfl (lv_at hl 1 rfl) ?_
  refine lv_iconst (v := 1) hx hb dX10_lies_2 (by decide) ?_
  obtain ⟨r1, hc2, hf⟩ := g_b1_e hf
  refine g_call (va_runV (As := [.int p1, .int (1 : Int32)]) (rest := []) ⟨hx, hb, hml, hown, hts⟩ (c10_of l G E μ _ _ _ _ hc2) (cwV 2 hts gX10_lies_X10_of rfl rfl rfl (by decide +kernel) ⟨Nat.le_of_ble_eq_true rfl, Nat.le_of_ble_eq_true rfl⟩) (g_preV (ci := 10) hR hK (hR.2.2.2.2.1.1) rfl) rfl rfl hl.1 rfl (lv_room (Nat.le_of_ble_eq_true rfl)) dX10_lies_3 ⟨by show _ ≤ 0; omega, by show _ ≤ 0; omega⟩) hS (fun w3 H locs hp hR hS => ?_)
  subst hp
  refine lv_istore_n (lv' := [(3, .int r1), (0, .ref (G.2.2 + 54)), (1, .int p1), (2, .int p2)]) hx hb dX10_lies_6 rfl hl (by decide) rfl (fun ls hl => ?_)
  refine lv_aload_n hx hb dX10_lies_7 rfl (lv_at hl 1 rfl) ?_
  refine lv_iload_n hx hb dX10_lies_8 rfl (lv_at hl 2 rfl) ?_
  refine lv_iconst (v := 2) hx hb dX10_lies_9 (by decide) ?_
  obtain ⟨r4, hc5, hf⟩ := g_b1_e hf
  refine g_call (va_runV (As := [.int p1, .int (2 : Int32)]) (rest := []) ⟨hx, hb, hml, hown, hts⟩ (c10_of l G E μ _ _ _ _ hc5) (cwV 2 hts gX10_lies_X10_of rfl rfl rfl (by decide +kernel) ⟨Nat.le_of_ble_eq_true rfl, Nat.le_of_ble_eq_true rfl⟩) (g_preV (ci := 10) hR hK (hR.2.2.2.2.1.1) rfl) rfl rfl hl.1 rfl (lv_room (Nat.le_of_ble_eq_true rfl)) dX10_lies_10 ⟨by show _ ≤ 0; omega, by show _ ≤ 0; omega⟩) hS (fun w6 H locs hp hR hS => ?_)
  subst hp
  refine lv_istore (lv' := [(4, .int r4), (3, .int r1), (0, .ref (G.2.2 + 54)), (1, .int p1), (2, .int p2)]) hx hb dX10_lies_13 hl (by decide) rfl (fun ls hl => ?_)
  refine lv_aload_n hx hb dX10_lies_15 rfl (lv_at hl 2 rfl) ?_
  refine lv_iload_n hx hb dX10_lies_16 rfl (lv_at hl 4 rfl) ?_
  refine lv_iconst (v := 1) hx hb dX10_lies_17 (by decide) ?_
  obtain ⟨r7, hc8, hf⟩ := g_b1_e hf
  refine g_call (va_runV (As := [.int p2, .int (1 : Int32)]) (rest := []) ⟨hx, hb, hml, hown, hts⟩ (c10_its l G E μ _ _ _ _ hc8) (cwV 2 hts gX10_lies_X10_its rfl rfl rfl (by decide +kernel) ⟨Nat.le_of_ble_eq_true rfl, Nat.le_of_ble_eq_true rfl⟩) (g_preV (ci := 10) hR hK (hR.2.2.2.2.1.1) rfl) rfl rfl hl.1 rfl (lv_room (Nat.le_of_ble_eq_true rfl)) dX10_lies_18 ⟨by show _ ≤ 0; omega, by show _ ≤ 0; omega⟩) hS (fun w9 H locs hp hR hS => ?_)
  subst hp
  refine lv_istore (lv' := [(5, .int r7), (4, .int r4), (3, .int r1), (0, .ref (G.2.2 + 54)), (1, .int p1), (2, .int p2)]) hx hb dX10_lies_21 hl (by decide) rfl (fun ls hl => ?_)
  refine lv_aload_n hx hb dX10_lies_23 rfl (lv_at hl 3 rfl) ?_
  refine lv_iload_n hx hb dX10_lies_24 rfl (lv_at hl 5 rfl) ?_
  refine lv_iconst (v := 2) hx hb dX10_lies_25 (by decide) ?_
  obtain ⟨r10, hc11, hf⟩ := g_b1_e hf
  refine g_call (va_runV (As := [.int p2, .int (2 : Int32)]) (rest := []) ⟨hx, hb, hml, hown, hts⟩ (c10_its l G E μ _ _ _ _ hc11) (cwV 2 hts gX10_lies_X10_its rfl rfl rfl (by decide +kernel) ⟨Nat.le_of_ble_eq_true rfl, Nat.le_of_ble_eq_true rfl⟩) (g_preV (ci := 10) hR hK (hR.2.2.2.2.1.1) rfl) rfl rfl hl.1 rfl (lv_room (Nat.le_of_ble_eq_true rfl)) dX10_lies_26 ⟨by show _ ≤ 0; omega, by show _ ≤ 0; omega⟩) hS (fun w12 H locs hp hR hS => ?_)
  subst hp
  refine lv_istore (lv' := [(6, .int r10), (5, .int r7), (4, .int r4), (3, .int r1), (0, .ref (G.2.2 + 54)), (1, .int p1), (2, .int p2)]) hx hb dX10_lies_29 hl (by decide) rfl (fun ls hl => ?_)
  refine lv_aload_n hx hb dX10_lies_31 rfl (lv_at hl 4 rfl) ?_
  refine lv_iload_n hx hb dX10_lies_32 rfl (lv_at hl 5 rfl) ?_
  refine lv_iconst (v := 0) hx hb dX10_lies_33 (by decide) ?_
  obtain ⟨r13, hc14, hf⟩ := g_b1_e hf
  refine g_call (va_runV (As := [.int p1, .int (0 : Int32)]) (rest := []) ⟨hx, hb, hml, hown, hts⟩ (c10_of l G E μ _ _ _ _ hc14) (cwV 2 hts gX10_lies_X10_of rfl rfl rfl (by decide +kernel) ⟨Nat.le_of_ble_eq_true rfl, Nat.le_of_ble_eq_true rfl⟩) (g_preV (ci := 10) hR hK (hR.2.2.2.2.1.1) rfl) rfl rfl hl.1 rfl (lv_room (Nat.le_of_ble_eq_true rfl)) dX10_lies_34 ⟨by show _ ≤ 0; omega, by show _ ≤ 0; omega⟩) hS (fun w15 H locs hp hR hS => ?_)
  subst hp
  refine lv_aload_n hx hb dX10_lies_37 rfl (lv_at hl 4 rfl) ?_
  refine lv_iload_n hx hb dX10_lies_38 rfl (lv_at hl 6 rfl) ?_
  refine lv_iconst (v := 0) hx hb dX10_lies_39 (by decide) ?_
  obtain ⟨r16, hc17, hf⟩ := g_b1_e hf
  refine g_call (va_runV (As := [.int p2, .int (0 : Int32)]) (rest := [.int r13]) ⟨hx, hb, hml, hown, hts⟩ (c10_its l G E μ _ _ _ _ hc17) (cwV 2 hts gX10_lies_X10_its rfl rfl rfl (by decide +kernel) ⟨Nat.le_of_ble_eq_true rfl, Nat.le_of_ble_eq_true rfl⟩) (g_preV (ci := 10) hR hK (hR.2.2.2.2.1.1) rfl) rfl rfl hl.1 rfl (lv_room (Nat.le_of_ble_eq_true rfl)) dX10_lies_40 ⟨by show _ ≤ 0; omega, by show _ ≤ 0; omega⟩) hS (fun w18 H locs hp hR hS => ?_)
  subst hp
  refine lv_icmp_eq (tgt := 48) hx hb dX10_lies_43 (by decide) (fun c19 => ?_) (fun c19 => ?_)
  · replace hf := g_it hf c19
    refine lv_iload_n hx hb dX10_lies_48 rfl (lv_at hl 3 rfl) ?_
    refine lv_iload hx hb dX10_lies_49 (lv_at hl 1 rfl) ?_
    refine lv_icmp_gt (tgt := 63) hx hb dX10_lies_51 (by decide) (fun c20 => ?_) (fun c20 => ?_)
    · replace hf := g_it hf c20
      exact hB63 _ _ _ _ _ _ _ _ hf  hR hS (lv_sub hl [4, 3, 2, 1, 0] rfl)
    · replace hf := g_if hf c20
      refine lv_iload hx hb dX10_lies_54 (lv_at hl 2 rfl) ?_
      refine lv_iload hx hb dX10_lies_56 (lv_at hl 0 rfl) ?_
      refine lv_icmp_gt (tgt := 63) hx hb dX10_lies_58 (by decide) (fun c27 => ?_) (fun c27 => ?_)
      · replace hf := g_it hf c27
        exact hB63 _ _ _ _ _ _ _ _ hf  hR hS (lv_sub hl [4, 3, 2, 1, 0] rfl)
      · replace hf := g_if hf c27
        refine lv_iconst (v := 0) hx hb dX10_lies_61 (by decide) ?_
        obtain rfl := g_s1 hf
        exact g_iret hx hb hlocks hr hS hR g_le.rf ⟨rfl, rfl⟩ (by omega) (by omega) dX10_lies_62
  · replace hf := g_if hf c19
    refine lv_iconst (v := -1) hx hb dX10_lies_46 (by decide) ?_
    obtain rfl := g_s1 hf
    exact g_iret hx hb hlocks hr hS hR g_le.rf ⟨rfl, rfl⟩ (by omega) (by omega) dX10_lies_47
set_option maxHeartbeats 4000000 in
set_option maxRecDepth 100000 in
theorem c10_piece (l : Launch) (G : gG) (E : gEn) (μ : gMu) (z0 : gMo) (p1 : Int32) (p2 : Int32) (p3 : Int32) (p4 : Int32) (ro : Int32) (hf : f10_piece z0 p1 p2 p3 p4 = some ro) : Met l yX10_piece wsX10_piece ({ frames := 2, cells := 0, slots := 0, locals := 48 } : Room) (g_Pre G E (g_setM μ z0) [.ref (G.2.2 + 54), .int p1, .int p2, .int p3, .int p4]) (g_Q G E (g_setM μ z0) (fun E' v => E' = E ∧ v = some (.int ro))) 0 0 (g_A G) := by
  refine Met.ofW (cc := cX10_piece) (maxL := 11) (ret := some .int) (by decide) rfl ?_
  intro p e s m args below meth c s₁ B hml hv
  obtain ⟨rfl, hR, hK⟩ := hv
  have hx := B.exec
  have hb := B.bytes
  have hr := B.returns
  have hts := atoms_spec (ws := wsX10_piece) B.pre
  have hown : s.vm.findClass RX10 = some m.cls := findClass_of_methodNamed B.named
  have hlocks := B.notSynchronized
  have hS : va_S (g_A G) s.heap s.heap [] := va_S.rf
  have hl := lv_entry ([.ref (G.2.2 + 54), .int p1, .int p2, .int p3, .int p4]) (n := 11) (Nat.le_of_ble_eq_true rfl)
  rw [lg_entry_eq]
  generalize (lg_sl ([.ref (G.2.2 + 54), .int p1, .int p2, .int p3, .int p4]) ++ List.replicate (11 - (lg_sl ([.ref (G.2.2 + 54), .int p1, .int p2, .int p3, .int p4])).length) Slot.unset).toArray = ls at hl ⊢
  have hl : lv_has ls 11 [(0, .ref (G.2.2 + 54)), (1, .int p1), (2, .int p2), (3, .int p3), (4, .int p4)] := hl
  have hB81 : ∀ (z0 : gMo) (x3 : Int32) (x4 : Int32) (x6 : Int32) (x7 : Int32) (x8 : Int32) (x9 : Int32) (y0 : Int32) (H : Heap) (locs : List Loc) (ls : Array Slot), f10_piece_81 z0 x3 x4 x6 x7 x8 x9 y0 = some ro → g_R G E (g_setM μ z0) H → va_S (g_A G) s.heap H locs → lv_has ls 11 [(0, .ref (G.2.2 + 54)), (3, .int x3), (4, .int x4), (6, .int x6), (7, .int x7), (8, .int x8), (9, .int x9)] → W p l e (headSpec wsX10_piece ({ frames := 2, cells := 0, slots := 0, locals := 48 } : Room)).room s m ([.ref (G.2.2 + 54), .int p1, .int p2, .int p3, .int p4] : List Value).toArray below meth c H locs 0 0 (MQ below (g_Q G E (g_setM μ z0) (fun E' v => E' = E ∧ v = some (.int ro))) ([.ref (G.2.2 + 54), .int p1, .int p2, .int p3, .int p4] : List Value).toArray s 0 0 (g_A G)) (F0 m 81 ls [.int y0]) := by
    intro z0 x3 x4 x6 x7 x8 x9 y0 H locs ls hf  hR hS hl
    unfold f10_piece_81 at hf
    refine lv_istore (lv' := [(10, .int y0), (0, .ref (G.2.2 + 54)), (3, .int x3), (4, .int x4), (6, .int x6), (7, .int x7), (8, .int x8), (9, .int x9)]) hx hb dX10_piece_81 hl (by decide) rfl (fun ls hl => ?_)
    refine lv_iload_n hx hb dX10_piece_83 rfl (lv_at hl 2 rfl) ?_
    refine lv_if_ne (tgt := 119) hx hb dX10_piece_84 (by decide) (fun c23 => ?_) (fun c23 => ?_)
    · replace hf := g_it hf c23
      refine lv_iload hx hb dX10_piece_119 (lv_at hl 3 rfl) ?_
      refine lv_if_ne (tgt := 139) hx hb dX10_piece_121 (by decide) (fun c24 => ?_) (fun c24 => ?_)
      · replace hf := g_it hf c24
        refine lv_iload hx hb dX10_piece_139 (lv_at hl 7 rfl) ?_
        refine lv_iload hx hb dX10_piece_141 (lv_at hl 5 rfl) ?_
        refine lv_isub hx hb dX10_piece_143 ?_
        refine lv_aload_n hx hb dX10_piece_144 rfl (lv_at hl 1 rfl) ?_
        refine lv_iconst (v := 0) hx hb dX10_piece_145 (by decide) ?_
        obtain ⟨r25, hc26, hf⟩ := g_b1_e hf
        refine g_call (va_runV (As := [.int (0 : Int32)]) (rest := [.int (x9 - x7)]) ⟨hx, hb, hml, hown, hts⟩ (c10_setting l G E μ _ _ _ hc26) (cwV 1 hts gX10_piece_X10_setting rfl rfl rfl (by decide +kernel) ⟨Nat.le_of_ble_eq_true rfl, Nat.le_of_ble_eq_true rfl⟩) (g_preV (ci := 10) hR hK (hR.2.2.2.2.1.1) rfl) rfl rfl hl.1 rfl (lv_room (Nat.le_of_ble_eq_true rfl)) dX10_piece_146 ⟨by show _ ≤ 0; omega, by show _ ≤ 0; omega⟩) hS (fun w27 H locs hp hR hS => ?_)
        subst hp
        refine lv_isub hx hb dX10_piece_149 ?_
        obtain rfl := g_s1 hf
        exact g_iret hx hb hlocks hr hS hR g_le.rf ⟨rfl, rfl⟩ (by omega) (by omega) dX10_piece_150
      · replace hf := g_if hf (fun q => q c24)
        refine lv_iload hx hb dX10_piece_124 (lv_at hl 0 rfl) ?_
        refine lv_if_eq (tgt := 134) hx hb dX10_piece_126 (by decide) (fun c28 => ?_) (fun c28 => ?_)
        · replace hf := g_it hf c28
          refine lv_iload hx hb dX10_piece_134 (lv_at hl 6 rfl) ?_
          refine lv_goto (tgt := 150) hx hb dX10_piece_136 (by decide) ?_
          obtain rfl := g_s1 hf
          exact g_iret hx hb hlocks hr hS hR g_le.rf ⟨rfl, rfl⟩ (by omega) (by omega) dX10_piece_150
        · replace hf := g_if hf c28
          refine lv_iload hx hb dX10_piece_129 (lv_at hl 4 rfl) ?_
          refine lv_goto (tgt := 150) hx hb dX10_piece_131 (by decide) ?_
          obtain rfl := g_s1 hf
          exact g_iret hx hb hlocks hr hS hR g_le.rf ⟨rfl, rfl⟩ (by omega) (by omega) dX10_piece_150
    · replace hf := g_if hf (fun q => q c23)
      refine lv_iload hx hb dX10_piece_87 (lv_at hl 3 rfl) ?_
      refine lv_if_ne (tgt := 106) hx hb dX10_piece_89 (by decide) (fun c29 => ?_) (fun c29 => ?_)
      · replace hf := g_it hf c29
        refine lv_iload hx hb dX10_piece_106 (lv_at hl 0 rfl) ?_
        refine lv_if_eq (tgt := 116) hx hb dX10_piece_108 (by decide) (fun c30 => ?_) (fun c30 => ?_)
        · replace hf := g_it hf c30
          refine lv_iload hx hb dX10_piece_116 (lv_at hl 5 rfl) ?_
          obtain rfl := g_s1 hf
          exact g_iret hx hb hlocks hr hS hR g_le.rf ⟨rfl, rfl⟩ (by omega) (by omega) dX10_piece_118
        · replace hf := g_if hf c30
          refine lv_iload hx hb dX10_piece_111 (lv_at hl 7 rfl) ?_
          refine lv_goto (tgt := 118) hx hb dX10_piece_113 (by decide) ?_
          obtain rfl := g_s1 hf
          exact g_iret hx hb hlocks hr hS hR g_le.rf ⟨rfl, rfl⟩ (by omega) (by omega) dX10_piece_118
      · replace hf := g_if hf (fun q => q c29)
        refine lv_iload hx hb dX10_piece_92 (lv_at hl 6 rfl) ?_
        refine lv_iload hx hb dX10_piece_94 (lv_at hl 4 rfl) ?_
        refine lv_isub hx hb dX10_piece_96 ?_
        refine lv_aload_n hx hb dX10_piece_97 rfl (lv_at hl 1 rfl) ?_
        refine lv_iconst (v := 0) hx hb dX10_piece_98 (by decide) ?_
        obtain ⟨r31, hc32, hf⟩ := g_b1_e hf
        refine g_call (va_runV (As := [.int (0 : Int32)]) (rest := [.int (x8 - x6)]) ⟨hx, hb, hml, hown, hts⟩ (c10_setting l G E μ _ _ _ hc32) (cwV 1 hts gX10_piece_X10_setting rfl rfl rfl (by decide +kernel) ⟨Nat.le_of_ble_eq_true rfl, Nat.le_of_ble_eq_true rfl⟩) (g_preV (ci := 10) hR hK (hR.2.2.2.2.1.1) rfl) rfl rfl hl.1 rfl (lv_room (Nat.le_of_ble_eq_true rfl)) dX10_piece_99 ⟨by show _ ≤ 0; omega, by show _ ≤ 0; omega⟩) hS (fun w33 H locs hp hR hS => ?_)
        subst hp
        refine lv_isub hx hb dX10_piece_102 ?_
        refine lv_goto (tgt := 118) hx hb dX10_piece_103 (by decide) ?_
        obtain rfl := g_s1 hf
        exact g_iret hx hb hlocks hr hS hR g_le.rf ⟨rfl, rfl⟩ (by omega) (by omega) dX10_piece_118
  have hB46 : ∀ (z0 : gMo) (x2 : Int32) (x3 : Int32) (x4 : Int32) (x6 : Int32) (y1 : Int32) (y2 : Int32) (H : Heap) (locs : List Loc) (ls : Array Slot), f10_piece_46 z0 x2 x3 x4 x6 y1 y2 = some ro → g_R G E (g_setM μ z0) H → va_S (g_A G) s.heap H locs → lv_has ls 11 [(0, .ref (G.2.2 + 54)), (2, .int x2), (3, .int x3), (4, .int x4), (6, .int x6)] → W p l e (headSpec wsX10_piece ({ frames := 2, cells := 0, slots := 0, locals := 48 } : Room)).room s m ([.ref (G.2.2 + 54), .int p1, .int p2, .int p3, .int p4] : List Value).toArray below meth c H locs 0 0 (MQ below (g_Q G E (g_setM μ z0) (fun E' v => E' = E ∧ v = some (.int ro))) ([.ref (G.2.2 + 54), .int p1, .int p2, .int p3, .int p4] : List Value).toArray s 0 0 (g_A G)) (F0 m 46 ls [.int y2, .int y1, .ref (G.2.2 + 54)]) := by
    intro z0 x2 x3 x4 x6 y1 y2 H locs ls hf  hR hS hl
    unfold f10_piece_46 at hf
    obtain ⟨r10, hc11, hf⟩ := g_b1_e hf
    refine g_call (va_runV (As := [.int y1, .int y2]) (rest := []) ⟨hx, hb, hml, hown, hts⟩ (c10_of l G E μ _ _ _ _ hc11) (cwV 2 hts gX10_piece_X10_of rfl rfl rfl (by decide +kernel) ⟨Nat.le_of_ble_eq_true rfl, Nat.le_of_ble_eq_true rfl⟩) (g_preV (ci := 10) hR hK (hR.2.2.2.2.1.1) rfl) rfl rfl hl.1 rfl (lv_room (Nat.le_of_ble_eq_true rfl)) dX10_piece_46 ⟨by show _ ≤ 0; omega, by show _ ≤ 0; omega⟩) hS (fun w12 H locs hp hR hS => ?_)
    subst hp
    refine lv_istore (lv' := [(7, .int r10), (0, .ref (G.2.2 + 54)), (2, .int x2), (3, .int x3), (4, .int x4), (6, .int x6)]) hx hb dX10_piece_49 hl (by decide) rfl (fun ls hl => ?_)
    refine lv_aload_n hx hb dX10_piece_51 rfl (lv_at hl 1 rfl) ?_
    refine lv_iload_n hx hb dX10_piece_52 rfl (lv_at hl 2 rfl) ?_
    refine lv_iconst (v := 1) hx hb dX10_piece_53 (by decide) ?_
    obtain ⟨r13, hc14, hf⟩ := g_b1_e hf
    refine g_call (va_runV (As := [.int x2, .int (1 : Int32)]) (rest := []) ⟨hx, hb, hml, hown, hts⟩ (c10_its l G E μ _ _ _ _ hc14) (cwV 2 hts gX10_piece_X10_its rfl rfl rfl (by decide +kernel) ⟨Nat.le_of_ble_eq_true rfl, Nat.le_of_ble_eq_true rfl⟩) (g_preV (ci := 10) hR hK (hR.2.2.2.2.1.1) rfl) rfl rfl hl.1 rfl (lv_room (Nat.le_of_ble_eq_true rfl)) dX10_piece_54 ⟨by show _ ≤ 0; omega, by show _ ≤ 0; omega⟩) hS (fun w15 H locs hp hR hS => ?_)
    subst hp
    refine lv_istore (lv' := [(8, .int r13), (7, .int r10), (0, .ref (G.2.2 + 54)), (2, .int x2), (3, .int x3), (4, .int x4), (6, .int x6)]) hx hb dX10_piece_57 hl (by decide) rfl (fun ls hl => ?_)
    refine lv_aload_n hx hb dX10_piece_59 rfl (lv_at hl 2 rfl) ?_
    refine lv_iload_n hx hb dX10_piece_60 rfl (lv_at hl 3 rfl) ?_
    refine lv_iconst (v := 2) hx hb dX10_piece_61 (by decide) ?_
    obtain ⟨r16, hc17, hf⟩ := g_b1_e hf
    refine g_call (va_runV (As := [.int x2, .int (2 : Int32)]) (rest := []) ⟨hx, hb, hml, hown, hts⟩ (c10_its l G E μ _ _ _ _ hc17) (cwV 2 hts gX10_piece_X10_its rfl rfl rfl (by decide +kernel) ⟨Nat.le_of_ble_eq_true rfl, Nat.le_of_ble_eq_true rfl⟩) (g_preV (ci := 10) hR hK (hR.2.2.2.2.1.1) rfl) rfl rfl hl.1 rfl (lv_room (Nat.le_of_ble_eq_true rfl)) dX10_piece_62 ⟨by show _ ≤ 0; omega, by show _ ≤ 0; omega⟩) hS (fun w18 H locs hp hR hS => ?_)
    subst hp
    refine lv_istore (lv' := [(9, .int r16), (8, .int r13), (7, .int r10), (0, .ref (G.2.2 + 54)), (2, .int x2), (3, .int x3), (4, .int x4), (6, .int x6)]) hx hb dX10_piece_65 hl (by decide) rfl (fun ls hl => ?_)
    refine lv_aload_n hx hb dX10_piece_67 rfl (lv_at hl 3 rfl) ?_
    refine lv_iconst (v := 2) hx hb dX10_piece_68 (by decide) ?_
    obtain ⟨r19, hc20, hf⟩ := g_b1_e hf
    refine g_call (va_runV (As := [.int (2 : Int32)]) (rest := []) ⟨hx, hb, hml, hown, hts⟩ (c10_setting l G E μ _ _ _ hc20) (cwV 1 hts gX10_piece_X10_setting rfl rfl rfl (by decide +kernel) ⟨Nat.le_of_ble_eq_true rfl, Nat.le_of_ble_eq_true rfl⟩) (g_preV (ci := 10) hR hK (hR.2.2.2.2.1.1) rfl) rfl rfl hl.1 rfl (lv_room (Nat.le_of_ble_eq_true rfl)) dX10_piece_69 ⟨by show _ ≤ 0; omega, by show _ ≤ 0; omega⟩) hS (fun w21 H locs hp hR hS => ?_)
    subst hp
    refine lv_iconst (v := 1) hx hb dX10_piece_72 (by decide) ?_
    refine lv_icmp_ne (tgt := 80) hx hb dX10_piece_73 (by decide) (fun c22 => ?_) (fun c22 => ?_)
    · replace hf := g_it hf c22
      refine lv_iconst (v := 0) hx hb dX10_piece_80 (by decide) ?_
      exact hB81 _ _ _ _ _ _ _ _ _ _ _ hf  hR hS (lv_sub hl [3, 5, 6, 7, 2, 1, 0] rfl)
    · replace hf := g_if hf (fun q => q c22)
      refine lv_iconst (v := 1) hx hb dX10_piece_76 (by decide) ?_
      refine lv_goto (tgt := 81) hx hb dX10_piece_77 (by decide) ?_
      exact hB81 _ _ _ _ _ _ _ _ _ _ _ hf  hR hS (lv_sub hl [3, 5, 6, 7, 2, 1, 0] rfl)
  have hB29 : ∀ (z0 : gMo) (x1 : Int32) (x2 : Int32) (x3 : Int32) (x4 : Int32) (x5 : Int32) (y1 : Int32) (y2 : Int32) (H : Heap) (locs : List Loc) (ls : Array Slot), f10_piece_29 z0 x1 x2 x3 x4 x5 y1 y2 = some ro → g_R G E (g_setM μ z0) H → va_S (g_A G) s.heap H locs → lv_has ls 11 [(0, .ref (G.2.2 + 54)), (1, .int x1), (2, .int x2), (3, .int x3), (4, .int x4), (5, .int x5)] → W p l e (headSpec wsX10_piece ({ frames := 2, cells := 0, slots := 0, locals := 48 } : Room)).room s m ([.ref (G.2.2 + 54), .int p1, .int p2, .int p3, .int p4] : List Value).toArray below meth c H locs 0 0 (MQ below (g_Q G E (g_setM μ z0) (fun E' v => E' = E ∧ v = some (.int ro))) ([.ref (G.2.2 + 54), .int p1, .int p2, .int p3, .int p4] : List Value).toArray s 0 0 (g_A G)) (F0 m 29 ls [.int y2, .int y1, .ref (G.2.2 + 54)]) := by
    intro z0 x1 x2 x3 x4 x5 y1 y2 H locs ls hf  hR hS hl
    unfold f10_piece_29 at hf
    obtain ⟨r6, hc7, hf⟩ := g_b1_e hf
    refine g_call (va_runV (As := [.int y1, .int y2]) (rest := []) ⟨hx, hb, hml, hown, hts⟩ (c10_of l G E μ _ _ _ _ hc7) (cwV 2 hts gX10_piece_X10_of rfl rfl rfl (by decide +kernel) ⟨Nat.le_of_ble_eq_true rfl, Nat.le_of_ble_eq_true rfl⟩) (g_preV (ci := 10) hR hK (hR.2.2.2.2.1.1) rfl) rfl rfl hl.1 rfl (lv_room (Nat.le_of_ble_eq_true rfl)) dX10_piece_29 ⟨by show _ ≤ 0; omega, by show _ ≤ 0; omega⟩) hS (fun w8 H locs hp hR hS => ?_)
    subst hp
    refine lv_istore (lv' := [(6, .int r6), (0, .ref (G.2.2 + 54)), (1, .int x1), (2, .int x2), (3, .int x3), (4, .int x4), (5, .int x5)]) hx hb dX10_piece_32 hl (by decide) rfl (fun ls hl => ?_)
    refine lv_aload_n hx hb dX10_piece_34 rfl (lv_at hl 1 rfl) ?_
    refine lv_iload_n hx hb dX10_piece_35 rfl (lv_at hl 2 rfl) ?_
    refine lv_iload hx hb dX10_piece_36 (lv_at hl 6 rfl) ?_
    refine lv_if_eq (tgt := 45) hx hb dX10_piece_38 (by decide) (fun c9 => ?_) (fun c9 => ?_)
    · replace hf := g_it hf c9
      refine lv_iconst (v := 2) hx hb dX10_piece_45 (by decide) ?_
      exact hB46 _ _ _ _ _ _ _ _ _ _ hf  hR hS (lv_sub hl [1, 3, 4, 5, 0] rfl)
    · replace hf := g_if hf c9
      refine lv_iconst (v := 1) hx hb dX10_piece_41 (by decide) ?_
      refine lv_goto (tgt := 46) hx hb dX10_piece_42 (by decide) ?_
      exact hB46 _ _ _ _ _ _ _ _ _ _ hf  hR hS (lv_sub hl [1, 3, 4, 5, 0] rfl)
  have hB15 : ∀ (z0 : gMo) (x1 : Int32) (x2 : Int32) (x3 : Int32) (x4 : Int32) (y0 : Int32) (H : Heap) (locs : List Loc) (ls : Array Slot), f10_piece_15 z0 x1 x2 x3 x4 y0 = some ro → g_R G E (g_setM μ z0) H → va_S (g_A G) s.heap H locs → lv_has ls 11 [(0, .ref (G.2.2 + 54)), (1, .int x1), (2, .int x2), (3, .int x3), (4, .int x4)] → W p l e (headSpec wsX10_piece ({ frames := 2, cells := 0, slots := 0, locals := 48 } : Room)).room s m ([.ref (G.2.2 + 54), .int p1, .int p2, .int p3, .int p4] : List Value).toArray below meth c H locs 0 0 (MQ below (g_Q G E (g_setM μ z0) (fun E' v => E' = E ∧ v = some (.int ro))) ([.ref (G.2.2 + 54), .int p1, .int p2, .int p3, .int p4] : List Value).toArray s 0 0 (g_A G)) (F0 m 15 ls [.int y0]) := by
    intro z0 x1 x2 x3 x4 y0 H locs ls hf  hR hS hl
    unfold f10_piece_15 at hf
    refine lv_istore (lv' := [(5, .int y0), (0, .ref (G.2.2 + 54)), (1, .int x1), (2, .int x2), (3, .int x3), (4, .int x4)]) hx hb dX10_piece_15 hl (by decide) rfl (fun ls hl => ?_)
    refine lv_aload_n hx hb dX10_piece_17 rfl (lv_at hl 1 rfl) ?_
    refine lv_iload_n hx hb dX10_piece_18 rfl (lv_at hl 2 rfl) ?_
    refine lv_iload hx hb dX10_piece_19 (lv_at hl 0 rfl) ?_
    refine lv_if_eq (tgt := 28) hx hb dX10_piece_21 (by decide) (fun c5 => ?_) (fun c5 => ?_)
    · replace hf := g_it hf c5
      refine lv_iconst (v := 1) hx hb dX10_piece_28 (by decide) ?_
      exact hB29 _ _ _ _ _ _ _ _ _ _ _ hf  hR hS (lv_sub hl [1, 2, 3, 4, 5, 0] rfl)
    · replace hf := g_if hf c5
      refine lv_iconst (v := 2) hx hb dX10_piece_24 (by decide) ?_
      refine lv_goto (tgt := 29) hx hb dX10_piece_25 (by decide) ?_
      exact hB29 _ _ _ _ _ _ _ _ _ _ _ hf  hR hS (lv_sub hl [1, 2, 3, 4, 5, 0] rfl)
  unfold f10_piece at hf
  refine lv_aload_n hx hb dX10_piece_0 rfl (lv_at hl 0 rfl) ?_
  refine lv_iload_n hx hb dX10_piece_1 rfl (lv_at hl 1 rfl) ?_
  refine lv_iload_n hx hb dX10_piece_2 rfl (lv_at hl 2 rfl) ?_
  obtain ⟨r1, hc2, hf⟩ := g_b1_e hf
  refine g_call (va_runV (As := [.int p1, .int p2]) (rest := []) ⟨hx, hb, hml, hown, hts⟩ (c10_lies l G E μ _ _ _ _ hc2) (cwV 2 hts gX10_piece_X10_lies rfl rfl rfl (by decide +kernel) ⟨Nat.le_of_ble_eq_true rfl, Nat.le_of_ble_eq_true rfl⟩) (g_preV (ci := 10) hR hK (hR.2.2.2.2.1.1) rfl) rfl rfl hl.1 rfl (lv_room (Nat.le_of_ble_eq_true rfl)) dX10_piece_3 ⟨by show _ ≤ 0; omega, by show _ ≤ 0; omega⟩) hS (fun w3 H locs hp hR hS => ?_)
  subst hp
  refine lv_iconst (v := 1) hx hb dX10_piece_6 (by decide) ?_
  refine lv_icmp_ne (tgt := 14) hx hb dX10_piece_7 (by decide) (fun c4 => ?_) (fun c4 => ?_)
  · replace hf := g_it hf c4
    refine lv_iconst (v := 0) hx hb dX10_piece_14 (by decide) ?_
    exact hB15 _ _ _ _ _ _ _ _ _ hf  hR hS (lv_sub hl [0, 1, 2, 3, 4] rfl)
  · replace hf := g_if hf (fun q => q c4)
    refine lv_iconst (v := 1) hx hb dX10_piece_10 (by decide) ?_
    refine lv_goto (tgt := 15) hx hb dX10_piece_11 (by decide) ?_
    exact hB15 _ _ _ _ _ _ _ _ _ hf  hR hS (lv_sub hl [0, 1, 2, 3, 4] rfl)
set_option maxHeartbeats 4000000 in
set_option maxRecDepth 100000 in
theorem c10_keeps (l : Launch) (G : gG) (E : gEn) (μ : gMu) (z0 : gMo) (p1 : Int32) (p2 : Int32) (p3 : Int32) (ro : Int32) (hf : f10_keeps z0 p1 p2 p3 = some ro) : Met l yX10_keeps wsX10_keeps ({ frames := 3, cells := 0, slots := 0, locals := 78 } : Room) (g_Pre G E (g_setM μ z0) [.ref (G.2.2 + 54), .int p1, .int p2, .int p3]) (g_Q G E (g_setM μ z0) (fun E' v => E' = E ∧ v = some (.int ro))) 0 0 (g_A G) := by
  refine Met.ofW (cc := cX10_keeps) (maxL := 4) (ret := some .boolean) (by decide) rfl ?_
  intro p e s m args below meth c s₁ B hml hv
  obtain ⟨rfl, hR, hK⟩ := hv
  have hx := B.exec
  have hb := B.bytes
  have hr := B.returns
  have hts := atoms_spec (ws := wsX10_keeps) B.pre
  have hown : s.vm.findClass RX10 = some m.cls := findClass_of_methodNamed B.named
  have hlocks := B.notSynchronized
  have hS : va_S (g_A G) s.heap s.heap [] := va_S.rf
  have hl := lv_entry ([.ref (G.2.2 + 54), .int p1, .int p2, .int p3]) (n := 4) (Nat.le_of_ble_eq_true rfl)
  rw [lg_entry_eq]
  generalize (lg_sl ([.ref (G.2.2 + 54), .int p1, .int p2, .int p3]) ++ List.replicate (4 - (lg_sl ([.ref (G.2.2 + 54), .int p1, .int p2, .int p3])).length) Slot.unset).toArray = ls at hl ⊢
  have hl : lv_has ls 4 [(0, .ref (G.2.2 + 54)), (1, .int p1), (2, .int p2), (3, .int p3)] := hl
  unfold f10_keeps at hf
  refine lv_aload_n hx hb dX10_keeps_0 rfl (lv_at hl 0 rfl) ?_
  refine lv_iload_n hx hb dX10_keeps_1 rfl (lv_at hl 1 rfl) ?_
  refine lv_iload_n hx hb dX10_keeps_2 rfl (lv_at hl 2 rfl) ?_
  refine lv_iload_n hx hb dX10_keeps_3 rfl (lv_at hl 3 rfl) ?_
  refine lv_iconst (v := 0) hx hb dX10_keeps_4 (by decide) ?_
  obtain ⟨r1, hc2, hf⟩ := g_b1_e hf
  refine g_call (va_runV (As := [.int p1, .int p2, .int p3, .int (0 : Int32)]) (rest := []) ⟨hx, hb, hml, hown, hts⟩ (c10_piece l G E μ _ _ _ _ _ _ hc2) (cwV 4 hts gX10_keeps_X10_piece rfl rfl rfl (by decide +kernel) ⟨Nat.le_of_ble_eq_true rfl, Nat.le_of_ble_eq_true rfl⟩) (g_preV (ci := 10) hR hK (hR.2.2.2.2.1.1) rfl) rfl rfl hl.1 rfl (lv_room (Nat.le_of_ble_eq_true rfl)) dX10_keeps_5 ⟨by show _ ≤ 0; omega, by show _ ≤ 0; omega⟩) hS (fun w3 H locs hp hR hS => ?_)
  subst hp
  refine lv_aload_n hx hb dX10_keeps_8 rfl (lv_at hl 0 rfl) ?_
  refine lv_iconst (v := 1) hx hb dX10_keeps_9 (by decide) ?_
  obtain ⟨r4, hc5, hf⟩ := g_b1_e hf
  refine g_call (va_runV (As := [.int (1 : Int32)]) (rest := [.int r1]) ⟨hx, hb, hml, hown, hts⟩ (c10_setting l G E μ _ _ _ hc5) (cwV 1 hts gX10_keeps_X10_setting rfl rfl rfl (by decide +kernel) ⟨Nat.le_of_ble_eq_true rfl, Nat.le_of_ble_eq_true rfl⟩) (g_preV (ci := 10) hR hK (hR.2.2.2.2.1.1) rfl) rfl rfl hl.1 rfl (lv_room (Nat.le_of_ble_eq_true rfl)) dX10_keeps_10 ⟨by show _ ≤ 0; omega, by show _ ≤ 0; omega⟩) hS (fun w6 H locs hp hR hS => ?_)
  subst hp
  refine lv_icmp_lt (tgt := 36) hx hb dX10_keeps_13 (by decide) (fun c7 => ?_) (fun c7 => ?_)
  · replace hf := g_it hf c7
    refine lv_iconst (v := 0) hx hb dX10_keeps_36 (by decide) ?_
    obtain rfl := g_s1 hf
    exact g_zret hx hb hlocks hr hS hR g_le.rf (by decide) ⟨rfl, rfl⟩ (by omega) (by omega) dX10_keeps_37
  · replace hf := g_if hf c7
    refine lv_aload_n hx hb dX10_keeps_16 rfl (lv_at hl 0 rfl) ?_
    refine lv_iload_n hx hb dX10_keeps_17 rfl (lv_at hl 1 rfl) ?_
    refine lv_iload_n hx hb dX10_keeps_18 rfl (lv_at hl 2 rfl) ?_
    refine lv_iload_n hx hb dX10_keeps_19 rfl (lv_at hl 3 rfl) ?_
    refine lv_iconst (v := 1) hx hb dX10_keeps_20 (by decide) ?_
    obtain ⟨r8, hc9, hf⟩ := g_b1_e hf
    refine g_call (va_runV (As := [.int p1, .int p2, .int p3, .int (1 : Int32)]) (rest := []) ⟨hx, hb, hml, hown, hts⟩ (c10_piece l G E μ _ _ _ _ _ _ hc9) (cwV 4 hts gX10_keeps_X10_piece rfl rfl rfl (by decide +kernel) ⟨Nat.le_of_ble_eq_true rfl, Nat.le_of_ble_eq_true rfl⟩) (g_preV (ci := 10) hR hK (hR.2.2.2.2.1.1) rfl) rfl rfl hl.1 rfl (lv_room (Nat.le_of_ble_eq_true rfl)) dX10_keeps_21 ⟨by show _ ≤ 0; omega, by show _ ≤ 0; omega⟩) hS (fun w10 H locs hp hR hS => ?_)
    subst hp
    refine lv_aload_n hx hb dX10_keeps_24 rfl (lv_at hl 0 rfl) ?_
    refine lv_iconst (v := 1) hx hb dX10_keeps_25 (by decide) ?_
    obtain ⟨r11, hc12, hf⟩ := g_b1_e hf
    refine g_call (va_runV (As := [.int (1 : Int32)]) (rest := [.int r8]) ⟨hx, hb, hml, hown, hts⟩ (c10_setting l G E μ _ _ _ hc12) (cwV 1 hts gX10_keeps_X10_setting rfl rfl rfl (by decide +kernel) ⟨Nat.le_of_ble_eq_true rfl, Nat.le_of_ble_eq_true rfl⟩) (g_preV (ci := 10) hR hK (hR.2.2.2.2.1.1) rfl) rfl rfl hl.1 rfl (lv_room (Nat.le_of_ble_eq_true rfl)) dX10_keeps_26 ⟨by show _ ≤ 0; omega, by show _ ≤ 0; omega⟩) hS (fun w13 H locs hp hR hS => ?_)
    subst hp
    refine lv_icmp_lt (tgt := 36) hx hb dX10_keeps_29 (by decide) (fun c14 => ?_) (fun c14 => ?_)
    · replace hf := g_it hf c14
      refine lv_iconst (v := 0) hx hb dX10_keeps_36 (by decide) ?_
      obtain rfl := g_s1 hf
      exact g_zret hx hb hlocks hr hS hR g_le.rf (by decide) ⟨rfl, rfl⟩ (by omega) (by omega) dX10_keeps_37
    · replace hf := g_if hf c14
      refine lv_iconst (v := 1) hx hb dX10_keeps_32 (by decide) ?_
      refine lv_goto (tgt := 37) hx hb dX10_keeps_33 (by decide) ?_
      obtain rfl := g_s1 hf
      exact g_zret hx hb hlocks hr hS hR g_le.rf (by decide) ⟨rfl, rfl⟩ (by omega) (by omega) dX10_keeps_37
set_option maxHeartbeats 4000000 in
set_option maxRecDepth 100000 in
theorem c10_pieceArea (l : Launch) (G : gG) (E : gEn) (μ : gMu) (z0 : gMo) (p1 : Int32) (p2 : Int32) (p3 : Int32) (ro : Int32) (hf : f10_pieceArea z0 p1 p2 p3 = some ro) : Met l yX10_pieceArea wsX10_pieceArea ({ frames := 3, cells := 0, slots := 0, locals := 78 } : Room) (g_Pre G E (g_setM μ z0) [.ref (G.2.2 + 54), .int p1, .int p2, .int p3]) (g_Q G E (g_setM μ z0) (fun E' v => E' = E ∧ v = some (.int ro))) 0 0 (g_A G) := by
  refine Met.ofW (cc := cX10_pieceArea) (maxL := 6) (ret := some .int) (by decide) rfl ?_
  intro p e s m args below meth c s₁ B hml hv
  obtain ⟨rfl, hR, hK⟩ := hv
  have hx := B.exec
  have hb := B.bytes
  have hr := B.returns
  have hts := atoms_spec (ws := wsX10_pieceArea) B.pre
  have hown : s.vm.findClass RX10 = some m.cls := findClass_of_methodNamed B.named
  have hlocks := B.notSynchronized
  have hS : va_S (g_A G) s.heap s.heap [] := va_S.rf
  have hl := lv_entry ([.ref (G.2.2 + 54), .int p1, .int p2, .int p3]) (n := 6) (Nat.le_of_ble_eq_true rfl)
  rw [lg_entry_eq]
  generalize (lg_sl ([.ref (G.2.2 + 54), .int p1, .int p2, .int p3]) ++ List.replicate (6 - (lg_sl ([.ref (G.2.2 + 54), .int p1, .int p2, .int p3])).length) Slot.unset).toArray = ls at hl ⊢
  have hl : lv_has ls 6 [(0, .ref (G.2.2 + 54)), (1, .int p1), (2, .int p2), (3, .int p3)] := hl
  unfold f10_pieceArea at hf
  refine lv_aload_n hx hb dX10_pieceArea_0 rfl (lv_at hl 0 rfl) ?_
  refine lv_iload_n hx hb dX10_pieceArea_1 rfl (lv_at hl 1 rfl) ?_
  refine lv_iload_n hx hb dX10_pieceArea_2 rfl (lv_at hl 2 rfl) ?_
  refine lv_iload_n hx hb dX10_pieceArea_3 rfl (lv_at hl 3 rfl) ?_
  refine lv_iconst (v := 0) hx hb dX10_pieceArea_4 (by decide) ?_
  obtain ⟨r1, hc2, hf⟩ := g_b1_e hf
  refine g_call (va_runV (As := [.int p1, .int p2, .int p3, .int (0 : Int32)]) (rest := []) ⟨hx, hb, hml, hown, hts⟩ (c10_piece l G E μ _ _ _ _ _ _ hc2) (cwV 4 hts gX10_pieceArea_X10_piece rfl rfl rfl (by decide +kernel) ⟨Nat.le_of_ble_eq_true rfl, Nat.le_of_ble_eq_true rfl⟩) (g_preV (ci := 10) hR hK (hR.2.2.2.2.1.1) rfl) rfl rfl hl.1 rfl (lv_room (Nat.le_of_ble_eq_true rfl)) dX10_pieceArea_5 ⟨by show _ ≤ 0; omega, by show _ ≤ 0; omega⟩) hS (fun w3 H locs hp hR hS => ?_)
  subst hp
  refine lv_istore (lv' := [(4, .int r1), (0, .ref (G.2.2 + 54)), (1, .int p1), (2, .int p2), (3, .int p3)]) hx hb dX10_pieceArea_8 hl (by decide) rfl (fun ls hl => ?_)
  refine lv_aload_n hx hb dX10_pieceArea_10 rfl (lv_at hl 1 rfl) ?_
  refine lv_iload_n hx hb dX10_pieceArea_11 rfl (lv_at hl 2 rfl) ?_
  refine lv_iload_n hx hb dX10_pieceArea_12 rfl (lv_at hl 3 rfl) ?_
  refine lv_iload_n hx hb dX10_pieceArea_13 rfl (lv_at hl 4 rfl) ?_
  refine lv_iconst (v := 1) hx hb dX10_pieceArea_14 (by decide) ?_
  obtain ⟨r4, hc5, hf⟩ := g_b1_e hf
  refine g_call (va_runV (As := [.int p1, .int p2, .int p3, .int (1 : Int32)]) (rest := []) ⟨hx, hb, hml, hown, hts⟩ (c10_piece l G E μ _ _ _ _ _ _ hc5) (cwV 4 hts gX10_pieceArea_X10_piece rfl rfl rfl (by decide +kernel) ⟨Nat.le_of_ble_eq_true rfl, Nat.le_of_ble_eq_true rfl⟩) (g_preV (ci := 10) hR hK (hR.2.2.2.2.1.1) rfl) rfl rfl hl.1 rfl (lv_room (Nat.le_of_ble_eq_true rfl)) dX10_pieceArea_15 ⟨by show _ ≤ 0; omega, by show _ ≤ 0; omega⟩) hS (fun w6 H locs hp hR hS => ?_)
  subst hp
  refine lv_istore (lv' := [(5, .int r4), (4, .int r1), (0, .ref (G.2.2 + 54)), (1, .int p1), (2, .int p2), (3, .int p3)]) hx hb dX10_pieceArea_18 hl (by decide) rfl (fun ls hl => ?_)
  refine lv_iload hx hb dX10_pieceArea_20 (lv_at hl 1 rfl) ?_
  refine lv_if_le (tgt := 38) hx hb dX10_pieceArea_22 (by decide) (fun c7 => ?_) (fun c7 => ?_)
  · replace hf := g_it hf c7
    refine lv_iconst (v := 0) hx hb dX10_pieceArea_38 (by decide) ?_
    obtain rfl := g_s1 hf
    exact g_iret hx hb hlocks hr hS hR g_le.rf ⟨rfl, rfl⟩ (by omega) (by omega) dX10_pieceArea_39
  · replace hf := g_if hf c7
    refine lv_iload hx hb dX10_pieceArea_25 (lv_at hl 0 rfl) ?_
    refine lv_if_le (tgt := 38) hx hb dX10_pieceArea_27 (by decide) (fun c8 => ?_) (fun c8 => ?_)
    · replace hf := g_it hf c8
      refine lv_iconst (v := 0) hx hb dX10_pieceArea_38 (by decide) ?_
      obtain rfl := g_s1 hf
      exact g_iret hx hb hlocks hr hS hR g_le.rf ⟨rfl, rfl⟩ (by omega) (by omega) dX10_pieceArea_39
    · replace hf := g_if hf c8
      refine lv_iload hx hb dX10_pieceArea_30 (lv_at hl 1 rfl) ?_
      refine lv_iload hx hb dX10_pieceArea_32 (lv_at hl 0 rfl) ?_
      refine lv_imul hx hb dX10_pieceArea_34 ?_
      refine lv_goto (tgt := 39) hx hb dX10_pieceArea_35 (by decide) ?_
      obtain rfl := g_s1 hf
      exact g_iret hx hb hlocks hr hS hR g_le.rf ⟨rfl, rfl⟩ (by omega) (by omega) dX10_pieceArea_39
set_option maxHeartbeats 4000000 in
set_option maxRecDepth 100000 in
theorem c10_keptArea (l : Launch) (G : gG) (E : gEn) (μ : gMu) (z0 : gMo) (p1 : Int32) (p2 : Int32) (ro : Int32) (hf : f10_keptArea z0 p1 p2 = some ro) : Met l yX10_keptArea wsX10_keptArea ({ frames := 4, cells := 0, slots := 0, locals := 103 } : Room) (g_Pre G E (g_setM μ z0) [.ref (G.2.2 + 54), .int p1, .int p2]) (g_Q G E (g_setM μ z0) (fun E' v => E' = E ∧ v = some (.int ro))) 0 0 (g_A G) := by
  refine Met.ofW (cc := cX10_keptArea) (maxL := 3) (ret := some .int) (by decide) rfl ?_
  intro p e s m args below meth c s₁ B hml hv
  obtain ⟨rfl, hR, hK⟩ := hv
  have hx := B.exec
  have hb := B.bytes
  have hr := B.returns
  have hts := atoms_spec (ws := wsX10_keptArea) B.pre
  have hown : s.vm.findClass RX10 = some m.cls := findClass_of_methodNamed B.named
  have hlocks := B.notSynchronized
  have hS : va_S (g_A G) s.heap s.heap [] := va_S.rf
  have hl := lv_entry ([.ref (G.2.2 + 54), .int p1, .int p2]) (n := 3) (Nat.le_of_ble_eq_true rfl)
  rw [lg_entry_eq]
  generalize (lg_sl ([.ref (G.2.2 + 54), .int p1, .int p2]) ++ List.replicate (3 - (lg_sl ([.ref (G.2.2 + 54), .int p1, .int p2])).length) Slot.unset).toArray = ls at hl ⊢
  have hl : lv_has ls 3 [(0, .ref (G.2.2 + 54)), (1, .int p1), (2, .int p2)] := hl
  have hB21 : ∀ (z0 : gMo) (x1 : Int32) (x2 : Int32) (y0 : Int32) (H : Heap) (locs : List Loc) (ls : Array Slot), f10_keptArea_21 z0 x1 x2 y0 = some ro → g_R G E (g_setM μ z0) H → va_S (g_A G) s.heap H locs → lv_has ls 3 [(0, .ref (G.2.2 + 54)), (1, .int x1), (2, .int x2)] → W p l e (headSpec wsX10_keptArea ({ frames := 4, cells := 0, slots := 0, locals := 103 } : Room)).room s m ([.ref (G.2.2 + 54), .int p1, .int p2] : List Value).toArray below meth c H locs 0 0 (MQ below (g_Q G E (g_setM μ z0) (fun E' v => E' = E ∧ v = some (.int ro))) ([.ref (G.2.2 + 54), .int p1, .int p2] : List Value).toArray s 0 0 (g_A G)) (F0 m 21 ls [.int y0]) := by
    intro z0 x1 x2 y0 H locs ls hf  hR hS hl
    unfold f10_keptArea_21 at hf
    refine lv_aload_n hx hb dX10_keptArea_21 rfl (lv_at hl 0 rfl) ?_
    refine lv_iload_n hx hb dX10_keptArea_22 rfl (lv_at hl 1 rfl) ?_
    refine lv_iload_n hx hb dX10_keptArea_23 rfl (lv_at hl 2 rfl) ?_
    refine lv_iconst (v := 1) hx hb dX10_keptArea_24 (by decide) ?_
    obtain ⟨r5, hc6, hf⟩ := g_b1_e hf
    refine g_call (va_runV (As := [.int x1, .int x2, .int (1 : Int32)]) (rest := [.int y0]) ⟨hx, hb, hml, hown, hts⟩ (c10_keeps l G E μ _ _ _ _ _ hc6) (cwV 3 hts gX10_keptArea_X10_keeps rfl rfl rfl (by decide +kernel) ⟨Nat.le_of_ble_eq_true rfl, Nat.le_of_ble_eq_true rfl⟩) (g_preV (ci := 10) hR hK (hR.2.2.2.2.1.1) rfl) rfl rfl hl.1 rfl (lv_room (Nat.le_of_ble_eq_true rfl)) dX10_keptArea_25 ⟨by show _ ≤ 0; omega, by show _ ≤ 0; omega⟩) hS (fun w7 H locs hp hR hS => ?_)
    subst hp
    refine lv_if_eq (tgt := 41) hx hb dX10_keptArea_28 (by decide) (fun c8 => ?_) (fun c8 => ?_)
    · replace hf := g_it hf c8
      refine lv_iconst (v := 0) hx hb dX10_keptArea_41 (by decide) ?_
      refine lv_iadd hx hb dX10_keptArea_42 ?_
      obtain rfl := g_s1 hf
      exact g_iret hx hb hlocks hr hS hR g_le.rf ⟨rfl, rfl⟩ (by omega) (by omega) dX10_keptArea_43
    · replace hf := g_if hf c8
      refine lv_aload_n hx hb dX10_keptArea_31 rfl (lv_at hl 0 rfl) ?_
      refine lv_iload_n hx hb dX10_keptArea_32 rfl (lv_at hl 1 rfl) ?_
      refine lv_iload_n hx hb dX10_keptArea_33 rfl (lv_at hl 2 rfl) ?_
      refine lv_iconst (v := 1) hx hb dX10_keptArea_34 (by decide) ?_
      obtain ⟨r9, hc10, hf⟩ := g_b1_e hf
      refine g_call (va_runV (As := [.int x1, .int x2, .int (1 : Int32)]) (rest := [.int y0]) ⟨hx, hb, hml, hown, hts⟩ (c10_pieceArea l G E μ _ _ _ _ _ hc10) (cwV 3 hts gX10_keptArea_X10_pieceArea rfl rfl rfl (by decide +kernel) ⟨Nat.le_of_ble_eq_true rfl, Nat.le_of_ble_eq_true rfl⟩) (g_preV (ci := 10) hR hK (hR.2.2.2.2.1.1) rfl) rfl rfl hl.1 rfl (lv_room (Nat.le_of_ble_eq_true rfl)) dX10_keptArea_35 ⟨by show _ ≤ 0; omega, by show _ ≤ 0; omega⟩) hS (fun w11 H locs hp hR hS => ?_)
      subst hp
      refine lv_goto (tgt := 42) hx hb dX10_keptArea_38 (by decide) ?_
      refine lv_iadd hx hb dX10_keptArea_42 ?_
      obtain rfl := g_s1 hf
      exact g_iret hx hb hlocks hr hS hR g_le.rf ⟨rfl, rfl⟩ (by omega) (by omega) dX10_keptArea_43
  unfold f10_keptArea at hf
  refine lv_aload_n hx hb dX10_keptArea_0 rfl (lv_at hl 0 rfl) ?_
  refine lv_iload_n hx hb dX10_keptArea_1 rfl (lv_at hl 1 rfl) ?_
  refine lv_iload_n hx hb dX10_keptArea_2 rfl (lv_at hl 2 rfl) ?_
  refine lv_iconst (v := 0) hx hb dX10_keptArea_3 (by decide) ?_
  obtain ⟨r1, hc2, hf⟩ := g_b1_e hf
  refine g_call (va_runV (As := [.int p1, .int p2, .int (0 : Int32)]) (rest := []) ⟨hx, hb, hml, hown, hts⟩ (c10_keeps l G E μ _ _ _ _ _ hc2) (cwV 3 hts gX10_keptArea_X10_keeps rfl rfl rfl (by decide +kernel) ⟨Nat.le_of_ble_eq_true rfl, Nat.le_of_ble_eq_true rfl⟩) (g_preV (ci := 10) hR hK (hR.2.2.2.2.1.1) rfl) rfl rfl hl.1 rfl (lv_room (Nat.le_of_ble_eq_true rfl)) dX10_keptArea_4 ⟨by show _ ≤ 0; omega, by show _ ≤ 0; omega⟩) hS (fun w3 H locs hp hR hS => ?_)
  subst hp
  refine lv_if_eq (tgt := 20) hx hb dX10_keptArea_7 (by decide) (fun c4 => ?_) (fun c4 => ?_)
  · replace hf := g_it hf c4
    refine lv_iconst (v := 0) hx hb dX10_keptArea_20 (by decide) ?_
    exact hB21 _ _ _ _ _ _ _ hf  hR hS (lv_sub hl [0, 1, 2] rfl)
  · replace hf := g_if hf c4
    refine lv_aload_n hx hb dX10_keptArea_10 rfl (lv_at hl 0 rfl) ?_
    refine lv_iload_n hx hb dX10_keptArea_11 rfl (lv_at hl 1 rfl) ?_
    refine lv_iload_n hx hb dX10_keptArea_12 rfl (lv_at hl 2 rfl) ?_
    refine lv_iconst (v := 0) hx hb dX10_keptArea_13 (by decide) ?_
    obtain ⟨r12, hc13, hf⟩ := g_b1_e hf
    refine g_call (va_runV (As := [.int p1, .int p2, .int (0 : Int32)]) (rest := []) ⟨hx, hb, hml, hown, hts⟩ (c10_pieceArea l G E μ _ _ _ _ _ hc13) (cwV 3 hts gX10_keptArea_X10_pieceArea rfl rfl rfl (by decide +kernel) ⟨Nat.le_of_ble_eq_true rfl, Nat.le_of_ble_eq_true rfl⟩) (g_preV (ci := 10) hR hK (hR.2.2.2.2.1.1) rfl) rfl rfl hl.1 rfl (lv_room (Nat.le_of_ble_eq_true rfl)) dX10_keptArea_14 ⟨by show _ ≤ 0; omega, by show _ ≤ 0; omega⟩) hS (fun w14 H locs hp hR hS => ?_)
    subst hp
    refine lv_goto (tgt := 21) hx hb dX10_keptArea_17 (by decide) ?_
    exact hB21 _ _ _ _ _ _ _ hf  hR hS (lv_sub hl [0, 1, 2] rfl)
set_option maxHeartbeats 4000000 in
set_option maxRecDepth 100000 in
theorem c10_scrapArea (l : Launch) (G : gG) (E : gEn) (μ : gMu) (z0 : gMo) (p1 : Int32) (p2 : Int32) (ro : Int32) (hf : f10_scrapArea z0 p1 p2 = some ro) : Met l yX10_scrapArea wsX10_scrapArea ({ frames := 5, cells := 0, slots := 0, locals := 125 } : Room) (g_Pre G E (g_setM μ z0) [.ref (G.2.2 + 54), .int p1, .int p2]) (g_Q G E (g_setM μ z0) (fun E' v => E' = E ∧ v = some (.int ro))) 0 0 (g_A G) := by
  refine Met.ofW (cc := cX10_scrapArea) (maxL := 3) (ret := some .int) (by decide) rfl ?_
  intro p e s m args below meth c s₁ B hml hv
  obtain ⟨rfl, hR, hK⟩ := hv
  have hx := B.exec
  have hb := B.bytes
  have hr := B.returns
  have hts := atoms_spec (ws := wsX10_scrapArea) B.pre
  have hown : s.vm.findClass RX10 = some m.cls := findClass_of_methodNamed B.named
  have hlocks := B.notSynchronized
  have hS : va_S (g_A G) s.heap s.heap [] := va_S.rf
  have hl := lv_entry ([.ref (G.2.2 + 54), .int p1, .int p2]) (n := 3) (Nat.le_of_ble_eq_true rfl)
  rw [lg_entry_eq]
  generalize (lg_sl ([.ref (G.2.2 + 54), .int p1, .int p2]) ++ List.replicate (3 - (lg_sl ([.ref (G.2.2 + 54), .int p1, .int p2])).length) Slot.unset).toArray = ls at hl ⊢
  have hl : lv_has ls 3 [(0, .ref (G.2.2 + 54)), (1, .int p1), (2, .int p2)] := hl
  unfold f10_scrapArea at hf
  refine lv_aload_n hx hb dX10_scrapArea_0 rfl (lv_at hl 0 rfl) ?_
  refine lv_iload_n hx hb dX10_scrapArea_1 rfl (lv_at hl 1 rfl) ?_
  refine lv_iload_n hx hb dX10_scrapArea_2 rfl (lv_at hl 2 rfl) ?_
  refine lv_iconst (v := 0) hx hb dX10_scrapArea_3 (by decide) ?_
  obtain ⟨r1, hc2, hf⟩ := g_b1_e hf
  refine g_call (va_runV (As := [.int p1, .int p2, .int (0 : Int32)]) (rest := []) ⟨hx, hb, hml, hown, hts⟩ (c10_pieceArea l G E μ _ _ _ _ _ hc2) (cwV 3 hts gX10_scrapArea_X10_pieceArea rfl rfl rfl (by decide +kernel) ⟨Nat.le_of_ble_eq_true rfl, Nat.le_of_ble_eq_true rfl⟩) (g_preV (ci := 10) hR hK (hR.2.2.2.2.1.1) rfl) rfl rfl hl.1 rfl (lv_room (Nat.le_of_ble_eq_true rfl)) dX10_scrapArea_4 ⟨by show _ ≤ 0; omega, by show _ ≤ 0; omega⟩) hS (fun w3 H locs hp hR hS => ?_)
  subst hp
  refine lv_aload_n hx hb dX10_scrapArea_7 rfl (lv_at hl 0 rfl) ?_
  refine lv_iload_n hx hb dX10_scrapArea_8 rfl (lv_at hl 1 rfl) ?_
  refine lv_iload_n hx hb dX10_scrapArea_9 rfl (lv_at hl 2 rfl) ?_
  refine lv_iconst (v := 1) hx hb dX10_scrapArea_10 (by decide) ?_
  obtain ⟨r4, hc5, hf⟩ := g_b1_e hf
  refine g_call (va_runV (As := [.int p1, .int p2, .int (1 : Int32)]) (rest := [.int r1]) ⟨hx, hb, hml, hown, hts⟩ (c10_pieceArea l G E μ _ _ _ _ _ hc5) (cwV 3 hts gX10_scrapArea_X10_pieceArea rfl rfl rfl (by decide +kernel) ⟨Nat.le_of_ble_eq_true rfl, Nat.le_of_ble_eq_true rfl⟩) (g_preV (ci := 10) hR hK (hR.2.2.2.2.1.1) rfl) rfl rfl hl.1 rfl (lv_room (Nat.le_of_ble_eq_true rfl)) dX10_scrapArea_11 ⟨by show _ ≤ 0; omega, by show _ ≤ 0; omega⟩) hS (fun w6 H locs hp hR hS => ?_)
  subst hp
  refine lv_iadd hx hb dX10_scrapArea_14 ?_
  refine lv_aload_n hx hb dX10_scrapArea_15 rfl (lv_at hl 0 rfl) ?_
  refine lv_iload_n hx hb dX10_scrapArea_16 rfl (lv_at hl 1 rfl) ?_
  refine lv_iload_n hx hb dX10_scrapArea_17 rfl (lv_at hl 2 rfl) ?_
  obtain ⟨r7, hc8, hf⟩ := g_b1_e hf
  refine g_call (va_runV (As := [.int p1, .int p2]) (rest := [.int (r1 + r4)]) ⟨hx, hb, hml, hown, hts⟩ (c10_keptArea l G E μ _ _ _ _ hc8) (cwV 2 hts gX10_scrapArea_X10_keptArea rfl rfl rfl (by decide +kernel) ⟨Nat.le_of_ble_eq_true rfl, Nat.le_of_ble_eq_true rfl⟩) (g_preV (ci := 10) hR hK (hR.2.2.2.2.1.1) rfl) rfl rfl hl.1 rfl (lv_room (Nat.le_of_ble_eq_true rfl)) dX10_scrapArea_18 ⟨by show _ ≤ 0; omega, by show _ ≤ 0; omega⟩) hS (fun w9 H locs hp hR hS => ?_)
  subst hp
  refine lv_isub hx hb dX10_scrapArea_21 ?_
  obtain rfl := g_s1 hf
  exact g_iret hx hb hlocks hr hS hR g_le.rf ⟨rfl, rfl⟩ (by omega) (by omega) dX10_scrapArea_22
set_option maxHeartbeats 4000000 in
set_option maxRecDepth 100000 in
theorem c10_goes (l : Launch) (G : gG) (E : gEn) (μ : gMu) (z0 : gMo) (p1 : Int32) (p2 : Int32) (p3 : Int32) (ro : Int32) (hf : f10_goes z0 p1 p2 p3 = some ro) : Met l yX10_goes wsX10_goes ({ frames := 6, cells := 0, slots := 0, locals := 147 } : Room) (g_Pre G E (g_setM μ z0) [.ref (G.2.2 + 54), .int p1, .int p2, .int p3]) (g_Q G E (g_setM μ z0) (fun E' v => E' = E ∧ v = some (.int ro))) 0 0 (g_A G) := by
  refine Met.ofW (cc := cX10_goes) (maxL := 4) (ret := some .int) (by decide) rfl ?_
  intro p e s m args below meth c s₁ B hml hv
  obtain ⟨rfl, hR, hK⟩ := hv
  have hx := B.exec
  have hb := B.bytes
  have hr := B.returns
  have hts := atoms_spec (ws := wsX10_goes) B.pre
  have hown : s.vm.findClass RX10 = some m.cls := findClass_of_methodNamed B.named
  have hlocks := B.notSynchronized
  have hS : va_S (g_A G) s.heap s.heap [] := va_S.rf
  have hl := lv_entry ([.ref (G.2.2 + 54), .int p1, .int p2, .int p3]) (n := 4) (Nat.le_of_ble_eq_true rfl)
  rw [lg_entry_eq]
  generalize (lg_sl ([.ref (G.2.2 + 54), .int p1, .int p2, .int p3]) ++ List.replicate (4 - (lg_sl ([.ref (G.2.2 + 54), .int p1, .int p2, .int p3])).length) Slot.unset).toArray = ls at hl ⊢
  have hl : lv_has ls 4 [(0, .ref (G.2.2 + 54)), (1, .int p1), (2, .int p2), (3, .int p3)] := hl
  unfold f10_goes at hf
  refine lv_iload_n hx hb dX10_goes_0 rfl (lv_at hl 3 rfl) ?_
  refine lv_if_ne (tgt := 12) hx hb dX10_goes_1 (by decide) (fun c1 => ?_) (fun c1 => ?_)
  · replace hf := g_it hf c1
    refine lv_iload_n hx hb dX10_goes_12 rfl (lv_at hl 3 rfl) ?_
    refine lv_iconst (v := 1) hx hb dX10_goes_13 (by decide) ?_
    refine lv_icmp_ne (tgt := 25) hx hb dX10_goes_14 (by decide) (fun c2 => ?_) (fun c2 => ?_)
    · replace hf := g_it hf c2
      refine lv_aload_n hx hb dX10_goes_25 rfl (lv_at hl 0 rfl) ?_
      refine lv_iload_n hx hb dX10_goes_26 rfl (lv_at hl 1 rfl) ?_
      refine lv_iload_n hx hb dX10_goes_27 rfl (lv_at hl 2 rfl) ?_
      obtain ⟨r3, hc4, hf⟩ := g_b1_e hf
      refine g_call (va_runV (As := [.int p1, .int p2]) (rest := []) ⟨hx, hb, hml, hown, hts⟩ (c10_scrapArea l G E μ _ _ _ _ hc4) (cwV 2 hts gX10_goes_X10_scrapArea rfl rfl rfl (by decide +kernel) ⟨Nat.le_of_ble_eq_true rfl, Nat.le_of_ble_eq_true rfl⟩) (g_preV (ci := 10) hR hK (hR.2.2.2.2.1.1) rfl) rfl rfl hl.1 rfl (lv_room (Nat.le_of_ble_eq_true rfl)) dX10_goes_28 ⟨by show _ ≤ 0; omega, by show _ ≤ 0; omega⟩) hS (fun w5 H locs hp hR hS => ?_)
      subst hp
      obtain rfl := g_s1 hf
      exact g_iret hx hb hlocks hr hS hR g_le.rf ⟨rfl, rfl⟩ (by omega) (by omega) dX10_goes_31
    · replace hf := g_if hf (fun q => q c2)
      refine lv_aload_n hx hb dX10_goes_17 rfl (lv_at hl 0 rfl) ?_
      refine lv_iload_n hx hb dX10_goes_18 rfl (lv_at hl 2 rfl) ?_
      obtain ⟨r6, hc7, hf⟩ := g_b1_e hf
      refine g_call (va_runV (As := [.int p2]) (rest := []) ⟨hx, hb, hml, hown, hts⟩ (c10_before l G E μ _ _ _ hc7) (cwV 1 hts gX10_goes_X10_before rfl rfl rfl (by decide +kernel) ⟨Nat.le_of_ble_eq_true rfl, Nat.le_of_ble_eq_true rfl⟩) (g_preV (ci := 10) hR hK (hR.2.2.2.2.1.1) rfl) rfl rfl hl.1 rfl (lv_room (Nat.le_of_ble_eq_true rfl)) dX10_goes_19 ⟨by show _ ≤ 0; omega, by show _ ≤ 0; omega⟩) hS (fun w8 H locs hp hR hS => ?_)
      subst hp
      refine lv_goto (tgt := 31) hx hb dX10_goes_22 (by decide) ?_
      obtain rfl := g_s1 hf
      exact g_iret hx hb hlocks hr hS hR g_le.rf ⟨rfl, rfl⟩ (by omega) (by omega) dX10_goes_31
  · replace hf := g_if hf (fun q => q c1)
    refine lv_aload_n hx hb dX10_goes_4 rfl (lv_at hl 0 rfl) ?_
    refine lv_iload_n hx hb dX10_goes_5 rfl (lv_at hl 2 rfl) ?_
    obtain ⟨r9, hc10, hf⟩ := g_b1_e hf
    refine g_call (va_runV (As := [.int p2]) (rest := []) ⟨hx, hb, hml, hown, hts⟩ (c10_area l G E μ _ _ _ hc10) (cwV 1 hts gX10_goes_X10_area rfl rfl rfl (by decide +kernel) ⟨Nat.le_of_ble_eq_true rfl, Nat.le_of_ble_eq_true rfl⟩) (g_preV (ci := 10) hR hK (hR.2.2.2.2.1.1) rfl) rfl rfl hl.1 rfl (lv_room (Nat.le_of_ble_eq_true rfl)) dX10_goes_6 ⟨by show _ ≤ 0; omega, by show _ ≤ 0; omega⟩) hS (fun w11 H locs hp hR hS => ?_)
    subst hp
    refine lv_goto (tgt := 31) hx hb dX10_goes_9 (by decide) ?_
    obtain rfl := g_s1 hf
    exact g_iret hx hb hlocks hr hS hR g_le.rf ⟨rfl, rfl⟩ (by omega) (by omega) dX10_goes_31
set_option maxHeartbeats 4000000 in
set_option maxRecDepth 100000 in
theorem c10_chosen (l : Launch) (G : gG) (E : gEn) (μ : gMu) (z0 : gMo) (p1 : Int32) (p2 : Int32) (ro : Int32) (hf : f10_chosen z0 p1 p2 = some ro) : Met l yX10_chosen wsX10_chosen ({ frames := 7, cells := 0, slots := 0, locals := 170 } : Room) (g_Pre G E (g_setM μ z0) [.ref (G.2.2 + 54), .int p1, .int p2]) (g_Q G E (g_setM μ z0) (fun E' v => E' = E ∧ v = some (.int ro))) 0 0 (g_A G) := by
  refine Met.ofW (cc := cX10_chosen) (maxL := 5) (ret := some .int) (by decide) rfl ?_
  intro p e s m args below meth c s₁ B hml hv
  obtain ⟨rfl, hR, hK⟩ := hv
  have hx := B.exec
  have hb := B.bytes
  have hr := B.returns
  have hts := atoms_spec (ws := wsX10_chosen) B.pre
  have hown : s.vm.findClass RX10 = some m.cls := findClass_of_methodNamed B.named
  have hlocks := B.notSynchronized
  have hS : va_S (g_A G) s.heap s.heap [] := va_S.rf
  have hl := lv_entry ([.ref (G.2.2 + 54), .int p1, .int p2]) (n := 5) (Nat.le_of_ble_eq_true rfl)
  rw [lg_entry_eq]
  generalize (lg_sl ([.ref (G.2.2 + 54), .int p1, .int p2]) ++ List.replicate (5 - (lg_sl ([.ref (G.2.2 + 54), .int p1, .int p2])).length) Slot.unset).toArray = ls at hl ⊢
  have hl : lv_has ls 5 [(0, .ref (G.2.2 + 54)), (1, .int p1), (2, .int p2)] := hl
  have in_10 : ∀ w ∈ u_ws RX10 TX10 9, w ∈ wsX10_chosen := ifX10_chosen_10
  have l_7 := hts (.fieldLink RX10 7 "GlassRacksModel" "now" "[I") (by decide +kernel)
  have hB6 : ∀ (n : Nat) (z0 : gMo) (x1 : Int32) (x2 : Int32) (x3 : Int32) (x4 : Int32) (H : Heap) (locs : List Loc) (ls : Array Slot), f10_chosen_6 n z0 x1 x2 x3 x4 = some ro → g_R G E (g_setM μ z0) H → va_S (g_A G) s.heap H locs → lv_has ls 5 [(0, .ref (G.2.2 + 54)), (1, .int x1), (2, .int x2), (3, .int x3), (4, .int x4)] → W p l e (headSpec wsX10_chosen ({ frames := 7, cells := 0, slots := 0, locals := 170 } : Room)).room s m ([.ref (G.2.2 + 54), .int p1, .int p2] : List Value).toArray below meth c H locs 0 0 (MQ below (g_Q G E (g_setM μ z0) (fun E' v => E' = E ∧ v = some (.int ro))) ([.ref (G.2.2 + 54), .int p1, .int p2] : List Value).toArray s 0 0 (g_A G)) (F0 m 6 ls []) := by
    intro n
    induction n with
    | zero =>
      intro z0 x1 x2 x3 x4 H locs ls hf
      rw [f10_chosen_6] at hf
      cases hf
    | succ n ih =>
      intro z0 x1 x2 x3 x4 H locs ls hf  hR hS hl
      rw [f10_chosen_6] at hf
      refine lv_iload hx hb dX10_chosen_6 (lv_at hl 4 rfl) ?_
      refine lv_aload_n hx hb dX10_chosen_8 rfl (lv_at hl 0 rfl) ?_
      refine g_get hx hb hts in_10 hown hK hR.2.2.2.2.1.1 rfl 0 (by decide) l_7 rfl rfl dX10_chosen_9 ?_
      refine lv_bipush (v := 8) hx hb dX10_chosen_12 (by decide) ?_
      refine g_aild hx hb hK hR (by decide) (by decide) dX10_chosen_14 ?_
      refine lv_icmp_ge (tgt := 71) hx hb dX10_chosen_15 (by decide) (fun c1 => ?_) (fun c1 => ?_)
      · replace hf := g_it hf c1
        refine lv_iload_n hx hb dX10_chosen_71 rfl (lv_at hl 3 rfl) ?_
        obtain rfl := g_s1 hf
        exact g_iret hx hb hlocks hr hS hR g_le.rf ⟨rfl, rfl⟩ (by omega) (by omega) dX10_chosen_72
      · replace hf := g_if hf c1
        refine lv_aload_n hx hb dX10_chosen_18 rfl (lv_at hl 0 rfl) ?_
        refine lv_iload hx hb dX10_chosen_19 (lv_at hl 4 rfl) ?_
        refine lv_iconst (v := 3) hx hb dX10_chosen_21 (by decide) ?_
        obtain ⟨r2, hc3, hf⟩ := g_b1_e hf
        refine g_call (va_runV (As := [.int x4, .int (3 : Int32)]) (rest := []) ⟨hx, hb, hml, hown, hts⟩ (c10_its l G E μ _ _ _ _ hc3) (cwV 2 hts gX10_chosen_X10_its rfl rfl rfl (by decide +kernel) ⟨Nat.le_of_ble_eq_true rfl, Nat.le_of_ble_eq_true rfl⟩) (g_preV (ci := 10) hR hK (hR.2.2.2.2.1.1) rfl) rfl rfl hl.1 rfl (lv_room (Nat.le_of_ble_eq_true rfl)) dX10_chosen_22 ⟨by show _ ≤ 0; omega, by show _ ≤ 0; omega⟩) hS (fun w4 H locs hp hR hS => ?_)
        subst hp
        refine lv_if_lt (tgt := 65) hx hb dX10_chosen_25 (by decide) (fun c5 => ?_) (fun c5 => ?_)
        · replace hf := g_it hf c5
          refine lv_iinc (v := x4 + 1) (lv' := [(4, .int (x4 + 1)), (0, .ref (G.2.2 + 54)), (1, .int x1), (2, .int x2), (3, .int x3)]) hx hb dX10_chosen_65 hl (k := 4) rfl rfl (by decide) rfl (fun ls hl => ?_)
          refine lv_goto (tgt := 6) hx hb dX10_chosen_68 (by decide) ?_
          exact ih _ _ _ _ _ _ _ _ hf  hR hS (lv_sub hl [1, 2, 3, 4, 0] rfl)
        · replace hf := g_if hf c5
          refine lv_aload_n hx hb dX10_chosen_28 rfl (lv_at hl 0 rfl) ?_
          refine lv_iload_n hx hb dX10_chosen_29 rfl (lv_at hl 1 rfl) ?_
          refine lv_iload hx hb dX10_chosen_30 (lv_at hl 4 rfl) ?_
          obtain ⟨r6, hc7, hf⟩ := g_b1_e hf
          refine g_call (va_runV (As := [.int x1, .int x4]) (rest := []) ⟨hx, hb, hml, hown, hts⟩ (c10_lies l G E μ _ _ _ _ hc7) (cwV 2 hts gX10_chosen_X10_lies rfl rfl rfl (by decide +kernel) ⟨Nat.le_of_ble_eq_true rfl, Nat.le_of_ble_eq_true rfl⟩) (g_preV (ci := 10) hR hK (hR.2.2.2.2.1.1) rfl) rfl rfl hl.1 rfl (lv_room (Nat.le_of_ble_eq_true rfl)) dX10_chosen_32 ⟨by show _ ≤ 0; omega, by show _ ≤ 0; omega⟩) hS (fun w8 H locs hp hR hS => ?_)
          subst hp
          refine lv_if_lt (tgt := 65) hx hb dX10_chosen_35 (by decide) (fun c9 => ?_) (fun c9 => ?_)
          · replace hf := g_it hf c9
            refine lv_iinc (v := x4 + 1) (lv' := [(4, .int (x4 + 1)), (0, .ref (G.2.2 + 54)), (1, .int x1), (2, .int x2), (3, .int x3)]) hx hb dX10_chosen_65 hl (k := 4) rfl rfl (by decide) rfl (fun ls hl => ?_)
            refine lv_goto (tgt := 6) hx hb dX10_chosen_68 (by decide) ?_
            exact ih _ _ _ _ _ _ _ _ hf  hR hS (lv_sub hl [1, 2, 3, 4, 0] rfl)
          · replace hf := g_if hf c9
            refine lv_iload_n hx hb dX10_chosen_38 rfl (lv_at hl 3 rfl) ?_
            refine lv_bipush (v := -5) hx hb dX10_chosen_39 (by decide) ?_
            refine lv_icmp_eq (tgt := 62) hx hb dX10_chosen_41 (by decide) (fun c10 => ?_) (fun c10 => ?_)
            · replace hf := g_it hf c10
              refine lv_iload hx hb dX10_chosen_62 (lv_at hl 4 rfl) ?_
              refine lv_istore_n (lv' := [(3, .int x4), (0, .ref (G.2.2 + 54)), (1, .int x1), (2, .int x2), (4, .int x4)]) hx hb dX10_chosen_64 rfl hl (by decide) rfl (fun ls hl => ?_)
              refine lv_iinc (v := x4 + 1) (lv' := [(4, .int (x4 + 1)), (3, .int x4), (0, .ref (G.2.2 + 54)), (1, .int x1), (2, .int x2)]) hx hb dX10_chosen_65 hl (k := 4) rfl rfl (by decide) rfl (fun ls hl => ?_)
              refine lv_goto (tgt := 6) hx hb dX10_chosen_68 (by decide) ?_
              exact ih _ _ _ _ _ _ _ _ hf  hR hS (lv_sub hl [2, 3, 4, 1, 0] rfl)
            · replace hf := g_if hf c10
              refine lv_aload_n hx hb dX10_chosen_44 rfl (lv_at hl 0 rfl) ?_
              refine lv_iload_n hx hb dX10_chosen_45 rfl (lv_at hl 1 rfl) ?_
              refine lv_iload hx hb dX10_chosen_46 (lv_at hl 4 rfl) ?_
              refine lv_iload_n hx hb dX10_chosen_48 rfl (lv_at hl 2 rfl) ?_
              obtain ⟨r11, hc12, hf⟩ := g_b1_e hf
              refine g_call (va_runV (As := [.int x1, .int x4, .int x2]) (rest := []) ⟨hx, hb, hml, hown, hts⟩ (c10_goes l G E μ _ _ _ _ _ hc12) (cwV 3 hts gX10_chosen_X10_goes rfl rfl rfl (by decide +kernel) ⟨Nat.le_of_ble_eq_true rfl, Nat.le_of_ble_eq_true rfl⟩) (g_preV (ci := 10) hR hK (hR.2.2.2.2.1.1) rfl) rfl rfl hl.1 rfl (lv_room (Nat.le_of_ble_eq_true rfl)) dX10_chosen_49 ⟨by show _ ≤ 0; omega, by show _ ≤ 0; omega⟩) hS (fun w13 H locs hp hR hS => ?_)
              subst hp
              refine lv_aload_n hx hb dX10_chosen_52 rfl (lv_at hl 0 rfl) ?_
              refine lv_iload_n hx hb dX10_chosen_53 rfl (lv_at hl 1 rfl) ?_
              refine lv_iload_n hx hb dX10_chosen_54 rfl (lv_at hl 3 rfl) ?_
              refine lv_iload_n hx hb dX10_chosen_55 rfl (lv_at hl 2 rfl) ?_
              obtain ⟨r14, hc15, hf⟩ := g_b1_e hf
              refine g_call (va_runV (As := [.int x1, .int x3, .int x2]) (rest := [.int r11]) ⟨hx, hb, hml, hown, hts⟩ (c10_goes l G E μ _ _ _ _ _ hc15) (cwV 3 hts gX10_chosen_X10_goes rfl rfl rfl (by decide +kernel) ⟨Nat.le_of_ble_eq_true rfl, Nat.le_of_ble_eq_true rfl⟩) (g_preV (ci := 10) hR hK (hR.2.2.2.2.1.1) rfl) rfl rfl hl.1 rfl (lv_room (Nat.le_of_ble_eq_true rfl)) dX10_chosen_56 ⟨by show _ ≤ 0; omega, by show _ ≤ 0; omega⟩) hS (fun w16 H locs hp hR hS => ?_)
              subst hp
              refine lv_icmp_ge (tgt := 65) hx hb dX10_chosen_59 (by decide) (fun c17 => ?_) (fun c17 => ?_)
              · replace hf := g_it hf c17
                refine lv_iinc (v := x4 + 1) (lv' := [(4, .int (x4 + 1)), (0, .ref (G.2.2 + 54)), (1, .int x1), (2, .int x2), (3, .int x3)]) hx hb dX10_chosen_65 hl (k := 4) rfl rfl (by decide) rfl (fun ls hl => ?_)
                refine lv_goto (tgt := 6) hx hb dX10_chosen_68 (by decide) ?_
                exact ih _ _ _ _ _ _ _ _ hf  hR hS (lv_sub hl [1, 2, 3, 4, 0] rfl)
              · replace hf := g_if hf c17
                refine lv_iload hx hb dX10_chosen_62 (lv_at hl 4 rfl) ?_
                refine lv_istore_n (lv' := [(3, .int x4), (0, .ref (G.2.2 + 54)), (1, .int x1), (2, .int x2), (4, .int x4)]) hx hb dX10_chosen_64 rfl hl (by decide) rfl (fun ls hl => ?_)
                refine lv_iinc (v := x4 + 1) (lv' := [(4, .int (x4 + 1)), (3, .int x4), (0, .ref (G.2.2 + 54)), (1, .int x1), (2, .int x2)]) hx hb dX10_chosen_65 hl (k := 4) rfl rfl (by decide) rfl (fun ls hl => ?_)
                refine lv_goto (tgt := 6) hx hb dX10_chosen_68 (by decide) ?_
                exact ih _ _ _ _ _ _ _ _ hf  hR hS (lv_sub hl [2, 3, 4, 1, 0] rfl)
  unfold f10_chosen at hf
  refine lv_bipush (v := -5) hx hb dX10_chosen_0 (by decide) ?_
  refine lv_istore_n (lv' := [(3, .int (-5 : Int32)), (0, .ref (G.2.2 + 54)), (1, .int p1), (2, .int p2)]) hx hb dX10_chosen_2 rfl hl (by decide) rfl (fun ls hl => ?_)
  refine lv_iconst (v := 0) hx hb dX10_chosen_3 (by decide) ?_
  refine lv_istore (lv' := [(4, .int (0 : Int32)), (3, .int (-5 : Int32)), (0, .ref (G.2.2 + 54)), (1, .int p1), (2, .int p2)]) hx hb dX10_chosen_4 hl (by decide) rfl (fun ls hl => ?_)
  exact hB6 300 _ _ _ _ _ _ _ _ hf  hR hS (lv_sub hl [2, 3, 4, 1, 0] rfl)
set_option maxHeartbeats 4000000 in
set_option maxRecDepth 100000 in
theorem c10_choice (l : Launch) (G : gG) (E : gEn) (μ : gMu) (z0 : gMo) (p1 : Int32) (p2 : Int32) (ro : Int32) (hf : f10_choice z0 p1 p2 = some ro) : Met l yX10_choice wsX10_choice ({ frames := 8, cells := 0, slots := 0, locals := 194 } : Room) (g_Pre G E (g_setM μ z0) [.ref (G.2.2 + 54), .int p1, .int p2]) (g_Q G E (g_setM μ z0) (fun E' v => E' = E ∧ v = some (.int ro))) 0 0 (g_A G) := by
  refine Met.ofW (cc := cX10_choice) (maxL := 3) (ret := some .int) (by decide) rfl ?_
  intro p e s m args below meth c s₁ B hml hv
  obtain ⟨rfl, hR, hK⟩ := hv
  have hx := B.exec
  have hb := B.bytes
  have hr := B.returns
  have hts := atoms_spec (ws := wsX10_choice) B.pre
  have hown : s.vm.findClass RX10 = some m.cls := findClass_of_methodNamed B.named
  have hlocks := B.notSynchronized
  have hS : va_S (g_A G) s.heap s.heap [] := va_S.rf
  have hl := lv_entry ([.ref (G.2.2 + 54), .int p1, .int p2]) (n := 3) (Nat.le_of_ble_eq_true rfl)
  rw [lg_entry_eq]
  generalize (lg_sl ([.ref (G.2.2 + 54), .int p1, .int p2]) ++ List.replicate (3 - (lg_sl ([.ref (G.2.2 + 54), .int p1, .int p2])).length) Slot.unset).toArray = ls at hl ⊢
  have hl : lv_has ls 3 [(0, .ref (G.2.2 + 54)), (1, .int p1), (2, .int p2)] := hl
  unfold f10_choice at hf
  refine lv_aload_n hx hb dX10_choice_0 rfl (lv_at hl 0 rfl) ?_
  refine lv_iload_n hx hb dX10_choice_1 rfl (lv_at hl 1 rfl) ?_
  obtain ⟨r1, hc2, hf⟩ := g_b1_e hf
  refine g_call (va_runV (As := [.int p1]) (rest := []) ⟨hx, hb, hml, hown, hts⟩ (c10_isOrder l G E μ _ _ _ hc2) (cwV 1 hts gX10_choice_X10_isOrder rfl rfl rfl (by decide +kernel) ⟨Nat.le_of_ble_eq_true rfl, Nat.le_of_ble_eq_true rfl⟩) (g_preV (ci := 10) hR hK (hR.2.2.2.2.1.1) rfl) rfl rfl hl.1 rfl (lv_room (Nat.le_of_ble_eq_true rfl)) dX10_choice_2 ⟨by show _ ≤ 0; omega, by show _ ≤ 0; omega⟩) hS (fun w3 H locs hp hR hS => ?_)
  subst hp
  refine lv_if_ne (tgt := 10) hx hb dX10_choice_5 (by decide) (fun c4 => ?_) (fun c4 => ?_)
  · replace hf := g_it hf c4
    refine lv_iload_n hx hb dX10_choice_10 rfl (lv_at hl 2 rfl) ?_
    refine lv_iconst (v := 0) hx hb dX10_choice_11 (by decide) ?_
    refine lv_iconst (v := 2) hx hb dX10_choice_12 (by decide) ?_
    obtain ⟨r5, hc6, hf⟩ := g_b1_e hf
    refine g_call (va_runS (As := [.int p2, .int (0 : Int32), .int (2 : Int32)]) (rest := []) ⟨hx, hb, hml, hown, hts⟩ (c10_in l G E (g_setM μ z0) _ _ _ _ hc6) (cwS 3 hts gX10_choice_X10_in rfl rfl rfl (by decide +kernel) ⟨Nat.le_of_ble_eq_true rfl, Nat.le_of_ble_eq_true rfl⟩) (g_pre hR hK) rfl rfl hl.1 rfl (lv_room (Nat.le_of_ble_eq_true rfl)) dX10_choice_13 ⟨by show _ ≤ 0; omega, by show _ ≤ 0; omega⟩) hS (fun w7 H locs hp hR hS => ?_)
    subst hp
    refine lv_if_ne (tgt := 22) hx hb dX10_choice_16 (by decide) (fun c8 => ?_) (fun c8 => ?_)
    · replace hf := g_it hf c8
      refine lv_aload_n hx hb dX10_choice_22 rfl (lv_at hl 0 rfl) ?_
      refine lv_iload_n hx hb dX10_choice_23 rfl (lv_at hl 1 rfl) ?_
      obtain ⟨r9, hc10, hf⟩ := g_b1_e hf
      refine g_call (va_runV (As := [.int p1]) (rest := []) ⟨hx, hb, hml, hown, hts⟩ (c10_isOpen l G E μ _ _ _ hc10) (cwV 1 hts gX10_choice_X10_isOpen rfl rfl rfl (by decide +kernel) ⟨Nat.le_of_ble_eq_true rfl, Nat.le_of_ble_eq_true rfl⟩) (g_preV (ci := 10) hR hK (hR.2.2.2.2.1.1) rfl) rfl rfl hl.1 rfl (lv_room (Nat.le_of_ble_eq_true rfl)) dX10_choice_24 ⟨by show _ ≤ 0; omega, by show _ ≤ 0; omega⟩) hS (fun w11 H locs hp hR hS => ?_)
      subst hp
      refine lv_if_eq (tgt := 39) hx hb dX10_choice_27 (by decide) (fun c12 => ?_) (fun c12 => ?_)
      · replace hf := g_it hf c12
        refine lv_bipush (v := -4) hx hb dX10_choice_39 (by decide) ?_
        obtain rfl := g_s1 hf
        exact g_iret hx hb hlocks hr hS hR g_le.rf ⟨rfl, rfl⟩ (by omega) (by omega) dX10_choice_41
      · replace hf := g_if hf c12
        refine lv_aload_n hx hb dX10_choice_30 rfl (lv_at hl 0 rfl) ?_
        refine lv_iload_n hx hb dX10_choice_31 rfl (lv_at hl 1 rfl) ?_
        refine lv_iload_n hx hb dX10_choice_32 rfl (lv_at hl 2 rfl) ?_
        obtain ⟨r13, hc14, hf⟩ := g_b1_e hf
        refine g_call (va_runV (As := [.int p1, .int p2]) (rest := []) ⟨hx, hb, hml, hown, hts⟩ (c10_chosen l G E μ _ _ _ _ hc14) (cwV 2 hts gX10_choice_X10_chosen rfl rfl rfl (by decide +kernel) ⟨Nat.le_of_ble_eq_true rfl, Nat.le_of_ble_eq_true rfl⟩) (g_preV (ci := 10) hR hK (hR.2.2.2.2.1.1) rfl) rfl rfl hl.1 rfl (lv_room (Nat.le_of_ble_eq_true rfl)) dX10_choice_33 ⟨by show _ ≤ 0; omega, by show _ ≤ 0; omega⟩) hS (fun w15 H locs hp hR hS => ?_)
        subst hp
        refine lv_goto (tgt := 41) hx hb dX10_choice_36 (by decide) ?_
        obtain rfl := g_s1 hf
        exact g_iret hx hb hlocks hr hS hR g_le.rf ⟨rfl, rfl⟩ (by omega) (by omega) dX10_choice_41
    · replace hf := g_if hf (fun q => q c8)
      refine lv_bipush (v := -2) hx hb dX10_choice_19 (by decide) ?_
      obtain rfl := g_s1 hf
      exact g_iret hx hb hlocks hr hS hR g_le.rf ⟨rfl, rfl⟩ (by omega) (by omega) dX10_choice_21
  · replace hf := g_if hf (fun q => q c4)
    refine lv_iconst (v := -1) hx hb dX10_choice_8 (by decide) ?_
    obtain rfl := g_s1 hf
    exact g_iret hx hb hlocks hr hS hR g_le.rf ⟨rfl, rfl⟩ (by omega) (by omega) dX10_choice_9
set_option maxHeartbeats 4000000 in
set_option maxRecDepth 100000 in
theorem c10_clearText (l : Launch) (G : gG) (E : gEn) (μ : gMu) (z0 : gMo)  (ro : Int32) (zo : gMo) (hf : f10_clearText z0 = some (ro, zo)) : Met l yX10_clearText wsX10_clearText ({ frames := 0, cells := 0, slots := 0, locals := 0 } : Room) (g_Pre G E (g_setM μ z0) [.ref (G.2.2 + 54)]) (g_Q G E (g_setM μ zo) (fun E' v => E' = E ∧ v = some (.int ro))) 0 0 (g_A G) := by
  refine Met.ofW (cc := cX10_clearText) (maxL := 2) (ret := some .int) (by decide) rfl ?_
  intro p e s m args below meth c s₁ B hml hv
  obtain ⟨rfl, hR, hK⟩ := hv
  have hx := B.exec
  have hb := B.bytes
  have hr := B.returns
  have hts := atoms_spec (ws := wsX10_clearText) B.pre
  have hown : s.vm.findClass RX10 = some m.cls := findClass_of_methodNamed B.named
  have hlocks := B.notSynchronized
  have hS : va_S (g_A G) s.heap s.heap [] := va_S.rf
  have hl := lv_entry ([.ref (G.2.2 + 54)]) (n := 2) (Nat.le_of_ble_eq_true rfl)
  rw [lg_entry_eq]
  generalize (lg_sl ([.ref (G.2.2 + 54)]) ++ List.replicate (2 - (lg_sl ([.ref (G.2.2 + 54)])).length) Slot.unset).toArray = ls at hl ⊢
  have hl : lv_has ls 2 [(0, .ref (G.2.2 + 54))] := hl
  have in_10 : ∀ w ∈ u_ws RX10 TX10 9, w ∈ wsX10_clearText := ifX10_clearText_10
  have l_149 := hts (.fieldLink RX10 149 "GlassRacksModel" "length" "I") (by decide +kernel)
  unfold f10_clearText at hf
  refine lv_aload_n hx hb dX10_clearText_0 rfl (lv_at hl 0 rfl) ?_
  refine g_get hx hb hts in_10 hown hK hR.2.2.2.2.1.1 rfl 6 (by decide) l_149 rfl rfl dX10_clearText_1 ?_
  refine lv_topi (fun t1 et1 => ?_)
  replace hf := g_let_at hf et1
  refine lv_istore_n (lv' := [(1, .int t1), (0, .ref (G.2.2 + 54))]) hx hb dX10_clearText_4 rfl hl (by decide) rfl (fun ls hl => ?_)
  refine lv_aload_n hx hb dX10_clearText_5 rfl (lv_at hl 1 rfl) ?_
  refine lv_iconst (v := 0) hx hb dX10_clearText_6 (by decide) ?_
  refine g_p10_6 hx hb hts in_10 hown hK hS hR l_149 dX10_clearText_7 (fun H locs hR hS => ?_)
  obtain ⟨z2, ez2, hf⟩ := g_let_e hf
  replace hR : g_R G E (g_setM μ z2) H := by rw [ez2]; exact hR
  refine lv_iload_n hx hb dX10_clearText_10 rfl (lv_at hl 0 rfl) ?_
  obtain ⟨rfl, rfl⟩ := g_sp hf
  exact g_iret hx hb hlocks hr hS hR g_le.rf ⟨rfl, rfl⟩ (by omega) (by omega) dX10_clearText_11
set_option maxHeartbeats 4000000 in
set_option maxRecDepth 100000 in
theorem c10_number (l : Launch) (G : gG) (E : gEn) (μ : gMu) (z0 : gMo) (p1 : Int32) (p2 : Int32) (ro : Int32) (zo : gMo) (hf : f10_number z0 p1 p2 = some (ro, zo)) : Met l yX10_number wsX10_number ({ frames := 1, cells := 0, slots := 0, locals := 22 } : Room) (g_Pre G E (g_setM μ z0) [.ref (G.2.2 + 54), .int p1, .int p2]) (g_Q G E (g_setM μ zo) (fun E' v => E' = E ∧ v = some (.int ro))) 0 0 (g_A G) := by
  refine Met.ofW (cc := cX10_number) (maxL := 4) (ret := some .int) (by decide) rfl ?_
  intro p e s m args below meth c s₁ B hml hv
  obtain ⟨rfl, hR, hK⟩ := hv
  have hx := B.exec
  have hb := B.bytes
  have hr := B.returns
  have hts := atoms_spec (ws := wsX10_number) B.pre
  have hown : s.vm.findClass RX10 = some m.cls := findClass_of_methodNamed B.named
  have hlocks := B.notSynchronized
  have hS : va_S (g_A G) s.heap s.heap [] := va_S.rf
  have hl := lv_entry ([.ref (G.2.2 + 54), .int p1, .int p2]) (n := 4) (Nat.le_of_ble_eq_true rfl)
  rw [lg_entry_eq]
  generalize (lg_sl ([.ref (G.2.2 + 54), .int p1, .int p2]) ++ List.replicate (4 - (lg_sl ([.ref (G.2.2 + 54), .int p1, .int p2])).length) Slot.unset).toArray = ls at hl ⊢
  have hl : lv_has ls 4 [(0, .ref (G.2.2 + 54)), (1, .int p1), (2, .int p2)] := hl
  have in_10 : ∀ w ∈ u_ws RX10 TX10 9, w ∈ wsX10_number := ifX10_number_10
  have l_146 := hts (.fieldLink RX10 146 "GlassRacksModel" "at" "I") (by decide +kernel)
  have l_149 := hts (.fieldLink RX10 149 "GlassRacksModel" "length" "I") (by decide +kernel)
  have l_22 := hts (.fieldLink RX10 22 "GlassRacksModel" "text" "[I") (by decide +kernel)
  have hB77 : ∀ (n : Nat) (z0 : gMo) (x2 : Int32) (x3 : Int32) (H : Heap) (locs : List Loc) (ls : Array Slot), f10_number_77 n z0 x2 x3 = some (ro, zo) → g_R G E (g_setM μ z0) H → va_S (g_A G) s.heap H locs → lv_has ls 4 [(0, .ref (G.2.2 + 54)), (2, .int x2), (3, .int x3)] → W p l e (headSpec wsX10_number ({ frames := 1, cells := 0, slots := 0, locals := 22 } : Room)).room s m ([.ref (G.2.2 + 54), .int p1, .int p2] : List Value).toArray below meth c H locs 0 0 (MQ below (g_Q G E (g_setM μ zo) (fun E' v => E' = E ∧ v = some (.int ro))) ([.ref (G.2.2 + 54), .int p1, .int p2] : List Value).toArray s 0 0 (g_A G)) (F0 m 77 ls []) := by
    intro n
    induction n with
    | zero =>
      intro z0 x2 x3 H locs ls hf
      rw [f10_number_77] at hf
      cases hf
    | succ n ih =>
      intro z0 x2 x3 H locs ls hf  hR hS hl
      rw [f10_number_77] at hf
      refine lv_iload_n hx hb dX10_number_77 rfl (lv_at hl 2 rfl) ?_
      refine lv_if_le (tgt := 163) hx hb dX10_number_78 (by decide) (fun c12 => ?_) (fun c12 => ?_)
      · replace hf := g_it hf c12
        refine lv_iload_n hx hb dX10_number_163 rfl (lv_at hl 2 rfl) ?_
        obtain ⟨rfl, rfl⟩ := g_sp hf
        exact g_iret hx hb hlocks hr hS hR g_le.rf ⟨rfl, rfl⟩ (by omega) (by omega) dX10_number_164
      · replace hf := g_if hf c12
        refine lv_aload_n hx hb dX10_number_81 rfl (lv_at hl 0 rfl) ?_
        refine g_get hx hb hts in_10 hown hK hR.2.2.2.2.1.1 rfl 8 (by decide) l_146 rfl rfl dX10_number_82 ?_
        refine lv_aload_n hx hb dX10_number_85 rfl (lv_at hl 0 rfl) ?_
        refine g_get hx hb hts in_10 hown hK hR.2.2.2.2.1.1 rfl 6 (by decide) l_149 rfl rfl dX10_number_86 ?_
        refine lv_icmp_ge (tgt := 163) hx hb dX10_number_89 (by decide) (fun c13 => ?_) (fun c13 => ?_)
        · replace hf := g_it hf c13
          refine lv_iload_n hx hb dX10_number_163 rfl (lv_at hl 2 rfl) ?_
          obtain ⟨rfl, rfl⟩ := g_sp hf
          exact g_iret hx hb hlocks hr hS hR g_le.rf ⟨rfl, rfl⟩ (by omega) (by omega) dX10_number_164
        · replace hf := g_if hf c13
          refine lv_aload_n hx hb dX10_number_92 rfl (lv_at hl 0 rfl) ?_
          refine g_get hx hb hts in_10 hown hK hR.2.2.2.2.1.1 rfl 4 (by decide) l_22 rfl rfl dX10_number_93 ?_
          refine lv_aload_n hx hb dX10_number_96 rfl (lv_at hl 0 rfl) ?_
          refine g_get hx hb hts in_10 hown hK hR.2.2.2.2.1.1 rfl 8 (by decide) l_146 rfl rfl dX10_number_97 ?_
          obtain ⟨hg14, hf⟩ := g_gd hf
          refine g_aild hx hb hK hR (by decide) hg14 dX10_number_100 ?_
          refine lv_bipush (v := 48) hx hb dX10_number_101 (by decide) ?_
          refine lv_bipush (v := 57) hx hb dX10_number_103 (by decide) ?_
          obtain ⟨r15, hc16, hf⟩ := g_b1_e hf
          refine g_call (va_runS (As := [.int (z0.1 4 (z0.2 8).toNatClampNeg), .int (48 : Int32), .int (57 : Int32)]) (rest := []) ⟨hx, hb, hml, hown, hts⟩ (c10_in l G E (g_setM μ z0) _ _ _ _ hc16) (cwS 3 hts gX10_number_X10_in rfl rfl rfl (by decide +kernel) ⟨Nat.le_of_ble_eq_true rfl, Nat.le_of_ble_eq_true rfl⟩) (g_pre hR hK) rfl rfl hl.1 rfl (lv_room (Nat.le_of_ble_eq_true rfl)) dX10_number_105 ⟨by show _ ≤ 0; omega, by show _ ≤ 0; omega⟩) hS (fun w17 H locs hp hR hS => ?_)
          subst hp
          refine lv_if_eq (tgt := 163) hx hb dX10_number_108 (by decide) (fun c18 => ?_) (fun c18 => ?_)
          · replace hf := g_it hf c18
            refine lv_iload_n hx hb dX10_number_163 rfl (lv_at hl 2 rfl) ?_
            obtain ⟨rfl, rfl⟩ := g_sp hf
            exact g_iret hx hb hlocks hr hS hR g_le.rf ⟨rfl, rfl⟩ (by omega) (by omega) dX10_number_164
          · replace hf := g_if hf c18
            refine lv_bipush (v := 10) hx hb dX10_number_111 (by decide) ?_
            refine lv_iload_n hx hb dX10_number_113 rfl (lv_at hl 2 rfl) ?_
            refine lv_imul hx hb dX10_number_114 ?_
            refine lv_aload_n hx hb dX10_number_115 rfl (lv_at hl 0 rfl) ?_
            refine g_get hx hb hts in_10 hown hK hR.2.2.2.2.1.1 rfl 4 (by decide) l_22 rfl rfl dX10_number_116 ?_
            refine lv_aload_n hx hb dX10_number_119 rfl (lv_at hl 0 rfl) ?_
            refine g_get hx hb hts in_10 hown hK hR.2.2.2.2.1.1 rfl 8 (by decide) l_146 rfl rfl dX10_number_120 ?_
            obtain ⟨hg19, hf⟩ := g_gd hf
            refine g_aild hx hb hK hR (by decide) hg19 dX10_number_123 ?_
            refine lv_iadd hx hb dX10_number_124 ?_
            refine lv_bipush (v := 48) hx hb dX10_number_125 (by decide) ?_
            refine lv_isub hx hb dX10_number_127 ?_
            refine lv_iload_n hx hb dX10_number_128 rfl (lv_at hl 1 rfl) ?_
            refine lv_icmp_gt (tgt := 163) hx hb dX10_number_129 (by decide) (fun c20 => ?_) (fun c20 => ?_)
            · replace hf := g_it hf c20
              refine lv_iload_n hx hb dX10_number_163 rfl (lv_at hl 2 rfl) ?_
              obtain ⟨rfl, rfl⟩ := g_sp hf
              exact g_iret hx hb hlocks hr hS hR g_le.rf ⟨rfl, rfl⟩ (by omega) (by omega) dX10_number_164
            · replace hf := g_if hf c20
              refine lv_bipush (v := 10) hx hb dX10_number_132 (by decide) ?_
              refine lv_iload_n hx hb dX10_number_134 rfl (lv_at hl 2 rfl) ?_
              refine lv_imul hx hb dX10_number_135 ?_
              refine lv_aload_n hx hb dX10_number_136 rfl (lv_at hl 0 rfl) ?_
              refine g_get hx hb hts in_10 hown hK hR.2.2.2.2.1.1 rfl 4 (by decide) l_22 rfl rfl dX10_number_137 ?_
              refine lv_aload_n hx hb dX10_number_140 rfl (lv_at hl 0 rfl) ?_
              refine g_get hx hb hts in_10 hown hK hR.2.2.2.2.1.1 rfl 8 (by decide) l_146 rfl rfl dX10_number_141 ?_
              obtain ⟨hg21, hf⟩ := g_gd hf
              refine g_aild hx hb hK hR (by decide) hg21 dX10_number_144 ?_
              refine lv_iadd hx hb dX10_number_145 ?_
              refine lv_bipush (v := 48) hx hb dX10_number_146 (by decide) ?_
              refine lv_isub hx hb dX10_number_148 ?_
              refine lv_topi (fun t22 et22 => ?_)
              replace hf := g_let_at hf et22
              refine lv_istore_n (lv' := [(3, .int t22), (0, .ref (G.2.2 + 54)), (2, .int x2)]) hx hb dX10_number_149 rfl hl (by decide) rfl (fun ls hl => ?_)
              refine lv_aload_n hx hb dX10_number_150 rfl (lv_at hl 1 rfl) ?_
              refine lv_dup hx hb dX10_number_151 rfl ?_
              refine g_get hx hb hts in_10 hown hK hR.2.2.2.2.1.1 rfl 8 (by decide) l_146 rfl rfl dX10_number_152 ?_
              refine lv_iconst (v := 1) hx hb dX10_number_155 (by decide) ?_
              refine lv_iadd hx hb dX10_number_156 ?_
              refine g_p10_8 hx hb hts in_10 hown hK hS hR l_146 dX10_number_157 (fun H locs hR hS => ?_)
              obtain ⟨z23, ez23, hf⟩ := g_let_e hf
              replace hR : g_R G E (g_setM μ z23) H := by rw [ez23]; exact hR
              refine lv_goto (tgt := 77) hx hb dX10_number_160 (by decide) ?_
              exact ih _ _ _ _ _ _ hf  hR hS (lv_sub hl [1, 2, 0] rfl)
  have hB46 : ∀ (z0 : gMo) (x2 : Int32) (y0 : Int32) (y1 : Int32) (y2 : Int32) (H : Heap) (locs : List Loc) (ls : Array Slot), f10_number_46 z0 x2 y0 y1 y2 = some (ro, zo) → g_R G E (g_setM μ z0) H → va_S (g_A G) s.heap H locs → lv_has ls 4 [(0, .ref (G.2.2 + 54)), (2, .int x2)] → W p l e (headSpec wsX10_number ({ frames := 1, cells := 0, slots := 0, locals := 22 } : Room)).room s m ([.ref (G.2.2 + 54), .int p1, .int p2] : List Value).toArray below meth c H locs 0 0 (MQ below (g_Q G E (g_setM μ zo) (fun E' v => E' = E ∧ v = some (.int ro))) ([.ref (G.2.2 + 54), .int p1, .int p2] : List Value).toArray s 0 0 (g_A G)) (F0 m 46 ls [.int y2, .int y1, .int y0]) := by
    intro z0 x2 y0 y1 y2 H locs ls hf  hR hS hl
    unfold f10_number_46 at hf
    obtain ⟨r5, hc6, hf⟩ := g_b1_e hf
    refine g_call (va_runS (As := [.int y0, .int y1, .int y2]) (rest := []) ⟨hx, hb, hml, hown, hts⟩ (c10_in l G E (g_setM μ z0) _ _ _ _ hc6) (cwS 3 hts gX10_number_X10_in rfl rfl rfl (by decide +kernel) ⟨Nat.le_of_ble_eq_true rfl, Nat.le_of_ble_eq_true rfl⟩) (g_pre hR hK) rfl rfl hl.1 rfl (lv_room (Nat.le_of_ble_eq_true rfl)) dX10_number_46 ⟨by show _ ≤ 0; omega, by show _ ≤ 0; omega⟩) hS (fun w7 H locs hp hR hS => ?_)
    subst hp
    refine lv_if_ne (tgt := 54) hx hb dX10_number_49 (by decide) (fun c8 => ?_) (fun c8 => ?_)
    · replace hf := g_it hf c8
      refine lv_aload_n hx hb dX10_number_54 rfl (lv_at hl 0 rfl) ?_
      refine g_get hx hb hts in_10 hown hK hR.2.2.2.2.1.1 rfl 4 (by decide) l_22 rfl rfl dX10_number_55 ?_
      refine lv_aload_n hx hb dX10_number_58 rfl (lv_at hl 0 rfl) ?_
      refine g_get hx hb hts in_10 hown hK hR.2.2.2.2.1.1 rfl 8 (by decide) l_146 rfl rfl dX10_number_59 ?_
      obtain ⟨hg9, hf⟩ := g_gd hf
      refine g_aild hx hb hK hR (by decide) hg9 dX10_number_62 ?_
      refine lv_bipush (v := 48) hx hb dX10_number_63 (by decide) ?_
      refine lv_isub hx hb dX10_number_65 ?_
      refine lv_topi (fun t10 et10 => ?_)
      replace hf := g_let_at hf et10
      refine lv_istore_n (lv' := [(3, .int t10), (0, .ref (G.2.2 + 54)), (2, .int x2)]) hx hb dX10_number_66 rfl hl (by decide) rfl (fun ls hl => ?_)
      refine lv_aload_n hx hb dX10_number_67 rfl (lv_at hl 1 rfl) ?_
      refine lv_dup hx hb dX10_number_68 rfl ?_
      refine g_get hx hb hts in_10 hown hK hR.2.2.2.2.1.1 rfl 8 (by decide) l_146 rfl rfl dX10_number_69 ?_
      refine lv_iconst (v := 1) hx hb dX10_number_72 (by decide) ?_
      refine lv_iadd hx hb dX10_number_73 ?_
      refine g_p10_8 hx hb hts in_10 hown hK hS hR l_146 dX10_number_74 (fun H locs hR hS => ?_)
      obtain ⟨z11, ez11, hf⟩ := g_let_e hf
      replace hR : g_R G E (g_setM μ z11) H := by rw [ez11]; exact hR
      exact hB77 70 _ _ _ _ _ _ hf  hR hS (lv_sub hl [1, 2, 0] rfl)
    · replace hf := g_if hf (fun q => q c8)
      refine lv_iconst (v := -1) hx hb dX10_number_52 (by decide) ?_
      obtain ⟨rfl, rfl⟩ := g_sp hf
      exact g_iret hx hb hlocks hr hS hR g_le.rf ⟨rfl, rfl⟩ (by omega) (by omega) dX10_number_53
  have hB31 : ∀ (z0 : gMo) (x2 : Int32) (y0 : Int32) (y1 : Int32) (H : Heap) (locs : List Loc) (ls : Array Slot), f10_number_31 z0 x2 y0 y1 = some (ro, zo) → g_R G E (g_setM μ z0) H → va_S (g_A G) s.heap H locs → lv_has ls 4 [(0, .ref (G.2.2 + 54)), (2, .int x2)] → W p l e (headSpec wsX10_number ({ frames := 1, cells := 0, slots := 0, locals := 22 } : Room)).room s m ([.ref (G.2.2 + 54), .int p1, .int p2] : List Value).toArray below meth c H locs 0 0 (MQ below (g_Q G E (g_setM μ zo) (fun E' v => E' = E ∧ v = some (.int ro))) ([.ref (G.2.2 + 54), .int p1, .int p2] : List Value).toArray s 0 0 (g_A G)) (F0 m 31 ls [.int y1, .int y0]) := by
    intro z0 x2 y0 y1 H locs ls hf  hR hS hl
    unfold f10_number_31 at hf
    refine lv_iload_n hx hb dX10_number_31 rfl (lv_at hl 1 rfl) ?_
    refine lv_bipush (v := 10) hx hb dX10_number_32 (by decide) ?_
    refine lv_icmp_ge (tgt := 44) hx hb dX10_number_34 (by decide) (fun c4 => ?_) (fun c4 => ?_)
    · replace hf := g_it hf c4
      refine lv_bipush (v := 57) hx hb dX10_number_44 (by decide) ?_
      exact hB46 _ _ _ _ _ _ _ _ hf  hR hS (lv_sub hl [0, 1] rfl)
    · replace hf := g_if hf c4
      refine lv_bipush (v := 48) hx hb dX10_number_37 (by decide) ?_
      refine lv_iload_n hx hb dX10_number_39 rfl (lv_at hl 1 rfl) ?_
      refine lv_iadd hx hb dX10_number_40 ?_
      refine lv_goto (tgt := 46) hx hb dX10_number_41 (by decide) ?_
      exact hB46 _ _ _ _ _ _ _ _ hf  hR hS (lv_sub hl [0, 1] rfl)
  unfold f10_number at hf
  refine lv_aload_n hx hb dX10_number_0 rfl (lv_at hl 0 rfl) ?_
  refine g_get hx hb hts in_10 hown hK hR.2.2.2.2.1.1 rfl 8 (by decide) l_146 rfl rfl dX10_number_1 ?_
  refine lv_aload_n hx hb dX10_number_4 rfl (lv_at hl 0 rfl) ?_
  refine g_get hx hb hts in_10 hown hK hR.2.2.2.2.1.1 rfl 6 (by decide) l_149 rfl rfl dX10_number_5 ?_
  refine lv_icmp_eq (tgt := 52) hx hb dX10_number_8 (by decide) (fun c1 => ?_) (fun c1 => ?_)
  · replace hf := g_it hf c1
    refine lv_iconst (v := -1) hx hb dX10_number_52 (by decide) ?_
    obtain ⟨rfl, rfl⟩ := g_sp hf
    exact g_iret hx hb hlocks hr hS hR g_le.rf ⟨rfl, rfl⟩ (by omega) (by omega) dX10_number_53
  · replace hf := g_if hf c1
    refine lv_aload_n hx hb dX10_number_11 rfl (lv_at hl 0 rfl) ?_
    refine g_get hx hb hts in_10 hown hK hR.2.2.2.2.1.1 rfl 4 (by decide) l_22 rfl rfl dX10_number_12 ?_
    refine lv_aload_n hx hb dX10_number_15 rfl (lv_at hl 0 rfl) ?_
    refine g_get hx hb hts in_10 hown hK hR.2.2.2.2.1.1 rfl 8 (by decide) l_146 rfl rfl dX10_number_16 ?_
    obtain ⟨hg2, hf⟩ := g_gd hf
    refine g_aild hx hb hK hR (by decide) hg2 dX10_number_19 ?_
    refine lv_iload_n hx hb dX10_number_20 rfl (lv_at hl 1 rfl) ?_
    refine lv_if_le (tgt := 29) hx hb dX10_number_21 (by decide) (fun c3 => ?_) (fun c3 => ?_)
    · replace hf := g_it hf c3
      refine lv_bipush (v := 48) hx hb dX10_number_29 (by decide) ?_
      exact hB31 _ _ _ _ _ _ _ hf  hR hS (lv_sub hl [0, 2] rfl)
    · replace hf := g_if hf c3
      refine lv_bipush (v := 49) hx hb dX10_number_24 (by decide) ?_
      refine lv_goto (tgt := 31) hx hb dX10_number_26 (by decide) ?_
      exact hB31 _ _ _ _ _ _ _ hf  hR hS (lv_sub hl [0, 2] rfl)
set_option maxHeartbeats 4000000 in
set_option maxRecDepth 100000 in
theorem c10_orders (l : Launch) (G : gG) (E : gEn) (μ : gMu) (z0 : gMo) (p1 : Int32) (p2 : Int32) (p3 : Int32) (p4 : Int32) (ro : Int32) (zo : gMo) (hf : f10_orders z0 p1 p2 p3 p4 = some (ro, zo)) : Met l yX10_orders wsX10_orders ({ frames := 0, cells := 0, slots := 0, locals := 0 } : Room) (g_Pre G E (g_setM μ z0) [.ref (G.2.2 + 54), .int p1, .int p2, .int p3, .int p4]) (g_Q G E (g_setM μ zo) (fun E' v => E' = E ∧ v = some (.int ro))) 0 0 (g_A G) := by
  refine Met.ofW (cc := cX10_orders) (maxL := 6) (ret := some .int) (by decide) rfl ?_
  intro p e s m args below meth c s₁ B hml hv
  obtain ⟨rfl, hR, hK⟩ := hv
  have hx := B.exec
  have hb := B.bytes
  have hr := B.returns
  have hts := atoms_spec (ws := wsX10_orders) B.pre
  have hown : s.vm.findClass RX10 = some m.cls := findClass_of_methodNamed B.named
  have hlocks := B.notSynchronized
  have hS : va_S (g_A G) s.heap s.heap [] := va_S.rf
  have hl := lv_entry ([.ref (G.2.2 + 54), .int p1, .int p2, .int p3, .int p4]) (n := 6) (Nat.le_of_ble_eq_true rfl)
  rw [lg_entry_eq]
  generalize (lg_sl ([.ref (G.2.2 + 54), .int p1, .int p2, .int p3, .int p4]) ++ List.replicate (6 - (lg_sl ([.ref (G.2.2 + 54), .int p1, .int p2, .int p3, .int p4])).length) Slot.unset).toArray = ls at hl ⊢
  have hl : lv_has ls 6 [(0, .ref (G.2.2 + 54)), (1, .int p1), (2, .int p2), (3, .int p3), (4, .int p4)] := hl
  have in_10 : ∀ w ∈ u_ws RX10 TX10 9, w ∈ wsX10_orders := ifX10_orders_10
  have l_7 := hts (.fieldLink RX10 7 "GlassRacksModel" "now" "[I") (by decide +kernel)
  unfold f10_orders at hf
  refine lv_aload_n hx hb dX10_orders_0 rfl (lv_at hl 0 rfl) ?_
  refine g_get hx hb hts in_10 hown hK hR.2.2.2.2.1.1 rfl 0 (by decide) l_7 rfl rfl dX10_orders_1 ?_
  refine lv_bipush (v := 7) hx hb dX10_orders_4 (by decide) ?_
  refine g_aild hx hb hK hR (by decide) (by decide) dX10_orders_6 ?_
  refine lv_topi (fun t1 et1 => ?_)
  replace hf := g_let_at hf et1
  refine lv_istore (lv' := [(5, .int t1), (0, .ref (G.2.2 + 54)), (1, .int p1), (2, .int p2), (3, .int p3), (4, .int p4)]) hx hb dX10_orders_7 hl (by decide) rfl (fun ls hl => ?_)
  refine lv_iload hx hb dX10_orders_9 (lv_at hl 0 rfl) ?_
  refine lv_bipush (v := 12) hx hb dX10_orders_11 (by decide) ?_
  refine lv_icmp_ne (tgt := 19) hx hb dX10_orders_13 (by decide) (fun c2 => ?_) (fun c2 => ?_)
  · replace hf := g_it hf c2
    refine lv_aload_n hx hb dX10_orders_19 rfl (lv_at hl 1 rfl) ?_
    refine g_get hx hb hts in_10 hown hK hR.2.2.2.2.1.1 rfl 0 (by decide) l_7 rfl rfl dX10_orders_20 ?_
    refine lv_bipush (v := 7) hx hb dX10_orders_23 (by decide) ?_
    refine lv_iload hx hb dX10_orders_25 (lv_at hl 0 rfl) ?_
    refine lv_iconst (v := 1) hx hb dX10_orders_27 (by decide) ?_
    refine lv_iadd hx hb dX10_orders_28 ?_
    refine g_aist hx hb hK hS hR (by decide) (by decide) dX10_orders_29 (fun H locs hR hS => ?_)
    obtain ⟨z3, ez3, hf⟩ := g_let_e hf
    replace hR : g_R G E (g_setM μ z3) H := by rw [ez3]; exact hR
    refine lv_aload_n hx hb dX10_orders_30 rfl (lv_at hl 1 rfl) ?_
    refine g_get hx hb hts in_10 hown hK hR.2.2.2.2.1.1 rfl 0 (by decide) l_7 rfl rfl dX10_orders_31 ?_
    refine lv_sipush (v := 1050) hx hb dX10_orders_34 (by decide) ?_
    refine lv_bipush (v := 7) hx hb dX10_orders_37 (by decide) ?_
    refine lv_iload hx hb dX10_orders_39 (lv_at hl 0 rfl) ?_
    refine lv_imul hx hb dX10_orders_41 ?_
    refine lv_iadd hx hb dX10_orders_42 ?_
    refine lv_iconst (v := 0) hx hb dX10_orders_43 (by decide) ?_
    refine lv_iadd hx hb dX10_orders_44 ?_
    refine lv_iload_n hx hb dX10_orders_45 rfl (lv_at hl 2 rfl) ?_
    obtain ⟨hg4, hf⟩ := g_gd hf
    refine g_aist hx hb hK hS hR (by decide) hg4 dX10_orders_46 (fun H locs hR hS => ?_)
    obtain ⟨z5, ez5, hf⟩ := g_let_e hf
    replace hR : g_R G E (g_setM μ z5) H := by rw [ez5]; exact hR
    refine lv_aload_n hx hb dX10_orders_47 rfl (lv_at hl 1 rfl) ?_
    refine g_get hx hb hts in_10 hown hK hR.2.2.2.2.1.1 rfl 0 (by decide) l_7 rfl rfl dX10_orders_48 ?_
    refine lv_sipush (v := 1050) hx hb dX10_orders_51 (by decide) ?_
    refine lv_bipush (v := 7) hx hb dX10_orders_54 (by decide) ?_
    refine lv_iload hx hb dX10_orders_56 (lv_at hl 0 rfl) ?_
    refine lv_imul hx hb dX10_orders_58 ?_
    refine lv_iadd hx hb dX10_orders_59 ?_
    refine lv_iconst (v := 1) hx hb dX10_orders_60 (by decide) ?_
    refine lv_iadd hx hb dX10_orders_61 ?_
    refine lv_iload_n hx hb dX10_orders_62 rfl (lv_at hl 3 rfl) ?_
    obtain ⟨hg6, hf⟩ := g_gd hf
    refine g_aist hx hb hK hS hR (by decide) hg6 dX10_orders_63 (fun H locs hR hS => ?_)
    obtain ⟨z7, ez7, hf⟩ := g_let_e hf
    replace hR : g_R G E (g_setM μ z7) H := by rw [ez7]; exact hR
    refine lv_aload_n hx hb dX10_orders_64 rfl (lv_at hl 1 rfl) ?_
    refine g_get hx hb hts in_10 hown hK hR.2.2.2.2.1.1 rfl 0 (by decide) l_7 rfl rfl dX10_orders_65 ?_
    refine lv_sipush (v := 1050) hx hb dX10_orders_68 (by decide) ?_
    refine lv_bipush (v := 7) hx hb dX10_orders_71 (by decide) ?_
    refine lv_iload hx hb dX10_orders_73 (lv_at hl 0 rfl) ?_
    refine lv_imul hx hb dX10_orders_75 ?_
    refine lv_iadd hx hb dX10_orders_76 ?_
    refine lv_iconst (v := 2) hx hb dX10_orders_77 (by decide) ?_
    refine lv_iadd hx hb dX10_orders_78 ?_
    refine lv_iload_n hx hb dX10_orders_79 rfl (lv_at hl 4 rfl) ?_
    obtain ⟨hg8, hf⟩ := g_gd hf
    refine g_aist hx hb hK hS hR (by decide) hg8 dX10_orders_80 (fun H locs hR hS => ?_)
    obtain ⟨z9, ez9, hf⟩ := g_let_e hf
    replace hR : g_R G E (g_setM μ z9) H := by rw [ez9]; exact hR
    refine lv_aload_n hx hb dX10_orders_81 rfl (lv_at hl 1 rfl) ?_
    refine g_get hx hb hts in_10 hown hK hR.2.2.2.2.1.1 rfl 0 (by decide) l_7 rfl rfl dX10_orders_82 ?_
    refine lv_sipush (v := 1050) hx hb dX10_orders_85 (by decide) ?_
    refine lv_bipush (v := 7) hx hb dX10_orders_88 (by decide) ?_
    refine lv_iload hx hb dX10_orders_90 (lv_at hl 0 rfl) ?_
    refine lv_imul hx hb dX10_orders_92 ?_
    refine lv_iadd hx hb dX10_orders_93 ?_
    refine lv_iconst (v := 3) hx hb dX10_orders_94 (by decide) ?_
    refine lv_iadd hx hb dX10_orders_95 ?_
    refine lv_iload hx hb dX10_orders_96 (lv_at hl 5 rfl) ?_
    obtain ⟨hg10, hf⟩ := g_gd hf
    refine g_aist hx hb hK hS hR (by decide) hg10 dX10_orders_98 (fun H locs hR hS => ?_)
    obtain ⟨z11, ez11, hf⟩ := g_let_e hf
    replace hR : g_R G E (g_setM μ z11) H := by rw [ez11]; exact hR
    refine lv_iload hx hb dX10_orders_99 (lv_at hl 0 rfl) ?_
    obtain ⟨rfl, rfl⟩ := g_sp hf
    exact g_iret hx hb hlocks hr hS hR g_le.rf ⟨rfl, rfl⟩ (by omega) (by omega) dX10_orders_101
  · replace hf := g_if hf (fun q => q c2)
    refine lv_bipush (v := -3) hx hb dX10_orders_16 (by decide) ?_
    obtain ⟨rfl, rfl⟩ := g_sp hf
    exact g_iret hx hb hlocks hr hS hR g_le.rf ⟨rfl, rfl⟩ (by omega) (by omega) dX10_orders_18
set_option maxHeartbeats 4000000 in
set_option maxRecDepth 100000 in
theorem c10_isLate (l : Launch) (G : gG) (E : gEn) (μ : gMu) (z0 : gMo) (p1 : Int32) (ro : Int32) (hf : f10_isLate z0 p1 = some ro) : Met l yX10_isLate wsX10_isLate ({ frames := 2, cells := 0, slots := 0, locals := 43 } : Room) (g_Pre G E (g_setM μ z0) [.ref (G.2.2 + 54), .int p1]) (g_Q G E (g_setM μ z0) (fun E' v => E' = E ∧ v = some (.int ro))) 0 0 (g_A G) := by
  refine Met.ofW (cc := cX10_isLate) (maxL := 2) (ret := some .boolean) (by decide) rfl ?_
  intro p e s m args below meth c s₁ B hml hv
  obtain ⟨rfl, hR, hK⟩ := hv
  have hx := B.exec
  have hb := B.bytes
  have hr := B.returns
  have hts := atoms_spec (ws := wsX10_isLate) B.pre
  have hown : s.vm.findClass RX10 = some m.cls := findClass_of_methodNamed B.named
  have hlocks := B.notSynchronized
  have hS : va_S (g_A G) s.heap s.heap [] := va_S.rf
  have hl := lv_entry ([.ref (G.2.2 + 54), .int p1]) (n := 2) (Nat.le_of_ble_eq_true rfl)
  rw [lg_entry_eq]
  generalize (lg_sl ([.ref (G.2.2 + 54), .int p1]) ++ List.replicate (2 - (lg_sl ([.ref (G.2.2 + 54), .int p1])).length) Slot.unset).toArray = ls at hl ⊢
  have hl : lv_has ls 2 [(0, .ref (G.2.2 + 54)), (1, .int p1)] := hl
  have in_10 : ∀ w ∈ u_ws RX10 TX10 9, w ∈ wsX10_isLate := ifX10_isLate_10
  have l_7 := hts (.fieldLink RX10 7 "GlassRacksModel" "now" "[I") (by decide +kernel)
  unfold f10_isLate at hf
  refine lv_aload_n hx hb dX10_isLate_0 rfl (lv_at hl 0 rfl) ?_
  refine lv_iload_n hx hb dX10_isLate_1 rfl (lv_at hl 1 rfl) ?_
  obtain ⟨r1, hc2, hf⟩ := g_b1_e hf
  refine g_call (va_runV (As := [.int p1]) (rest := []) ⟨hx, hb, hml, hown, hts⟩ (c10_isOpen l G E μ _ _ _ hc2) (cwV 1 hts gX10_isLate_X10_isOpen rfl rfl rfl (by decide +kernel) ⟨Nat.le_of_ble_eq_true rfl, Nat.le_of_ble_eq_true rfl⟩) (g_preV (ci := 10) hR hK (hR.2.2.2.2.1.1) rfl) rfl rfl hl.1 rfl (lv_room (Nat.le_of_ble_eq_true rfl)) dX10_isLate_2 ⟨by show _ ≤ 0; omega, by show _ ≤ 0; omega⟩) hS (fun w3 H locs hp hR hS => ?_)
  subst hp
  refine lv_if_eq (tgt := 31) hx hb dX10_isLate_5 (by decide) (fun c4 => ?_) (fun c4 => ?_)
  · replace hf := g_it hf c4
    refine lv_aload_n hx hb dX10_isLate_31 rfl (lv_at hl 0 rfl) ?_
    refine lv_iload_n hx hb dX10_isLate_32 rfl (lv_at hl 1 rfl) ?_
    refine lv_iconst (v := 4) hx hb dX10_isLate_33 (by decide) ?_
    obtain ⟨r5, hc6, hf⟩ := g_b1_e hf
    refine g_call (va_runV (As := [.int p1, .int (4 : Int32)]) (rest := []) ⟨hx, hb, hml, hown, hts⟩ (c10_of l G E μ _ _ _ _ hc6) (cwV 2 hts gX10_isLate_X10_of rfl rfl rfl (by decide +kernel) ⟨Nat.le_of_ble_eq_true rfl, Nat.le_of_ble_eq_true rfl⟩) (g_preV (ci := 10) hR hK (hR.2.2.2.2.1.1) rfl) rfl rfl hl.1 rfl (lv_room (Nat.le_of_ble_eq_true rfl)) dX10_isLate_34 ⟨by show _ ≤ 0; omega, by show _ ≤ 0; omega⟩) hS (fun w7 H locs hp hR hS => ?_)
    subst hp
    refine lv_iconst (v := 1) hx hb dX10_isLate_37 (by decide) ?_
    refine lv_icmp_ne (tgt := 61) hx hb dX10_isLate_38 (by decide) (fun c8 => ?_) (fun c8 => ?_)
    · replace hf := g_it hf c8
      refine lv_iconst (v := 0) hx hb dX10_isLate_61 (by decide) ?_
      obtain rfl := g_s1 hf
      exact g_zret hx hb hlocks hr hS hR g_le.rf (by decide) ⟨rfl, rfl⟩ (by omega) (by omega) dX10_isLate_62
    · replace hf := g_if hf (fun q => q c8)
      refine lv_aload_n hx hb dX10_isLate_41 rfl (lv_at hl 0 rfl) ?_
      refine lv_iload_n hx hb dX10_isLate_42 rfl (lv_at hl 1 rfl) ?_
      refine lv_bipush (v := 6) hx hb dX10_isLate_43 (by decide) ?_
      obtain ⟨r9, hc10, hf⟩ := g_b1_e hf
      refine g_call (va_runV (As := [.int p1, .int (6 : Int32)]) (rest := []) ⟨hx, hb, hml, hown, hts⟩ (c10_of l G E μ _ _ _ _ hc10) (cwV 2 hts gX10_isLate_X10_of rfl rfl rfl (by decide +kernel) ⟨Nat.le_of_ble_eq_true rfl, Nat.le_of_ble_eq_true rfl⟩) (g_preV (ci := 10) hR hK (hR.2.2.2.2.1.1) rfl) rfl rfl hl.1 rfl (lv_room (Nat.le_of_ble_eq_true rfl)) dX10_isLate_45 ⟨by show _ ≤ 0; omega, by show _ ≤ 0; omega⟩) hS (fun w11 H locs hp hR hS => ?_)
      subst hp
      refine lv_aload_n hx hb dX10_isLate_48 rfl (lv_at hl 0 rfl) ?_
      refine lv_iload_n hx hb dX10_isLate_49 rfl (lv_at hl 1 rfl) ?_
      refine lv_iconst (v := 3) hx hb dX10_isLate_50 (by decide) ?_
      obtain ⟨r12, hc13, hf⟩ := g_b1_e hf
      refine g_call (va_runV (As := [.int p1, .int (3 : Int32)]) (rest := [.int r9]) ⟨hx, hb, hml, hown, hts⟩ (c10_of l G E μ _ _ _ _ hc13) (cwV 2 hts gX10_isLate_X10_of rfl rfl rfl (by decide +kernel) ⟨Nat.le_of_ble_eq_true rfl, Nat.le_of_ble_eq_true rfl⟩) (g_preV (ci := 10) hR hK (hR.2.2.2.2.1.1) rfl) rfl rfl hl.1 rfl (lv_room (Nat.le_of_ble_eq_true rfl)) dX10_isLate_51 ⟨by show _ ≤ 0; omega, by show _ ≤ 0; omega⟩) hS (fun w14 H locs hp hR hS => ?_)
      subst hp
      refine lv_icmp_le (tgt := 61) hx hb dX10_isLate_54 (by decide) (fun c15 => ?_) (fun c15 => ?_)
      · replace hf := g_it hf c15
        refine lv_iconst (v := 0) hx hb dX10_isLate_61 (by decide) ?_
        obtain rfl := g_s1 hf
        exact g_zret hx hb hlocks hr hS hR g_le.rf (by decide) ⟨rfl, rfl⟩ (by omega) (by omega) dX10_isLate_62
      · replace hf := g_if hf c15
        refine lv_iconst (v := 1) hx hb dX10_isLate_57 (by decide) ?_
        refine lv_goto (tgt := 62) hx hb dX10_isLate_58 (by decide) ?_
        obtain rfl := g_s1 hf
        exact g_zret hx hb hlocks hr hS hR g_le.rf (by decide) ⟨rfl, rfl⟩ (by omega) (by omega) dX10_isLate_62
  · replace hf := g_if hf c4
    refine lv_aload_n hx hb dX10_isLate_8 rfl (lv_at hl 0 rfl) ?_
    refine lv_iload_n hx hb dX10_isLate_9 rfl (lv_at hl 1 rfl) ?_
    refine lv_iconst (v := 3) hx hb dX10_isLate_10 (by decide) ?_
    obtain ⟨r16, hc17, hf⟩ := g_b1_e hf
    refine g_call (va_runV (As := [.int p1, .int (3 : Int32)]) (rest := []) ⟨hx, hb, hml, hown, hts⟩ (c10_of l G E μ _ _ _ _ hc17) (cwV 2 hts gX10_isLate_X10_of rfl rfl rfl (by decide +kernel) ⟨Nat.le_of_ble_eq_true rfl, Nat.le_of_ble_eq_true rfl⟩) (g_preV (ci := 10) hR hK (hR.2.2.2.2.1.1) rfl) rfl rfl hl.1 rfl (lv_room (Nat.le_of_ble_eq_true rfl)) dX10_isLate_11 ⟨by show _ ≤ 0; omega, by show _ ≤ 0; omega⟩) hS (fun w18 H locs hp hR hS => ?_)
    subst hp
    refine lv_aload_n hx hb dX10_isLate_14 rfl (lv_at hl 0 rfl) ?_
    refine g_get hx hb hts in_10 hown hK hR.2.2.2.2.1.1 rfl 0 (by decide) l_7 rfl rfl dX10_isLate_15 ?_
    refine lv_iconst (v := 0) hx hb dX10_isLate_18 (by decide) ?_
    refine g_aild hx hb hK hR (by decide) (by decide) dX10_isLate_19 ?_
    refine lv_icmp_ge (tgt := 27) hx hb dX10_isLate_20 (by decide) (fun c19 => ?_) (fun c19 => ?_)
    · replace hf := g_it hf c19
      refine lv_iconst (v := 0) hx hb dX10_isLate_27 (by decide) ?_
      refine lv_goto (tgt := 62) hx hb dX10_isLate_28 (by decide) ?_
      obtain rfl := g_s1 hf
      exact g_zret hx hb hlocks hr hS hR g_le.rf (by decide) ⟨rfl, rfl⟩ (by omega) (by omega) dX10_isLate_62
    · replace hf := g_if hf c19
      refine lv_iconst (v := 1) hx hb dX10_isLate_23 (by decide) ?_
      refine lv_goto (tgt := 62) hx hb dX10_isLate_24 (by decide) ?_
      obtain rfl := g_s1 hf
      exact g_zret hx hb hlocks hr hS hR g_le.rf (by decide) ⟨rfl, rfl⟩ (by omega) (by omega) dX10_isLate_62
set_option maxHeartbeats 4000000 in
set_option maxRecDepth 100000 in
theorem c10_late (l : Launch) (G : gG) (E : gEn) (μ : gMu) (z0 : gMo)  (ro : Int32) (hf : f10_late z0 = some ro) : Met l yX10_late wsX10_late ({ frames := 3, cells := 0, slots := 0, locals := 64 } : Room) (g_Pre G E (g_setM μ z0) [.ref (G.2.2 + 54)]) (g_Q G E (g_setM μ z0) (fun E' v => E' = E ∧ v = some (.int ro))) 0 0 (g_A G) := by
  refine Met.ofW (cc := cX10_late) (maxL := 3) (ret := some .int) (by decide) rfl ?_
  intro p e s m args below meth c s₁ B hml hv
  obtain ⟨rfl, hR, hK⟩ := hv
  have hx := B.exec
  have hb := B.bytes
  have hr := B.returns
  have hts := atoms_spec (ws := wsX10_late) B.pre
  have hown : s.vm.findClass RX10 = some m.cls := findClass_of_methodNamed B.named
  have hlocks := B.notSynchronized
  have hS : va_S (g_A G) s.heap s.heap [] := va_S.rf
  have hl := lv_entry ([.ref (G.2.2 + 54)]) (n := 3) (Nat.le_of_ble_eq_true rfl)
  rw [lg_entry_eq]
  generalize (lg_sl ([.ref (G.2.2 + 54)]) ++ List.replicate (3 - (lg_sl ([.ref (G.2.2 + 54)])).length) Slot.unset).toArray = ls at hl ⊢
  have hl : lv_has ls 3 [(0, .ref (G.2.2 + 54))] := hl
  have in_10 : ∀ w ∈ u_ws RX10 TX10 9, w ∈ wsX10_late := ifX10_late_10
  have l_7 := hts (.fieldLink RX10 7 "GlassRacksModel" "now" "[I") (by decide +kernel)
  have hB4 : ∀ (n : Nat) (z0 : gMo) (x1 : Int32) (x2 : Int32) (H : Heap) (locs : List Loc) (ls : Array Slot), f10_late_4 n z0 x1 x2 = some ro → g_R G E (g_setM μ z0) H → va_S (g_A G) s.heap H locs → lv_has ls 3 [(0, .ref (G.2.2 + 54)), (1, .int x1), (2, .int x2)] → W p l e (headSpec wsX10_late ({ frames := 3, cells := 0, slots := 0, locals := 64 } : Room)).room s m ([.ref (G.2.2 + 54)] : List Value).toArray below meth c H locs 0 0 (MQ below (g_Q G E (g_setM μ z0) (fun E' v => E' = E ∧ v = some (.int ro))) ([.ref (G.2.2 + 54)] : List Value).toArray s 0 0 (g_A G)) (F0 m 4 ls []) := by
    intro n
    induction n with
    | zero =>
      intro z0 x1 x2 H locs ls hf
      rw [f10_late_4] at hf
      cases hf
    | succ n ih =>
      intro z0 x1 x2 H locs ls hf  hR hS hl
      rw [f10_late_4] at hf
      refine lv_iload_n hx hb dX10_late_4 rfl (lv_at hl 2 rfl) ?_
      refine lv_aload_n hx hb dX10_late_5 rfl (lv_at hl 0 rfl) ?_
      refine g_get hx hb hts in_10 hown hK hR.2.2.2.2.1.1 rfl 0 (by decide) l_7 rfl rfl dX10_late_6 ?_
      refine lv_bipush (v := 7) hx hb dX10_late_9 (by decide) ?_
      refine g_aild hx hb hK hR (by decide) (by decide) dX10_late_11 ?_
      refine lv_icmp_ge (tgt := 37) hx hb dX10_late_12 (by decide) (fun c1 => ?_) (fun c1 => ?_)
      · replace hf := g_it hf c1
        refine lv_iload_n hx hb dX10_late_37 rfl (lv_at hl 1 rfl) ?_
        obtain rfl := g_s1 hf
        exact g_iret hx hb hlocks hr hS hR g_le.rf ⟨rfl, rfl⟩ (by omega) (by omega) dX10_late_38
      · replace hf := g_if hf c1
        refine lv_iload_n hx hb dX10_late_15 rfl (lv_at hl 1 rfl) ?_
        refine lv_aload_n hx hb dX10_late_16 rfl (lv_at hl 0 rfl) ?_
        refine lv_iload_n hx hb dX10_late_17 rfl (lv_at hl 2 rfl) ?_
        obtain ⟨r2, hc3, hf⟩ := g_b1_e hf
        refine g_call (va_runV (As := [.int x2]) (rest := [.int x1]) ⟨hx, hb, hml, hown, hts⟩ (c10_isLate l G E μ _ _ _ hc3) (cwV 1 hts gX10_late_X10_isLate rfl rfl rfl (by decide +kernel) ⟨Nat.le_of_ble_eq_true rfl, Nat.le_of_ble_eq_true rfl⟩) (g_preV (ci := 10) hR hK (hR.2.2.2.2.1.1) rfl) rfl rfl hl.1 rfl (lv_room (Nat.le_of_ble_eq_true rfl)) dX10_late_18 ⟨by show _ ≤ 0; omega, by show _ ≤ 0; omega⟩) hS (fun w4 H locs hp hR hS => ?_)
        subst hp
        refine lv_if_eq (tgt := 28) hx hb dX10_late_21 (by decide) (fun c5 => ?_) (fun c5 => ?_)
        · replace hf := g_it hf c5
          refine lv_iconst (v := 0) hx hb dX10_late_28 (by decide) ?_
          refine lv_iadd hx hb dX10_late_29 ?_
          refine lv_topi (fun t6 et6 => ?_)
          replace hf := g_let_at hf et6
          refine lv_istore_n (lv' := [(1, .int t6), (0, .ref (G.2.2 + 54)), (2, .int x2)]) hx hb dX10_late_30 rfl hl (by decide) rfl (fun ls hl => ?_)
          refine lv_iinc (v := x2 + 1) (lv' := [(2, .int (x2 + 1)), (1, .int t6), (0, .ref (G.2.2 + 54))]) hx hb dX10_late_31 hl (k := 2) rfl rfl (by decide) rfl (fun ls hl => ?_)
          refine lv_goto (tgt := 4) hx hb dX10_late_34 (by decide) ?_
          exact ih _ _ _ _ _ _ hf  hR hS (lv_sub hl [2, 1, 0] rfl)
        · replace hf := g_if hf c5
          refine lv_iconst (v := 1) hx hb dX10_late_24 (by decide) ?_
          refine lv_goto (tgt := 29) hx hb dX10_late_25 (by decide) ?_
          refine lv_iadd hx hb dX10_late_29 ?_
          refine lv_topi (fun t7 et7 => ?_)
          replace hf := g_let_at hf et7
          refine lv_istore_n (lv' := [(1, .int t7), (0, .ref (G.2.2 + 54)), (2, .int x2)]) hx hb dX10_late_30 rfl hl (by decide) rfl (fun ls hl => ?_)
          refine lv_iinc (v := x2 + 1) (lv' := [(2, .int (x2 + 1)), (1, .int t7), (0, .ref (G.2.2 + 54))]) hx hb dX10_late_31 hl (k := 2) rfl rfl (by decide) rfl (fun ls hl => ?_)
          refine lv_goto (tgt := 4) hx hb dX10_late_34 (by decide) ?_
          exact ih _ _ _ _ _ _ hf  hR hS (lv_sub hl [2, 1, 0] rfl)
  unfold f10_late at hf
  refine lv_iconst (v := 0) hx hb dX10_late_0 (by decide) ?_
  refine lv_istore_n (lv' := [(1, .int (0 : Int32)), (0, .ref (G.2.2 + 54))]) hx hb dX10_late_1 rfl hl (by decide) rfl (fun ls hl => ?_)
  refine lv_iconst (v := 0) hx hb dX10_late_2 (by decide) ?_
  refine lv_istore_n (lv' := [(2, .int (0 : Int32)), (1, .int (0 : Int32)), (0, .ref (G.2.2 + 54))]) hx hb dX10_late_3 rfl hl (by decide) rfl (fun ls hl => ?_)
  exact hB4 70 _ _ _ _ _ _ hf  hR hS (lv_sub hl [2, 1, 0] rfl)
