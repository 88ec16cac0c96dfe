set_option maxHeartbeats 4000000 in
set_option maxRecDepth 100000 in
theorem c8_copyFrom (l : Launch) (G : gG) (E : gEn) (μ : gMu) (i : Nat) (hi : i < 7) (z0 : gSt) (j : Nat) (hj : j < 7) (hne : j ≠ i) (zo : gSt) (hf : f8_copyFrom z0 (μ.1 j) = some zo) : Met l yX8_copyFrom wsX8_copyFrom ({ frames := 2, cells := 0, slots := 0, locals := 43 } : Room) (g_Pre G E (g_setS μ i z0) [.ref (g_stA G i), .ref (g_stA G j)]) (g_Q G E (g_setS μ i zo) (fun E' v => E' = E ∧ v = none)) 0 0 (g_A G) := by
  refine Met.ofW (cc := cX8_copyFrom) (maxL := 2) (ret := none) (by decide) rfl ?_
  intro p e s m args below meth c s₁ B hml hv
  obtain ⟨rfl, hR, hK⟩ := hv
  have hx := B.exec
  have hb := B.bytes
  have hr := B.returns
  have hts := atoms_spec (ws := wsX8_copyFrom) B.pre
  have hown : s.vm.findClass RX8 = some m.cls := findClass_of_methodNamed B.named
  have hlocks := B.notSynchronized
  have hS : va_S (g_A G) s.heap s.heap [] := va_S.rf
  have hl := lv_entry ([.ref (g_stA G i), .ref (g_stA G j)]) (n := 2) (Nat.le_of_ble_eq_true rfl)
  rw [lg_entry_eq]
  generalize (lg_sl ([.ref (g_stA G i), .ref (g_stA G j)]) ++ List.replicate (2 - (lg_sl ([.ref (g_stA G i), .ref (g_stA G j)])).length) Slot.unset).toArray = ls at hl ⊢
  have hl : lv_has ls 2 [(0, .ref (g_stA G i)), (1, .ref (g_stA G j))] := hl
  have in_8 : ∀ w ∈ u_ws RX8 TX8 11, w ∈ wsX8_copyFrom := ifX8_copyFrom_8
  have l_12 := hts (.fieldLink RX8 12 "GlassRacks$State" "settings" "LGlassRacks$Settings;") (by decide +kernel)
  have l_21 := hts (.fieldLink RX8 21 "GlassRacks$State" "racks" "LGlassRacks$Racks;") (by decide +kernel)
  have l_28 := hts (.fieldLink RX8 28 "GlassRacks$State" "orders" "LGlassRacks$Orders;") (by decide +kernel)
  have l_39 := hts (.fieldLink RX8 39 "GlassRacks$State" "day" "I") (by decide +kernel)
  have l_43 := hts (.fieldLink RX8 43 "GlassRacks$State" "boughtArea" "I") (by decide +kernel)
  have l_46 := hts (.fieldLink RX8 46 "GlassRacks$State" "paneArea" "I") (by decide +kernel)
  have l_49 := hts (.fieldLink RX8 49 "GlassRacks$State" "scrapArea" "I") (by decide +kernel)
  have l_52 := hts (.fieldLink RX8 52 "GlassRacks$State" "brokenArea" "I") (by decide +kernel)
  have l_55 := hts (.fieldLink RX8 55 "GlassRacks$State" "lostArea" "I") (by decide +kernel)
  have l_58 := hts (.fieldLink RX8 58 "GlassRacks$State" "liftings" "I") (by decide +kernel)
  unfold f8_copyFrom at hf
  refine lv_aload_n hx hb dX8_copyFrom_0 rfl (lv_at hl 0 rfl) ?_
  refine g_get hx hb hts in_8 hown hK (hR.f hi).1 rfl 0 (by decide) l_12 rfl rfl dX8_copyFrom_1 ?_
  refine lv_aload_n hx hb dX8_copyFrom_4 rfl (lv_at hl 1 rfl) ?_
  refine g_get hx hb hts in_8 hown hK (hR.o hj hne).1 rfl 0 (by decide) l_12 rfl rfl dX8_copyFrom_5 ?_
  obtain ⟨z1, hc2, hf⟩ := g_b1_e hf
  refine g_call (va_runV (As := [.ref (g_stA G j + 1)]) (rest := []) ⟨hx, hb, hml, hown, hts⟩ (c6_copyFrom l G E μ i hi _ j hj hne _ hc2) (cwV 1 hts gX8_copyFrom_X6_copyFrom rfl rfl rfl (by decide +kernel) ⟨Nat.le_of_ble_eq_true rfl, Nat.le_of_ble_eq_true rfl⟩) (g_preV (ci := 6) hR hK ((hR.f hi).2.1) rfl) rfl rfl hl.1 rfl (lv_room (Nat.le_of_ble_eq_true rfl)) dX8_copyFrom_8 ⟨by show _ ≤ 0; omega, by show _ ≤ 0; omega⟩) hS (fun w3 H locs hp hR hS => ?_)
  subst hp
  refine lv_aload_n hx hb dX8_copyFrom_11 rfl (lv_at hl 0 rfl) ?_
  refine g_get hx hb hts in_8 hown hK (hR.f hi).1 rfl 1 (by decide) l_21 rfl rfl dX8_copyFrom_12 ?_
  refine lv_aload_n hx hb dX8_copyFrom_15 rfl (lv_at hl 1 rfl) ?_
  refine g_get hx hb hts in_8 hown hK (hR.o hj hne).1 rfl 1 (by decide) l_21 rfl rfl dX8_copyFrom_16 ?_
  obtain ⟨z4, hc5, hf⟩ := g_b1_e hf
  refine g_call (va_runV (As := [.ref (g_stA G j + 2)]) (rest := []) ⟨hx, hb, hml, hown, hts⟩ (c5_copyFrom l G E μ i hi _ j hj hne _ hc5) (cwV 1 hts gX8_copyFrom_X5_copyFrom rfl rfl rfl (by decide +kernel) ⟨Nat.le_of_ble_eq_true rfl, Nat.le_of_ble_eq_true rfl⟩) (g_preV (ci := 5) hR hK ((hR.f hi).2.2.1) rfl) rfl rfl hl.1 rfl (lv_room (Nat.le_of_ble_eq_true rfl)) dX8_copyFrom_19 ⟨by show _ ≤ 0; omega, by show _ ≤ 0; omega⟩) hS (fun w6 H locs hp hR hS => ?_)
  subst hp
  refine lv_aload_n hx hb dX8_copyFrom_22 rfl (lv_at hl 0 rfl) ?_
  refine g_get hx hb hts in_8 hown hK (hR.f hi).1 rfl 2 (by decide) l_28 rfl rfl dX8_copyFrom_23 ?_
  refine lv_aload_n hx hb dX8_copyFrom_26 rfl (lv_at hl 1 rfl) ?_
  refine g_get hx hb hts in_8 hown hK (hR.o hj hne).1 rfl 2 (by decide) l_28 rfl rfl dX8_copyFrom_27 ?_
  obtain ⟨z7, hc8, hf⟩ := g_b1_e hf
  refine g_call (va_runV (As := [.ref (g_stA G j + 4)]) (rest := []) ⟨hx, hb, hml, hown, hts⟩ (c4_copyFrom l G E μ i hi _ j hj hne _ hc8) (cwV 1 hts gX8_copyFrom_X4_copyFrom rfl rfl rfl (by decide +kernel) ⟨Nat.le_of_ble_eq_true rfl, Nat.le_of_ble_eq_true rfl⟩) (g_preV (ci := 4) hR hK ((hR.f hi).2.2.2.2.1) rfl) rfl rfl hl.1 rfl (lv_room (Nat.le_of_ble_eq_true rfl)) dX8_copyFrom_30 ⟨by show _ ≤ 0; omega, by show _ ≤ 0; omega⟩) hS (fun w9 H locs hp hR hS => ?_)
  subst hp
  refine lv_aload_n hx hb dX8_copyFrom_33 rfl (lv_at hl 0 rfl) ?_
  refine lv_aload_n hx hb dX8_copyFrom_34 rfl (lv_at hl 1 rfl) ?_
  refine g_get hx hb hts in_8 hown hK (hR.o hj hne).1 rfl 4 (by decide) l_39 rfl rfl dX8_copyFrom_35 ?_
  refine g_p8_4 hx hb hts in_8 hown hK hS hR hi l_39 dX8_copyFrom_38 (fun H locs hR hS => ?_)
  obtain ⟨z10, ez10, hf⟩ := g_let_e hf
  replace hR : g_R G E (g_setS μ i z10) H := by rw [ez10]; exact hR
  refine lv_aload_n hx hb dX8_copyFrom_41 rfl (lv_at hl 0 rfl) ?_
  refine lv_aload_n hx hb dX8_copyFrom_42 rfl (lv_at hl 1 rfl) ?_
  refine g_get hx hb hts in_8 hown hK (hR.o hj hne).1 rfl 5 (by decide) l_43 rfl rfl dX8_copyFrom_43 ?_
  refine g_p8_5 hx hb hts in_8 hown hK hS hR hi l_43 dX8_copyFrom_46 (fun H locs hR hS => ?_)
  obtain ⟨z11, ez11, hf⟩ := g_let_e hf
  replace hR : g_R G E (g_setS μ i z11) H := by rw [ez11]; exact hR
  refine lv_aload_n hx hb dX8_copyFrom_49 rfl (lv_at hl 0 rfl) ?_
  refine lv_aload_n hx hb dX8_copyFrom_50 rfl (lv_at hl 1 rfl) ?_
  refine g_get hx hb hts in_8 hown hK (hR.o hj hne).1 rfl 6 (by decide) l_46 rfl rfl dX8_copyFrom_51 ?_
  refine g_p8_6 hx hb hts in_8 hown hK hS hR hi l_46 dX8_copyFrom_54 (fun H locs hR hS => ?_)
  obtain ⟨z12, ez12, hf⟩ := g_let_e hf
  replace hR : g_R G E (g_setS μ i z12) H := by rw [ez12]; exact hR
  refine lv_aload_n hx hb dX8_copyFrom_57 rfl (lv_at hl 0 rfl) ?_
  refine lv_aload_n hx hb dX8_copyFrom_58 rfl (lv_at hl 1 rfl) ?_
  refine g_get hx hb hts in_8 hown hK (hR.o hj hne).1 rfl 7 (by decide) l_49 rfl rfl dX8_copyFrom_59 ?_
  refine g_p8_7 hx hb hts in_8 hown hK hS hR hi l_49 dX8_copyFrom_62 (fun H locs hR hS => ?_)
  obtain ⟨z13, ez13, hf⟩ := g_let_e hf
  replace hR : g_R G E (g_setS μ i z13) H := by rw [ez13]; exact hR
  refine lv_aload_n hx hb dX8_copyFrom_65 rfl (lv_at hl 0 rfl) ?_
  refine lv_aload_n hx hb dX8_copyFrom_66 rfl (lv_at hl 1 rfl) ?_
  refine g_get hx hb hts in_8 hown hK (hR.o hj hne).1 rfl 8 (by decide) l_52 rfl rfl dX8_copyFrom_67 ?_
  refine g_p8_8 hx hb hts in_8 hown hK hS hR hi l_52 dX8_copyFrom_70 (fun H locs hR hS => ?_)
  obtain ⟨z14, ez14, hf⟩ := g_let_e hf
  replace hR : g_R G E (g_setS μ i z14) H := by rw [ez14]; exact hR
  refine lv_aload_n hx hb dX8_copyFrom_73 rfl (lv_at hl 0 rfl) ?_
  refine lv_aload_n hx hb dX8_copyFrom_74 rfl (lv_at hl 1 rfl) ?_
  refine g_get hx hb hts in_8 hown hK (hR.o hj hne).1 rfl 9 (by decide) l_55 rfl rfl dX8_copyFrom_75 ?_
  refine g_p8_9 hx hb hts in_8 hown hK hS hR hi l_55 dX8_copyFrom_78 (fun H locs hR hS => ?_)
  obtain ⟨z15, ez15, hf⟩ := g_let_e hf
  replace hR : g_R G E (g_setS μ i z15) H := by rw [ez15]; exact hR
  refine lv_aload_n hx hb dX8_copyFrom_81 rfl (lv_at hl 0 rfl) ?_
  refine lv_aload_n hx hb dX8_copyFrom_82 rfl (lv_at hl 1 rfl) ?_
  refine g_get hx hb hts in_8 hown hK (hR.o hj hne).1 rfl 10 (by decide) l_58 rfl rfl dX8_copyFrom_83 ?_
  refine g_p8_10 hx hb hts in_8 hown hK hS hR hi l_58 dX8_copyFrom_86 (fun H locs hR hS => ?_)
  obtain ⟨z16, ez16, hf⟩ := g_let_e hf
  replace hR : g_R G E (g_setS μ i z16) H := by rw [ez16]; exact hR
  obtain rfl := g_s1 hf
  exact g_vret hx hb hlocks hr hS hR g_le.rf ⟨rfl, rfl⟩ (by omega) (by omega) dX8_copyFrom_89
set_option maxHeartbeats 4000000 in
set_option maxRecDepth 100000 in
theorem c8_breakSheet (l : Launch) (G : gG) (E : gEn) (μ : gMu) (i : Nat) (hi : i < 7) (z0 : gSt) (p1 : Int32) (zo : gSt) (hf : f8_breakSheet z0 p1 = some zo) : Met l yX8_breakSheet wsX8_breakSheet ({ frames := 1, cells := 0, slots := 0, locals := 23 } : Room) (g_Pre G E (g_setS μ i z0) [.ref (g_stA G i), .int p1]) (g_Q G E (g_setS μ i zo) (fun E' v => E' = E ∧ v = none)) 0 0 (g_A G) := by
  refine Met.ofW (cc := cX8_breakSheet) (maxL := 3) (ret := none) (by decide) rfl ?_
  intro p e s m args below meth c s₁ B hml hv
  obtain ⟨rfl, hR, hK⟩ := hv
  have hx := B.exec
  have hb := B.bytes
  have hr := B.returns
  have hts := atoms_spec (ws := wsX8_breakSheet) B.pre
  have hown : s.vm.findClass RX8 = some m.cls := findClass_of_methodNamed B.named
  have hlocks := B.notSynchronized
  have hS : va_S (g_A G) s.heap s.heap [] := va_S.rf
  have hl := lv_entry ([.ref (g_stA G i), .int p1]) (n := 3) (Nat.le_of_ble_eq_true rfl)
  rw [lg_entry_eq]
  generalize (lg_sl ([.ref (g_stA G i), .int p1]) ++ List.replicate (3 - (lg_sl ([.ref (g_stA G i), .int p1])).length) Slot.unset).toArray = ls at hl ⊢
  have hl : lv_has ls 3 [(0, .ref (g_stA G i)), (1, .int p1)] := hl
  have in_8 : ∀ w ∈ u_ws RX8 TX8 11, w ∈ wsX8_breakSheet := ifX8_breakSheet_8
  have l_21 := hts (.fieldLink RX8 21 "GlassRacks$State" "racks" "LGlassRacks$Racks;") (by decide +kernel)
  have l_52 := hts (.fieldLink RX8 52 "GlassRacks$State" "brokenArea" "I") (by decide +kernel)
  unfold f8_breakSheet at hf
  refine lv_aload_n hx hb dX8_breakSheet_0 rfl (lv_at hl 0 rfl) ?_
  refine g_get hx hb hts in_8 hown hK (hR.f hi).1 rfl 1 (by decide) l_21 rfl rfl dX8_breakSheet_1 ?_
  refine lv_iload_n hx hb dX8_breakSheet_4 rfl (lv_at hl 1 rfl) ?_
  obtain ⟨r1, hc2, hf⟩ := g_b1_e hf
  refine g_call (va_runV (As := [.int p1]) (rest := []) ⟨hx, hb, hml, hown, hts⟩ (c5_inSlot l G E μ i hi _ _ _ hc2) (cwV 1 hts gX8_breakSheet_X5_inSlot rfl rfl rfl (by decide +kernel) ⟨Nat.le_of_ble_eq_true rfl, Nat.le_of_ble_eq_true rfl⟩) (g_preV (ci := 5) hR hK ((hR.f hi).2.2.1) rfl) rfl rfl hl.1 rfl (lv_room (Nat.le_of_ble_eq_true rfl)) dX8_breakSheet_5 ⟨by show _ ≤ 0; omega, by show _ ≤ 0; omega⟩) hS (fun w3 H locs hp hR hS => ?_)
  obtain ⟨w4, rfl, hp⟩ := hp
  rcases r1 with _ | v6
  · replace hf := g_ocn hf rfl
    obtain rfl : w4 = .null := hp
    refine lv_astore_nN (lv' := [(2, .null), (0, .ref (g_stA G i)), (1, .int p1)]) hx hb dX8_breakSheet_8 rfl hl (by decide) rfl (fun ls hl => ?_)
    refine lv_aload_nN hx hb dX8_breakSheet_9 rfl (lv_at hl 0 rfl) ?_
    refine lv_ifnullN (tgt := 34) hx hb dX8_breakSheet_10 (by decide) ?_
    obtain rfl := g_s1 hf
    exact g_vret hx hb hlocks hr hS hR g_le.rf ⟨rfl, rfl⟩ (by omega) (by omega) dX8_breakSheet_34
  · replace hf := g_ocs hf rfl
    obtain ⟨a5, rfl, hE_a5⟩ := hp
    refine lv_astore_n (lv' := [(2, .ref a5), (0, .ref (g_stA G i)), (1, .int p1)]) hx hb dX8_breakSheet_8 rfl hl (by decide) rfl (fun ls hl => ?_)
    refine lv_aload_n hx hb dX8_breakSheet_9 rfl (lv_at hl 0 rfl) ?_
    refine lv_ifnull hx hb dX8_breakSheet_10 ?_
    refine lv_aload_n hx hb dX8_breakSheet_13 rfl (lv_at hl 1 rfl) ?_
    refine lv_dup hx hb dX8_breakSheet_14 rfl ?_
    refine g_get hx hb hts in_8 hown hK (hR.f hi).1 rfl 8 (by decide) l_52 rfl rfl dX8_breakSheet_15 ?_
    refine lv_aload_n hx hb dX8_breakSheet_18 rfl (lv_at hl 0 rfl) ?_
    obtain ⟨r7, hc8, hf⟩ := g_b1_e hf
    refine g_call (va_runV (As := []) (rest := [.int (z0.1 9), .ref (g_stA G i)]) ⟨hx, hb, hml, hown, hts⟩ (c7_area l G E (g_setS μ i z0) _ _ hE_a5 _ hc8) (cwV 0 hts gX8_breakSheet_X7_area rfl rfl rfl (by decide +kernel) ⟨Nat.le_of_ble_eq_true rfl, Nat.le_of_ble_eq_true rfl⟩) (g_preV (ci := 7) hR hK ((hR.2.2.2.2.2 _ _ hE_a5).2) rfl) rfl rfl hl.1 rfl (lv_room (Nat.le_of_ble_eq_true rfl)) dX8_breakSheet_19 ⟨by show _ ≤ 0; omega, by show _ ≤ 0; omega⟩) hS (fun w9 H locs hp hR hS => ?_)
    subst hp
    refine lv_iadd hx hb dX8_breakSheet_22 ?_
    refine g_p8_8 hx hb hts in_8 hown hK hS hR hi l_52 dX8_breakSheet_23 (fun H locs hR hS => ?_)
    obtain ⟨z10, ez10, hf⟩ := g_let_e hf
    replace hR : g_R G E (g_setS μ i z10) H := by rw [ez10]; exact hR
    refine lv_aload_n hx hb dX8_breakSheet_26 rfl (lv_at hl 1 rfl) ?_
    refine g_get hx hb hts in_8 hown hK (hR.f hi).1 rfl 1 (by decide) l_21 rfl rfl dX8_breakSheet_27 ?_
    refine lv_iload_n hx hb dX8_breakSheet_30 rfl (lv_at hl 2 rfl) ?_
    obtain ⟨z11, hc12, hf⟩ := g_b1_e hf
    refine g_call (va_runV (As := [.int p1]) (rest := []) ⟨hx, hb, hml, hown, hts⟩ (c5_removeFrom l G E μ i hi _ _ _ hc12) (cwV 1 hts gX8_breakSheet_X5_removeFrom rfl rfl rfl (by decide +kernel) ⟨Nat.le_of_ble_eq_true rfl, Nat.le_of_ble_eq_true rfl⟩) (g_preV (ci := 5) hR hK ((hR.f hi).2.2.1) rfl) rfl rfl hl.1 rfl (lv_room (Nat.le_of_ble_eq_true rfl)) dX8_breakSheet_31 ⟨by show _ ≤ 0; omega, by show _ ≤ 0; omega⟩) hS (fun w13 H locs hp hR hS => ?_)
    subst hp
    obtain rfl := g_s1 hf
    exact g_vret hx hb hlocks hr hS hR g_le.rf ⟨rfl, rfl⟩ (by omega) (by omega) dX8_breakSheet_34
set_option maxHeartbeats 4000000 in
set_option maxRecDepth 100000 in
theorem c8_buySheet (l : Launch) (G : gG) (E : gEn) (μ : gMu) (i : Nat) (hi : i < 7) (z0 : gSt) (p1 : Int32) (p2 : Int32) (p3 : Int32) (p4 : Int32) (ro : Int32) (zo : gSt) (hf : f8_buySheet z0 p1 p2 p3 p4 = some (ro, zo)) : Met l yX8_buySheet wsX8_buySheet ({ frames := 3, cells := 1, slots := 5, locals := 67 } : Room) (g_Pre G E (g_setS μ i z0) [.ref (g_stA G i), .int p1, .int p2, .int p3, .int p4]) (g_Q G E (g_setS μ i zo) (fun E' v => v = some (.int ro))) 1 5 (g_A G) := by
  refine Met.ofW (cc := cX8_buySheet) (maxL := 5) (ret := some .int) (by decide) rfl ?_
  intro p e s m args below meth c s₁ B hml hv
  obtain ⟨rfl, hR, hK⟩ := hv
  have hx := B.exec
  have hb := B.bytes
  have hr := B.returns
  have hts := atoms_spec (ws := wsX8_buySheet) B.pre
  have hown : s.vm.findClass RX8 = some m.cls := findClass_of_methodNamed B.named
  have hlocks := B.notSynchronized
  have hS : va_S (g_A G) s.heap s.heap [] := va_S.rf
  have hl := lv_entry ([.ref (g_stA G i), .int p1, .int p2, .int p3, .int p4]) (n := 5) (Nat.le_of_ble_eq_true rfl)
  rw [lg_entry_eq]
  generalize (lg_sl ([.ref (g_stA G i), .int p1, .int p2, .int p3, .int p4]) ++ List.replicate (5 - (lg_sl ([.ref (g_stA G i), .int p1, .int p2, .int p3, .int p4])).length) Slot.unset).toArray = ls at hl ⊢
  have hl : lv_has ls 5 [(0, .ref (g_stA G i)), (1, .int p1), (2, .int p2), (3, .int p3), (4, .int p4)] := hl
  have in_8 : ∀ w ∈ u_ws RX8 TX8 11, w ∈ wsX8_buySheet := ifX8_buySheet_8
  have l_21 := hts (.fieldLink RX8 21 "GlassRacks$State" "racks" "LGlassRacks$Racks;") (by decide +kernel)
  have l_43 := hts (.fieldLink RX8 43 "GlassRacks$State" "boughtArea" "I") (by decide +kernel)
  have k_71 : va_Nw (.methodLinkNest RX8 71 yX9_isRack "GlassRacks") s := hK.2 (RX8, 71, yX9_isRack) (by decide +kernel)
  have k2_71 := hts (.initialized RX9) (by decide +kernel)
  have k3_71 := hts (.static yX9_isRack) (by decide +kernel)
  have k_75 : va_Nw (.methodLinkNest RX8 75 yX9_isSort "GlassRacks") s := hK.2 (RX8, 75, yX9_isSort) (by decide +kernel)
  have k2_75 := hts (.initialized RX9) (by decide +kernel)
  have k3_75 := hts (.static yX9_isSort) (by decide +kernel)
  have k_78 : va_Nw (.methodLinkNest RX8 78 yX9_isSide "GlassRacks") s := hK.2 (RX8, 78, yX9_isSide) (by decide +kernel)
  have k2_78 := hts (.initialized RX9) (by decide +kernel)
  have k3_78 := hts (.static yX9_isSide) (by decide +kernel)
  unfold f8_buySheet at hf
  refine lv_iload_n hx hb dX8_buySheet_0 rfl (lv_at hl 1 rfl) ?_
  obtain ⟨r1, hc2, hf⟩ := g_b1_e hf
  refine g_call (va_runSN (As := [.int p1]) (rest := []) ⟨hx, hb, hml, hown, hts⟩ (c9_isRack l G E (g_setS μ i z0) _ _ hc2) ⟨va_cnB 1 hts gX8_buySheet_X9_isRack_n71 rfl rfl rfl k_71 k2_71 (by decide +kernel) ⟨Nat.le_of_ble_eq_true rfl, Nat.le_of_ble_eq_true rfl⟩, k3_71, trivial⟩ (g_pre hR hK) rfl rfl hl.1 rfl (lv_room (Nat.le_of_ble_eq_true rfl)) dX8_buySheet_1 ⟨by show _ ≤ 1; omega, by show _ ≤ 5; omega⟩) hS (fun w3 H locs hp hR hS => ?_)
  subst hp
  refine lv_if_eq (tgt := 14) hx hb dX8_buySheet_4 (by decide) (fun c4 => ?_) (fun c4 => ?_)
  · replace hf := g_it hf c4
    refine lv_iconst (v := -1) hx hb dX8_buySheet_14 (by decide) ?_
    obtain ⟨rfl, rfl⟩ := g_sp hf
    exact g_iret hx hb hlocks hr hS hR g_le.rf rfl (by omega) (by omega) dX8_buySheet_15
  · replace hf := g_if hf c4
    refine lv_iload_n hx hb dX8_buySheet_7 rfl (lv_at hl 2 rfl) ?_
    obtain ⟨r5, hc6, hf⟩ := g_b1_e hf
    refine g_call (va_runSN (As := [.int p2]) (rest := []) ⟨hx, hb, hml, hown, hts⟩ (c9_isSort l G E (g_setS μ i z0) _ _ hc6) ⟨va_cnB 1 hts gX8_buySheet_X9_isSort_n75 rfl rfl rfl k_75 k2_75 (by decide +kernel) ⟨Nat.le_of_ble_eq_true rfl, Nat.le_of_ble_eq_true rfl⟩, k3_75, trivial⟩ (g_pre hR hK) rfl rfl hl.1 rfl (lv_room (Nat.le_of_ble_eq_true rfl)) dX8_buySheet_8 ⟨by show _ ≤ 1; omega, by show _ ≤ 5; omega⟩) hS (fun w7 H locs hp hR hS => ?_)
    subst hp
    refine lv_if_ne (tgt := 16) hx hb dX8_buySheet_11 (by decide) (fun c8 => ?_) (fun c8 => ?_)
    · replace hf := g_it hf c8
      refine lv_iload_n hx hb dX8_buySheet_16 rfl (lv_at hl 3 rfl) ?_
      obtain ⟨r9, hc10, hf⟩ := g_b1_e hf
      refine g_call (va_runSN (As := [.int p3]) (rest := []) ⟨hx, hb, hml, hown, hts⟩ (c9_isSide l G E (g_setS μ i z0) _ _ hc10) ⟨va_cnB 1 hts gX8_buySheet_X9_isSide_n78 rfl rfl rfl k_78 k2_78 (by decide +kernel) ⟨Nat.le_of_ble_eq_true rfl, Nat.le_of_ble_eq_true rfl⟩, k3_78, trivial⟩ (g_pre hR hK) rfl rfl hl.1 rfl (lv_room (Nat.le_of_ble_eq_true rfl)) dX8_buySheet_17 ⟨by show _ ≤ 1; omega, by show _ ≤ 5; omega⟩) hS (fun w11 H locs hp hR hS => ?_)
      subst hp
      refine lv_if_eq (tgt := 31) hx hb dX8_buySheet_20 (by decide) (fun c12 => ?_) (fun c12 => ?_)
      · replace hf := g_it hf c12
        refine lv_bipush (v := -2) hx hb dX8_buySheet_31 (by decide) ?_
        obtain ⟨rfl, rfl⟩ := g_sp hf
        exact g_iret hx hb hlocks hr hS hR g_le.rf rfl (by omega) (by omega) dX8_buySheet_33
      · replace hf := g_if hf c12
        refine lv_iload hx hb dX8_buySheet_23 (lv_at hl 4 rfl) ?_
        obtain ⟨r13, hc14, hf⟩ := g_b1_e hf
        refine g_call (va_runSN (As := [.int p4]) (rest := []) ⟨hx, hb, hml, hown, hts⟩ (c9_isSide l G E (g_setS μ i z0) _ _ hc14) ⟨va_cnB 1 hts gX8_buySheet_X9_isSide_n78 rfl rfl rfl k_78 k2_78 (by decide +kernel) ⟨Nat.le_of_ble_eq_true rfl, Nat.le_of_ble_eq_true rfl⟩, k3_78, trivial⟩ (g_pre hR hK) rfl rfl hl.1 rfl (lv_room (Nat.le_of_ble_eq_true rfl)) dX8_buySheet_25 ⟨by show _ ≤ 1; omega, by show _ ≤ 5; omega⟩) hS (fun w15 H locs hp hR hS => ?_)
        subst hp
        refine lv_if_ne (tgt := 34) hx hb dX8_buySheet_28 (by decide) (fun c16 => ?_) (fun c16 => ?_)
        · replace hf := g_it hf c16
          refine lv_aload_n hx hb dX8_buySheet_34 rfl (lv_at hl 0 rfl) ?_
          refine g_get hx hb hts in_8 hown hK (hR.f hi).1 rfl 1 (by decide) l_21 rfl rfl dX8_buySheet_35 ?_
          refine lv_iload_n hx hb dX8_buySheet_38 rfl (lv_at hl 1 rfl) ?_
          obtain ⟨r17, hc18, hf⟩ := g_b1_e hf
          refine g_call (va_runV (As := [.int p1]) (rest := []) ⟨hx, hb, hml, hown, hts⟩ (c5_hasRoom l G E μ i hi _ _ _ hc18) (cwV 1 hts gX8_buySheet_X5_hasRoom rfl rfl rfl (by decide +kernel) ⟨Nat.le_of_ble_eq_true rfl, Nat.le_of_ble_eq_true rfl⟩) (g_preV (ci := 5) hR hK ((hR.f hi).2.2.1) rfl) rfl rfl hl.1 rfl (lv_room (Nat.le_of_ble_eq_true rfl)) dX8_buySheet_39 ⟨by show _ ≤ 1; omega, by show _ ≤ 5; omega⟩) hS (fun w19 H locs hp hR hS => ?_)
          subst hp
          refine lv_if_ne (tgt := 48) hx hb dX8_buySheet_42 (by decide) (fun c20 => ?_) (fun c20 => ?_)
          · replace hf := g_it hf c20
            refine lv_aload_n hx hb dX8_buySheet_48 rfl (lv_at hl 0 rfl) ?_
            refine lv_dup hx hb dX8_buySheet_49 rfl ?_
            refine g_get hx hb hts in_8 hown hK (hR.f hi).1 rfl 5 (by decide) l_43 rfl rfl dX8_buySheet_50 ?_
            refine lv_iload_n hx hb dX8_buySheet_53 rfl (lv_at hl 3 rfl) ?_
            refine lv_iload hx hb dX8_buySheet_54 (lv_at hl 4 rfl) ?_
            refine lv_imul hx hb dX8_buySheet_56 ?_
            refine lv_iadd hx hb dX8_buySheet_57 ?_
            refine g_p8_5 hx hb hts in_8 hown hK hS hR hi l_43 dX8_buySheet_58 (fun H locs hR hS => ?_)
            obtain ⟨z21, ez21, hf⟩ := g_let_e hf
            replace hR : g_R G E (g_setS μ i z21) H := by rw [ez21]; exact hR
            refine lv_aload_n hx hb dX8_buySheet_61 rfl (lv_at hl 0 rfl) ?_
            refine g_get hx hb hts in_8 hown hK (hR.f hi).1 rfl 1 (by decide) l_21 rfl rfl dX8_buySheet_62 ?_
            refine lv_iload_n hx hb dX8_buySheet_65 rfl (lv_at hl 1 rfl) ?_
            refine lv_iload_n hx hb dX8_buySheet_66 rfl (lv_at hl 2 rfl) ?_
            refine lv_iload_n hx hb dX8_buySheet_67 rfl (lv_at hl 3 rfl) ?_
            refine lv_iload hx hb dX8_buySheet_68 (lv_at hl 4 rfl) ?_
            refine lv_bipush (v := -5) hx hb dX8_buySheet_70 (by decide) ?_
            obtain ⟨r22, z23, hc24, hf⟩ := g_bd_e hf
            refine g_calln (va_runV (As := [.int p1, .int p2, .int p3, .int p4, .int (-5 : Int32)]) (rest := []) ⟨hx, hb, hml, hown, hts⟩ (c5_addNew l G E μ i hi _ _ _ _ _ _ _ _ hc24) (cwV 5 hts gX8_buySheet_X5_addNew rfl rfl rfl (by decide +kernel) ⟨Nat.le_of_ble_eq_true rfl, Nat.le_of_ble_eq_true rfl⟩) (g_preV (ci := 5) hR hK ((hR.f hi).2.2.1) rfl) rfl rfl hl.1 rfl (lv_room (Nat.le_of_ble_eq_true rfl)) dX8_buySheet_72 ⟨by show _ ≤ 1; omega, by show _ ≤ 5; omega⟩) hS (fun w25 E26 H locs hp hle27 hR hS => ?_)
            subst hp
            obtain ⟨rfl, rfl⟩ := g_sp hf
            exact g_iret hx hb hlocks hr hS hR ((g_le.rf).tr hle27) rfl (by omega) (by omega) dX8_buySheet_75
          · replace hf := g_if hf (fun q => q c20)
            refine lv_bipush (v := -3) hx hb dX8_buySheet_45 (by decide) ?_
            obtain ⟨rfl, rfl⟩ := g_sp hf
            exact g_iret hx hb hlocks hr hS hR g_le.rf rfl (by omega) (by omega) dX8_buySheet_47
        · replace hf := g_if hf (fun q => q c16)
          refine lv_bipush (v := -2) hx hb dX8_buySheet_31 (by decide) ?_
          obtain ⟨rfl, rfl⟩ := g_sp hf
          exact g_iret hx hb hlocks hr hS hR g_le.rf rfl (by omega) (by omega) dX8_buySheet_33
    · replace hf := g_if hf (fun q => q c8)
      refine lv_iconst (v := -1) hx hb dX8_buySheet_14 (by decide) ?_
      obtain ⟨rfl, rfl⟩ := g_sp hf
      exact g_iret hx hb hlocks hr hS hR g_le.rf rfl (by omega) (by omega) dX8_buySheet_15
set_option maxHeartbeats 4000000 in
set_option maxRecDepth 100000 in
theorem c8_cancelOrder (l : Launch) (G : gG) (E : gEn) (μ : gMu) (i : Nat) (hi : i < 7) (z0 : gSt) (p1 : Int32) (ro : Int32) (zo : gSt) (hf : f8_cancelOrder z0 p1 = some (ro, zo)) : Met l yX8_cancelOrder wsX8_cancelOrder ({ frames := 3, cells := 1, slots := 8, locals := 62 } : Room) (g_Pre G E (g_setS μ i z0) [.ref (g_stA G i), .int p1]) (g_Q G E (g_setS μ i zo) (fun E' v => v = some (.int ro))) 1 8 (g_A G) := by
  refine Met.ofW (cc := cX8_cancelOrder) (maxL := 3) (ret := some .int) (by decide) rfl ?_
  intro p e s m args below meth c s₁ B hml hv
  obtain ⟨rfl, hR, hK⟩ := hv
  have hx := B.exec
  have hb := B.bytes
  have hr := B.returns
  have hts := atoms_spec (ws := wsX8_cancelOrder) B.pre
  have hown : s.vm.findClass RX8 = some m.cls := findClass_of_methodNamed B.named
  have hlocks := B.notSynchronized
  have hS : va_S (g_A G) s.heap s.heap [] := va_S.rf
  have hl := lv_entry ([.ref (g_stA G i), .int p1]) (n := 3) (Nat.le_of_ble_eq_true rfl)
  rw [lg_entry_eq]
  generalize (lg_sl ([.ref (g_stA G i), .int p1]) ++ List.replicate (3 - (lg_sl ([.ref (g_stA G i), .int p1])).length) Slot.unset).toArray = ls at hl ⊢
  have hl : lv_has ls 3 [(0, .ref (g_stA G i)), (1, .int p1)] := hl
  have in_8 : ∀ w ∈ u_ws RX8 TX8 11, w ∈ wsX8_cancelOrder := ifX8_cancelOrder_8
  have l_28 := hts (.fieldLink RX8 28 "GlassRacks$State" "orders" "LGlassRacks$Orders;") (by decide +kernel)
  unfold f8_cancelOrder at hf
  refine lv_aload_n hx hb dX8_cancelOrder_0 rfl (lv_at hl 0 rfl) ?_
  refine g_get hx hb hts in_8 hown hK (hR.f hi).1 rfl 2 (by decide) l_28 rfl rfl dX8_cancelOrder_1 ?_
  refine lv_iload_n hx hb dX8_cancelOrder_4 rfl (lv_at hl 1 rfl) ?_
  obtain ⟨r1, hc2, hf⟩ := g_b1_e hf
  refine g_call (va_runV (As := [.int p1]) (rest := []) ⟨hx, hb, hml, hown, hts⟩ (c4_numbered l G E μ i hi _ _ _ hc2) (cwV 1 hts gX8_cancelOrder_X4_numbered rfl rfl rfl (by decide +kernel) ⟨Nat.le_of_ble_eq_true rfl, Nat.le_of_ble_eq_true rfl⟩) (g_preV (ci := 4) hR hK ((hR.f hi).2.2.2.2.1) rfl) rfl rfl hl.1 rfl (lv_room (Nat.le_of_ble_eq_true rfl)) dX8_cancelOrder_5 ⟨by show _ ≤ 1; omega, by show _ ≤ 8; omega⟩) hS (fun w3 H locs hp hR hS => ?_)
  obtain ⟨w4, rfl, hp⟩ := hp
  rcases r1 with _ | v6
  · replace hf := g_ocn hf rfl
    obtain rfl : w4 = .null := hp
    refine lv_astore_nN (lv' := [(2, .null), (0, .ref (g_stA G i)), (1, .int p1)]) hx hb dX8_cancelOrder_8 rfl hl (by decide) rfl (fun ls hl => ?_)
    refine lv_aload_nN hx hb dX8_cancelOrder_9 rfl (lv_at hl 0 rfl) ?_
    refine lv_ifnonnullN hx hb dX8_cancelOrder_10 ?_
    refine lv_iconst (v := -1) hx hb dX8_cancelOrder_13 (by decide) ?_
    obtain ⟨rfl, rfl⟩ := g_sp hf
    exact g_iret hx hb hlocks hr hS hR g_le.rf rfl (by omega) (by omega) dX8_cancelOrder_14
  · replace hf := g_ocs hf rfl
    obtain ⟨a5, rfl, hE_a5⟩ := hp
    refine lv_astore_n (lv' := [(2, .ref a5), (0, .ref (g_stA G i)), (1, .int p1)]) hx hb dX8_cancelOrder_8 rfl hl (by decide) rfl (fun ls hl => ?_)
    refine lv_aload_n hx hb dX8_cancelOrder_9 rfl (lv_at hl 0 rfl) ?_
    refine lv_ifnonnull (tgt := 15) hx hb dX8_cancelOrder_10 (by decide) ?_
    refine lv_aload_n hx hb dX8_cancelOrder_15 rfl (lv_at hl 0 rfl) ?_
    obtain ⟨r7, hc8, hf⟩ := g_b1_e hf
    refine g_call (va_runV (As := []) (rest := []) ⟨hx, hb, hml, hown, hts⟩ (c3_isOpen l G E (g_setS μ i z0) _ _ hE_a5 _ hc8) (cwV 0 hts gX8_cancelOrder_X3_isOpen rfl rfl rfl (by decide +kernel) ⟨Nat.le_of_ble_eq_true rfl, Nat.le_of_ble_eq_true rfl⟩) (g_preV (ci := 3) hR hK ((hR.2.2.2.2.2 _ _ hE_a5).2) rfl) rfl rfl hl.1 rfl (lv_room (Nat.le_of_ble_eq_true rfl)) dX8_cancelOrder_16 ⟨by show _ ≤ 1; omega, by show _ ≤ 8; omega⟩) hS (fun w9 H locs hp hR hS => ?_)
    subst hp
    refine lv_if_ne (tgt := 25) hx hb dX8_cancelOrder_19 (by decide) (fun c10 => ?_) (fun c10 => ?_)
    · replace hf := g_it hf c10
      refine lv_aload_n hx hb dX8_cancelOrder_25 rfl (lv_at hl 1 rfl) ?_
      refine g_get hx hb hts in_8 hown hK (hR.f hi).1 rfl 2 (by decide) l_28 rfl rfl dX8_cancelOrder_26 ?_
      refine lv_aload_n hx hb dX8_cancelOrder_29 rfl (lv_at hl 0 rfl) ?_
      obtain ⟨r11, hc12, hf⟩ := g_b1_e hf
      refine g_calln (va_runV (As := []) (rest := [.ref (g_stA G i + 4)]) ⟨hx, hb, hml, hown, hts⟩ (c3_asCancelled l G E (g_setS μ i z0) _ _ hE_a5 _ hc12) (cwV 0 hts gX8_cancelOrder_X3_asCancelled rfl rfl rfl (by decide +kernel) ⟨Nat.le_of_ble_eq_true rfl, Nat.le_of_ble_eq_true rfl⟩) (g_preV (ci := 3) hR hK ((hR.2.2.2.2.2 _ _ hE_a5).2) rfl) rfl rfl hl.1 rfl (lv_room (Nat.le_of_ble_eq_true rfl)) dX8_cancelOrder_30 ⟨by show _ ≤ 1; omega, by show _ ≤ 8; omega⟩) hS (fun w13 E14 H locs hp hle15 hR hS => ?_)
      have hE_a5 := hle15 _ _ hE_a5
      obtain ⟨a16, rfl, hE_a16⟩ := hp
      obtain ⟨z17, hc18, hf⟩ := g_b1_e hf
      refine g_call (va_runV (As := [.ref a16]) (rest := []) ⟨hx, hb, hml, hown, hts⟩ (c4_replace l G E14 μ i hi _ _ _ hE_a16 _ hc18) (cwV 1 hts gX8_cancelOrder_X4_replace rfl rfl rfl (by decide +kernel) ⟨Nat.le_of_ble_eq_true rfl, Nat.le_of_ble_eq_true rfl⟩) (g_preV (ci := 4) hR hK ((hR.f hi).2.2.2.2.1) rfl) rfl rfl hl.1 rfl (lv_room (Nat.le_of_ble_eq_true rfl)) dX8_cancelOrder_33 ⟨by show _ ≤ 1; omega, by show _ ≤ 8; omega⟩) hS (fun w19 H locs hp hR hS => ?_)
      subst hp
      refine lv_aload_n hx hb dX8_cancelOrder_36 rfl (lv_at hl 1 rfl) ?_
      refine g_get hx hb hts in_8 hown hK (hR.f hi).1 rfl 2 (by decide) l_28 rfl rfl dX8_cancelOrder_37 ?_
      obtain ⟨r20, hc21, hf⟩ := g_b1_e hf
      refine g_call (va_runV (As := []) (rest := []) ⟨hx, hb, hml, hown, hts⟩ (c4_openOnes l G E14 μ i hi _ _ hc21) (cwV 0 hts gX8_cancelOrder_X4_openOnes rfl rfl rfl (by decide +kernel) ⟨Nat.le_of_ble_eq_true rfl, Nat.le_of_ble_eq_true rfl⟩) (g_preV (ci := 4) hR hK ((hR.f hi).2.2.2.2.1) rfl) rfl rfl hl.1 rfl (lv_room (Nat.le_of_ble_eq_true rfl)) dX8_cancelOrder_40 ⟨by show _ ≤ 1; omega, by show _ ≤ 8; omega⟩) hS (fun w22 H locs hp hR hS => ?_)
      subst hp
      obtain ⟨rfl, rfl⟩ := g_sp hf
      exact g_iret hx hb hlocks hr hS hR ((g_le.rf).tr hle15) rfl (by omega) (by omega) dX8_cancelOrder_43
    · replace hf := g_if hf (fun q => q c10)
      refine lv_bipush (v := -4) hx hb dX8_cancelOrder_22 (by decide) ?_
      obtain ⟨rfl, rfl⟩ := g_sp hf
      exact g_iret hx hb hlocks hr hS hR g_le.rf rfl (by omega) (by omega) dX8_cancelOrder_24
set_option maxHeartbeats 4000000 in
set_option maxRecDepth 100000 in
theorem c8_measureOf (l : Launch) (G : gG) (E : gEn) (μ : gMu) (i : Nat) (hi : i < 7) (z0 : gSt) (a1 : Nat) (v1 : gSh) (hE_a1 : E a1 = some (.inl v1)) (p2 : Int32) (p3 : Int32) (ro : Int32) (hf : f8_measureOf z0 v1 p2 p3 = some ro) : Met l yX8_measureOf wsX8_measureOf ({ frames := 2, cells := 0, slots := 0, locals := 44 } : Room) (g_Pre G E (g_setS μ i z0) [.ref (g_stA G i), .ref a1, .int p2, .int p3]) (g_Q G E (g_setS μ i z0) (fun E' v => E' = E ∧ v = some (.int ro))) 0 0 (g_A G) := by
  refine Met.ofW (cc := cX8_measureOf) (maxL := 4) (ret := some .int) (by decide) rfl ?_
  intro p e s m args below meth c s₁ B hml hv
  obtain ⟨rfl, hR, hK⟩ := hv
  have hx := B.exec
  have hb := B.bytes
  have hr := B.returns
  have hts := atoms_spec (ws := wsX8_measureOf) B.pre
  have hown : s.vm.findClass RX8 = some m.cls := findClass_of_methodNamed B.named
  have hlocks := B.notSynchronized
  have hS : va_S (g_A G) s.heap s.heap [] := va_S.rf
  have hl := lv_entry ([.ref (g_stA G i), .ref a1, .int p2, .int p3]) (n := 4) (Nat.le_of_ble_eq_true rfl)
  rw [lg_entry_eq]
  generalize (lg_sl ([.ref (g_stA G i), .ref a1, .int p2, .int p3]) ++ List.replicate (4 - (lg_sl ([.ref (g_stA G i), .ref a1, .int p2, .int p3])).length) Slot.unset).toArray = ls at hl ⊢
  have hl : lv_has ls 4 [(0, .ref (g_stA G i)), (1, .ref a1), (2, .int p2), (3, .int p3)] := hl
  have in_1 : ∀ w ∈ u_ws RX1 TX1 10, w ∈ wsX8_measureOf := ifX8_measureOf_1
  have in_8 : ∀ w ∈ u_ws RX8 TX8 11, w ∈ wsX8_measureOf := ifX8_measureOf_8
  have l_170 := hts (.fieldLink RX8 170 "GlassRacks$Cutting" "scrapArea" "I") (by decide +kernel)
  have l_21 := hts (.fieldLink RX8 21 "GlassRacks$State" "racks" "LGlassRacks$Racks;") (by decide +kernel)
  have l_35 := hts (.fieldLink RX8 35 "GlassRacks$State" "cutting" "LGlassRacks$Cutting;") (by decide +kernel)
  unfold f8_measureOf at hf
  refine lv_iload_n hx hb dX8_measureOf_0 rfl (lv_at hl 3 rfl) ?_
  by_cases hc1_0 : p3 = (0 : Int32)
  · replace hf := g_it hf hc1_0
    refine lv_lookup (off := 27) (tgt := 28) hx hb dX8_measureOf_1 (by decide) (by rw [hc1_0]; rfl) (by decide) ?_
    refine lv_aload_n hx hb dX8_measureOf_28 rfl (lv_at hl 1 rfl) ?_
    obtain ⟨r1, hc2, hf⟩ := g_b1_e hf
    refine g_call (va_runV (As := []) (rest := []) ⟨hx, hb, hml, hown, hts⟩ (c7_area l G E (g_setS μ i z0) _ _ hE_a1 _ hc2) (cwV 0 hts gX8_measureOf_X7_area rfl rfl rfl (by decide +kernel) ⟨Nat.le_of_ble_eq_true rfl, Nat.le_of_ble_eq_true rfl⟩) (g_preV (ci := 7) hR hK ((hR.2.2.2.2.2 _ _ hE_a1).2) rfl) rfl rfl hl.1 rfl (lv_room (Nat.le_of_ble_eq_true rfl)) dX8_measureOf_29 ⟨by show _ ≤ 0; omega, by show _ ≤ 0; omega⟩) hS (fun w3 H locs hp hR hS => ?_)
    subst hp
    obtain rfl := g_s1 hf
    exact g_iret hx hb hlocks hr hS hR g_le.rf ⟨rfl, rfl⟩ (by omega) (by omega) dX8_measureOf_32
  · replace hf := g_if hf hc1_0
    by_cases hc2_1 : p3 = (1 : Int32)
    · replace hf := g_it hf hc2_1
      refine lv_lookup (off := 32) (tgt := 33) hx hb dX8_measureOf_1 (by decide) (by rw [hc2_1]; rfl) (by decide) ?_
      refine lv_aload_n hx hb dX8_measureOf_33 rfl (lv_at hl 0 rfl) ?_
      refine g_get hx hb hts in_8 hown hK (hR.f hi).1 rfl 1 (by decide) l_21 rfl rfl dX8_measureOf_34 ?_
      refine lv_iload_n hx hb dX8_measureOf_37 rfl (lv_at hl 2 rfl) ?_
      obtain ⟨r4, hc5, hf⟩ := g_b1_e hf
      refine g_call (va_runV (As := [.int p2]) (rest := []) ⟨hx, hb, hml, hown, hts⟩ (c5_sheetsBefore l G E μ i hi _ _ _ hc5) (cwV 1 hts gX8_measureOf_X5_sheetsBefore rfl rfl rfl (by decide +kernel) ⟨Nat.le_of_ble_eq_true rfl, Nat.le_of_ble_eq_true rfl⟩) (g_preV (ci := 5) hR hK ((hR.f hi).2.2.1) rfl) rfl rfl hl.1 rfl (lv_room (Nat.le_of_ble_eq_true rfl)) dX8_measureOf_38 ⟨by show _ ≤ 0; omega, by show _ ≤ 0; omega⟩) hS (fun w6 H locs hp hR hS => ?_)
      subst hp
      obtain rfl := g_s1 hf
      exact g_iret hx hb hlocks hr hS hR g_le.rf ⟨rfl, rfl⟩ (by omega) (by omega) dX8_measureOf_41
    · replace hf := g_if hf hc2_1
      refine lv_lookup (off := 41) (tgt := 42) hx hb dX8_measureOf_1 (by decide) (by show Op.lookupswitch.offset [(0, 27), (1, 32)] _ _ = _; rw [lv_osw (a := 0) hc1_0 (by decide), lv_osw (a := 1) hc2_1 (by decide)]; rfl) (by decide) ?_
      refine lv_aload_n hx hb dX8_measureOf_42 rfl (lv_at hl 0 rfl) ?_
      refine g_get hx hb hts in_8 hown hK (hR.f hi).1 rfl 3 (by decide) l_35 rfl rfl dX8_measureOf_43 ?_
      refine g_get hx hb hts in_1 hown hK (hR.f hi).2.2.2.2.2.2 rfl 8 (by decide) l_170 rfl rfl dX8_measureOf_46 ?_
      obtain rfl := g_s1 hf
      exact g_iret hx hb hlocks hr hS hR g_le.rf ⟨rfl, rfl⟩ (by omega) (by omega) dX8_measureOf_49
set_option maxHeartbeats 4000000 in
set_option maxRecDepth 100000 in
theorem c8_chosenSheet (l : Launch) (G : gG) (E : gEn) (μ : gMu) (i : Nat) (hi : i < 7) (z0 : gSt) (a1 : Nat) (v1 : gOd) (hE_a1 : E a1 = some (.inr v1)) (p2 : Int32) (ro : Option gSh) (zo : gSt) (hf : f8_chosenSheet z0 v1 p2 = some (ro, zo)) : Met l yX8_chosenSheet wsX8_chosenSheet ({ frames := 3, cells := 0, slots := 0, locals := 67 } : Room) (g_Pre G E (g_setS μ i z0) [.ref (g_stA G i), .ref a1, .int p2]) (g_Q G E (g_setS μ i zo) (fun E' v => E' = E ∧ ∃ w : Value, v = some w ∧ g_rv E .inl w ro)) 0 0 (g_A G) := by
  refine Met.ofW (cc := cX8_chosenSheet) (maxL := 8) (ret := some (.object "GlassRacks$Sheet")) (by decide) rfl ?_
  intro p e s m args below meth c s₁ B hml hv
  obtain ⟨rfl, hR, hK⟩ := hv
  have hx := B.exec
  have hb := B.bytes
  have hr := B.returns
  have hts := atoms_spec (ws := wsX8_chosenSheet) B.pre
  have hown : s.vm.findClass RX8 = some m.cls := findClass_of_methodNamed B.named
  have hlocks := B.notSynchronized
  have hS : va_S (g_A G) s.heap s.heap [] := va_S.rf
  have hl := lv_entry ([.ref (g_stA G i), .ref a1, .int p2]) (n := 8) (Nat.le_of_ble_eq_true rfl)
  rw [lg_entry_eq]
  generalize (lg_sl ([.ref (g_stA G i), .ref a1, .int p2]) ++ List.replicate (8 - (lg_sl ([.ref (g_stA G i), .ref a1, .int p2])).length) Slot.unset).toArray = ls at hl ⊢
  have hl : lv_has ls 8 [(0, .ref (g_stA G i)), (1, .ref a1), (2, .int p2)] := hl
  have in_7 : ∀ w ∈ u_ws RX7 TX7 5, w ∈ wsX8_chosenSheet := ifX8_chosenSheet_7
  have in_8 : ∀ w ∈ u_ws RX8 TX8 11, w ∈ wsX8_chosenSheet := ifX8_chosenSheet_8
  have l_12 := hts (.fieldLink RX8 12 "GlassRacks$State" "settings" "LGlassRacks$Settings;") (by decide +kernel)
  have l_167 := hts (.fieldLink RX8 167 "GlassRacks$Sheet" "number" "I") (by decide +kernel)
  have l_21 := hts (.fieldLink RX8 21 "GlassRacks$State" "racks" "LGlassRacks$Racks;") (by decide +kernel)
  have l_35 := hts (.fieldLink RX8 35 "GlassRacks$State" "cutting" "LGlassRacks$Cutting;") (by decide +kernel)
  have hB8 : ∀ (n : Nat) (z0 : gSt) (ax1 : Nat) (vx1 : gOd) (x2 : Int32) (wx3 : Value) (vx3 : Option gSh) (x4 : Int32) (x5 : Int32) (H : Heap) (locs : List Loc) (ls : Array Slot), f8_chosenSheet_8 n z0 vx1 x2 vx3 x4 x5 = some (ro, zo) → E ax1 = some (.inr vx1) → g_rv E .inl wx3 vx3 → g_R G E (g_setS μ i z0) H → va_S (g_A G) s.heap H locs → lv_has ls 8 [(0, .ref (g_stA G i)), (1, .ref ax1), (2, .int x2), (3, wx3), (4, .int x4), (5, .int x5)] → W p l e (headSpec wsX8_chosenSheet ({ frames := 3, cells := 0, slots := 0, locals := 67 } : Room)).room s m ([.ref (g_stA G i), .ref a1, .int p2] : List Value).toArray below meth c H locs 0 0 (MQ below (g_Q G E (g_setS μ i zo) (fun E' v => E' = E ∧ ∃ w : Value, v = some w ∧ g_rv E .inl w ro)) ([.ref (g_stA G i), .ref a1, .int p2] : List Value).toArray s 0 0 (g_A G)) (F0 m 8 ls []) := by
    intro n
    induction n with
    | zero =>
      intro z0 ax1 vx1 x2 wx3 vx3 x4 x5 H locs ls hf
      rw [f8_chosenSheet_8] at hf
      cases hf
    | succ n ih =>
      intro z0 ax1 vx1 x2 wx3 vx3 x4 x5 H locs ls hf hE_ax1 hw_wx3 hR hS hl
      rw [f8_chosenSheet_8] at hf
      rcases hzz : vx3 with _ | v2
      · replace hf := g_ocn hf hzz
        rw [hzz] at hw_wx3
        obtain rfl : wx3 = .null := hw_wx3
        refine lv_iload hx hb dX8_chosenSheet_8 (lv_at hl 5 rfl) ?_
        refine lv_bipush (v := 32) hx hb dX8_chosenSheet_10 (by decide) ?_
        refine lv_icmp_ge (tgt := 102) hx hb dX8_chosenSheet_12 (by decide) (fun c3 => ?_) (fun c3 => ?_)
        · replace hf := g_it hf c3
          refine lv_aload_nN hx hb dX8_chosenSheet_102 rfl (lv_at hl 3 rfl) ?_
          obtain ⟨rfl, rfl⟩ := g_sp hf
          exact g_aret hx hb hlocks hr hS hR g_le.rf (Or.inl rfl) ⟨rfl, _, rfl, rfl⟩ (by omega) (by omega) dX8_chosenSheet_103
        · replace hf := g_if hf c3
          refine lv_aload_n hx hb dX8_chosenSheet_15 rfl (lv_at hl 0 rfl) ?_
          refine g_get hx hb hts in_8 hown hK (hR.f hi).1 rfl 1 (by decide) l_21 rfl rfl dX8_chosenSheet_16 ?_
          refine lv_iload hx hb dX8_chosenSheet_19 (lv_at hl 5 rfl) ?_
          obtain ⟨r4, hc5, hf⟩ := g_b1_e hf
          refine g_call (va_runV (As := [.int x5]) (rest := []) ⟨hx, hb, hml, hown, hts⟩ (c5_inSlot l G E μ i hi _ _ _ hc5) (cwV 1 hts gX8_chosenSheet_X5_inSlot rfl rfl rfl (by decide +kernel) ⟨Nat.le_of_ble_eq_true rfl, Nat.le_of_ble_eq_true rfl⟩) (g_preV (ci := 5) hR hK ((hR.f hi).2.2.1) rfl) rfl rfl hl.1 rfl (lv_room (Nat.le_of_ble_eq_true rfl)) dX8_chosenSheet_21 ⟨by show _ ≤ 0; omega, by show _ ≤ 0; omega⟩) hS (fun w6 H locs hp hR hS => ?_)
          obtain ⟨w7, rfl, hp⟩ := hp
          rcases r4 with _ | v9
          · replace hf := g_ocn hf rfl
            obtain rfl : w7 = .null := hp
            refine lv_astoreN (lv' := [(6, .null), (0, .ref (g_stA G i)), (1, .ref ax1), (2, .int x2), (3, .null), (4, .int x4), (5, .int x5)]) hx hb dX8_chosenSheet_24 hl (by decide) rfl (fun ls hl => ?_)
            refine lv_aloadN hx hb dX8_chosenSheet_26 (lv_at hl 0 rfl) ?_
            refine lv_ifnullN (tgt := 96) hx hb dX8_chosenSheet_28 (by decide) ?_
            refine lv_iinc (v := x5 + 1) (lv' := [(5, .int (x5 + 1)), (6, .null), (0, .ref (g_stA G i)), (1, .ref ax1), (2, .int x2), (3, .null), (4, .int x4)]) hx hb dX8_chosenSheet_96 hl (k := 6) rfl rfl (by decide) rfl (fun ls hl => ?_)
            refine lv_goto (tgt := 8) hx hb dX8_chosenSheet_99 (by decide) ?_
            exact ih _ _ _ _ _ _ _ _ _ _ _ hf hE_ax1 (show g_rv _ _ .null none from rfl) hR hS (lv_sub hl [2, 3, 4, 5, 6, 0] rfl)
          · replace hf := g_ocs hf rfl
            obtain ⟨a8, rfl, hE_a8⟩ := hp
            refine lv_astore (lv' := [(6, .ref a8), (0, .ref (g_stA G i)), (1, .ref ax1), (2, .int x2), (3, .null), (4, .int x4), (5, .int x5)]) hx hb dX8_chosenSheet_24 hl (by decide) rfl (fun ls hl => ?_)
            refine lv_aload hx hb dX8_chosenSheet_26 (lv_at hl 0 rfl) ?_
            refine lv_ifnull hx hb dX8_chosenSheet_28 ?_
            refine lv_aload_n hx hb dX8_chosenSheet_31 rfl (lv_at hl 1 rfl) ?_
            refine g_get hx hb hts in_8 hown hK (hR.f hi).1 rfl 3 (by decide) l_35 rfl rfl dX8_chosenSheet_32 ?_
            refine lv_aload_n hx hb dX8_chosenSheet_35 rfl (lv_at hl 2 rfl) ?_
            refine lv_aload hx hb dX8_chosenSheet_36 (lv_at hl 0 rfl) ?_
            refine lv_aload_n hx hb dX8_chosenSheet_38 rfl (lv_at hl 1 rfl) ?_
            refine g_get hx hb hts in_8 hown hK (hR.f hi).1 rfl 0 (by decide) l_12 rfl rfl dX8_chosenSheet_39 ?_
            obtain ⟨r10, z11, hc12, hf⟩ := g_bd_e hf
            refine g_call (va_runV (As := [.ref ax1, .ref a8, .ref (g_stA G i + 1)]) (rest := []) ⟨hx, hb, hml, hown, hts⟩ (c1_layOut l G E μ i hi _ _ _ hE_ax1 _ _ hE_a8 _ _ hc12) (cwV 3 hts gX8_chosenSheet_X1_layOut rfl rfl rfl (by decide +kernel) ⟨Nat.le_of_ble_eq_true rfl, Nat.le_of_ble_eq_true rfl⟩) (g_preV (ci := 1) hR hK ((hR.f hi).2.2.2.2.2.2) rfl) rfl rfl hl.1 rfl (lv_room (Nat.le_of_ble_eq_true rfl)) dX8_chosenSheet_42 ⟨by show _ ≤ 0; omega, by show _ ≤ 0; omega⟩) hS (fun w13 H locs hp hR hS => ?_)
            subst hp
            refine lv_if_eq (tgt := 96) hx hb dX8_chosenSheet_45 (by decide) (fun c14 => ?_) (fun c14 => ?_)
            · replace hf := g_it hf c14
              refine lv_iinc (v := x5 + 1) (lv' := [(5, .int (x5 + 1)), (6, .ref a8), (0, .ref (g_stA G i)), (1, .ref ax1), (2, .int x2), (3, .null), (4, .int x4)]) hx hb dX8_chosenSheet_96 hl (k := 6) rfl rfl (by decide) rfl (fun ls hl => ?_)
              refine lv_goto (tgt := 8) hx hb dX8_chosenSheet_99 (by decide) ?_
              exact ih _ _ _ _ _ _ _ _ _ _ _ hf hE_ax1 (show g_rv _ _ .null none from rfl) hR hS (lv_sub hl [2, 3, 4, 5, 6, 0] rfl)
            · replace hf := g_if hf c14
              refine lv_aload_n hx hb dX8_chosenSheet_48 rfl (lv_at hl 1 rfl) ?_
              refine lv_aload hx hb dX8_chosenSheet_49 (lv_at hl 0 rfl) ?_
              refine lv_iload hx hb dX8_chosenSheet_51 (lv_at hl 6 rfl) ?_
              refine lv_iload_n hx hb dX8_chosenSheet_53 rfl (lv_at hl 3 rfl) ?_
              obtain ⟨r15, hc16, hf⟩ := g_b1_e hf
              refine g_call (va_runV (As := [.ref a8, .int x5, .int x2]) (rest := []) ⟨hx, hb, hml, hown, hts⟩ (c8_measureOf l G E μ i hi _ _ _ hE_a8 _ _ _ hc16) (cwV 3 hts gX8_chosenSheet_X8_measureOf rfl rfl rfl (by decide +kernel) ⟨Nat.le_of_ble_eq_true rfl, Nat.le_of_ble_eq_true rfl⟩) (g_preV (ci := 8) hR hK ((hR.f hi).1) rfl) rfl rfl hl.1 rfl (lv_room (Nat.le_of_ble_eq_true rfl)) dX8_chosenSheet_54 ⟨by show _ ≤ 0; omega, by show _ ≤ 0; omega⟩) hS (fun w17 H locs hp hR hS => ?_)
              subst hp
              refine lv_istore (lv' := [(7, .int r15), (6, .ref a8), (0, .ref (g_stA G i)), (1, .ref ax1), (2, .int x2), (3, .null), (4, .int x4), (5, .int x5)]) hx hb dX8_chosenSheet_57 hl (by decide) rfl (fun ls hl => ?_)
              refine lv_aload_nN hx hb dX8_chosenSheet_59 rfl (lv_at hl 5 rfl) ?_
              refine lv_ifnullN (tgt := 89) hx hb dX8_chosenSheet_60 (by decide) ?_
              refine lv_aload hx hb dX8_chosenSheet_89 (lv_at hl 1 rfl) ?_
              refine lv_astore_n (lv' := [(3, .ref a8), (7, .int r15), (6, .ref a8), (0, .ref (g_stA G i)), (1, .ref ax1), (2, .int x2), (4, .int x4), (5, .int x5)]) hx hb dX8_chosenSheet_91 rfl hl (by decide) rfl (fun ls hl => ?_)
              refine lv_iload hx hb dX8_chosenSheet_92 (lv_at hl 1 rfl) ?_
              refine lv_istore (lv' := [(4, .int r15), (3, .ref a8), (7, .int r15), (6, .ref a8), (0, .ref (g_stA G i)), (1, .ref ax1), (2, .int x2), (5, .int x5)]) hx hb dX8_chosenSheet_94 hl (by decide) rfl (fun ls hl => ?_)
              refine lv_iinc (v := x5 + 1) (lv' := [(5, .int (x5 + 1)), (4, .int r15), (3, .ref a8), (7, .int r15), (6, .ref a8), (0, .ref (g_stA G i)), (1, .ref ax1), (2, .int x2)]) hx hb dX8_chosenSheet_96 hl (k := 7) rfl rfl (by decide) rfl (fun ls hl => ?_)
              refine lv_goto (tgt := 8) hx hb dX8_chosenSheet_99 (by decide) ?_
              exact ih _ _ _ _ _ _ _ _ _ _ _ hf hE_ax1 (show g_rv _ _ (.ref a8) (some v9) from ⟨_, rfl, hE_a8⟩) hR hS (lv_sub hl [5, 6, 7, 2, 1, 0] rfl)
      · replace hf := g_ocs hf hzz
        rw [hzz] at hw_wx3
        obtain ⟨a1, rfl, hE_a1⟩ : ∃ q : Nat, wx3 = .ref q ∧ E q = some (.inl v2) := hw_wx3
        refine lv_iload hx hb dX8_chosenSheet_8 (lv_at hl 5 rfl) ?_
        refine lv_bipush (v := 32) hx hb dX8_chosenSheet_10 (by decide) ?_
        refine lv_icmp_ge (tgt := 102) hx hb dX8_chosenSheet_12 (by decide) (fun c18 => ?_) (fun c18 => ?_)
        · replace hf := g_it hf c18
          refine lv_aload_n hx hb dX8_chosenSheet_102 rfl (lv_at hl 3 rfl) ?_
          obtain ⟨rfl, rfl⟩ := g_sp hf
          exact g_aret hx hb hlocks hr hS hR g_le.rf (Or.inr ⟨_, rfl⟩) ⟨rfl, _, rfl, _, rfl, hE_a1⟩ (by omega) (by omega) dX8_chosenSheet_103
        · replace hf := g_if hf c18
          refine lv_aload_n hx hb dX8_chosenSheet_15 rfl (lv_at hl 0 rfl) ?_
          refine g_get hx hb hts in_8 hown hK (hR.f hi).1 rfl 1 (by decide) l_21 rfl rfl dX8_chosenSheet_16 ?_
          refine lv_iload hx hb dX8_chosenSheet_19 (lv_at hl 5 rfl) ?_
          obtain ⟨r19, hc20, hf⟩ := g_b1_e hf
          refine g_call (va_runV (As := [.int x5]) (rest := []) ⟨hx, hb, hml, hown, hts⟩ (c5_inSlot l G E μ i hi _ _ _ hc20) (cwV 1 hts gX8_chosenSheet_X5_inSlot rfl rfl rfl (by decide +kernel) ⟨Nat.le_of_ble_eq_true rfl, Nat.le_of_ble_eq_true rfl⟩) (g_preV (ci := 5) hR hK ((hR.f hi).2.2.1) rfl) rfl rfl hl.1 rfl (lv_room (Nat.le_of_ble_eq_true rfl)) dX8_chosenSheet_21 ⟨by show _ ≤ 0; omega, by show _ ≤ 0; omega⟩) hS (fun w21 H locs hp hR hS => ?_)
          obtain ⟨w22, rfl, hp⟩ := hp
          rcases r19 with _ | v24
          · replace hf := g_ocn hf rfl
            obtain rfl : w22 = .null := hp
            refine lv_astoreN (lv' := [(6, .null), (0, .ref (g_stA G i)), (1, .ref ax1), (2, .int x2), (3, .ref a1), (4, .int x4), (5, .int x5)]) hx hb dX8_chosenSheet_24 hl (by decide) rfl (fun ls hl => ?_)
            refine lv_aloadN hx hb dX8_chosenSheet_26 (lv_at hl 0 rfl) ?_
            refine lv_ifnullN (tgt := 96) hx hb dX8_chosenSheet_28 (by decide) ?_
            refine lv_iinc (v := x5 + 1) (lv' := [(5, .int (x5 + 1)), (6, .null), (0, .ref (g_stA G i)), (1, .ref ax1), (2, .int x2), (3, .ref a1), (4, .int x4)]) hx hb dX8_chosenSheet_96 hl (k := 6) rfl rfl (by decide) rfl (fun ls hl => ?_)
            refine lv_goto (tgt := 8) hx hb dX8_chosenSheet_99 (by decide) ?_
            exact ih _ _ _ _ _ _ _ _ _ _ _ hf hE_ax1 (show g_rv _ _ (.ref a1) (some v2) from ⟨_, rfl, hE_a1⟩) hR hS (lv_sub hl [2, 3, 4, 5, 6, 0] rfl)
          · replace hf := g_ocs hf rfl
            obtain ⟨a23, rfl, hE_a23⟩ := hp
            refine lv_astore (lv' := [(6, .ref a23), (0, .ref (g_stA G i)), (1, .ref ax1), (2, .int x2), (3, .ref a1), (4, .int x4), (5, .int x5)]) hx hb dX8_chosenSheet_24 hl (by decide) rfl (fun ls hl => ?_)
            refine lv_aload hx hb dX8_chosenSheet_26 (lv_at hl 0 rfl) ?_
            refine lv_ifnull hx hb dX8_chosenSheet_28 ?_
            refine lv_aload_n hx hb dX8_chosenSheet_31 rfl (lv_at hl 1 rfl) ?_
            refine g_get hx hb hts in_8 hown hK (hR.f hi).1 rfl 3 (by decide) l_35 rfl rfl dX8_chosenSheet_32 ?_
            refine lv_aload_n hx hb dX8_chosenSheet_35 rfl (lv_at hl 2 rfl) ?_
            refine lv_aload hx hb dX8_chosenSheet_36 (lv_at hl 0 rfl) ?_
            refine lv_aload_n hx hb dX8_chosenSheet_38 rfl (lv_at hl 1 rfl) ?_
            refine g_get hx hb hts in_8 hown hK (hR.f hi).1 rfl 0 (by decide) l_12 rfl rfl dX8_chosenSheet_39 ?_
            obtain ⟨r25, z26, hc27, hf⟩ := g_bd_e hf
            refine g_call (va_runV (As := [.ref ax1, .ref a23, .ref (g_stA G i + 1)]) (rest := []) ⟨hx, hb, hml, hown, hts⟩ (c1_layOut l G E μ i hi _ _ _ hE_ax1 _ _ hE_a23 _ _ hc27) (cwV 3 hts gX8_chosenSheet_X1_layOut rfl rfl rfl (by decide +kernel) ⟨Nat.le_of_ble_eq_true rfl, Nat.le_of_ble_eq_true rfl⟩) (g_preV (ci := 1) hR hK ((hR.f hi).2.2.2.2.2.2) rfl) rfl rfl hl.1 rfl (lv_room (Nat.le_of_ble_eq_true rfl)) dX8_chosenSheet_42 ⟨by show _ ≤ 0; omega, by show _ ≤ 0; omega⟩) hS (fun w28 H locs hp hR hS => ?_)
            subst hp
            refine lv_if_eq (tgt := 96) hx hb dX8_chosenSheet_45 (by decide) (fun c29 => ?_) (fun c29 => ?_)
            · replace hf := g_it hf c29
              refine lv_iinc (v := x5 + 1) (lv' := [(5, .int (x5 + 1)), (6, .ref a23), (0, .ref (g_stA G i)), (1, .ref ax1), (2, .int x2), (3, .ref a1), (4, .int x4)]) hx hb dX8_chosenSheet_96 hl (k := 6) rfl rfl (by decide) rfl (fun ls hl => ?_)
              refine lv_goto (tgt := 8) hx hb dX8_chosenSheet_99 (by decide) ?_
              exact ih _ _ _ _ _ _ _ _ _ _ _ hf hE_ax1 (show g_rv _ _ (.ref a1) (some v2) from ⟨_, rfl, hE_a1⟩) hR hS (lv_sub hl [2, 3, 4, 5, 6, 0] rfl)
            · replace hf := g_if hf c29
              refine lv_aload_n hx hb dX8_chosenSheet_48 rfl (lv_at hl 1 rfl) ?_
              refine lv_aload hx hb dX8_chosenSheet_49 (lv_at hl 0 rfl) ?_
              refine lv_iload hx hb dX8_chosenSheet_51 (lv_at hl 6 rfl) ?_
              refine lv_iload_n hx hb dX8_chosenSheet_53 rfl (lv_at hl 3 rfl) ?_
              obtain ⟨r30, hc31, hf⟩ := g_b1_e hf
              refine g_call (va_runV (As := [.ref a23, .int x5, .int x2]) (rest := []) ⟨hx, hb, hml, hown, hts⟩ (c8_measureOf l G E μ i hi _ _ _ hE_a23 _ _ _ hc31) (cwV 3 hts gX8_chosenSheet_X8_measureOf rfl rfl rfl (by decide +kernel) ⟨Nat.le_of_ble_eq_true rfl, Nat.le_of_ble_eq_true rfl⟩) (g_preV (ci := 8) hR hK ((hR.f hi).1) rfl) rfl rfl hl.1 rfl (lv_room (Nat.le_of_ble_eq_true rfl)) dX8_chosenSheet_54 ⟨by show _ ≤ 0; omega, by show _ ≤ 0; omega⟩) hS (fun w32 H locs hp hR hS => ?_)
              subst hp
              refine lv_istore (lv' := [(7, .int r30), (6, .ref a23), (0, .ref (g_stA G i)), (1, .ref ax1), (2, .int x2), (3, .ref a1), (4, .int x4), (5, .int x5)]) hx hb dX8_chosenSheet_57 hl (by decide) rfl (fun ls hl => ?_)
              refine lv_aload_n hx hb dX8_chosenSheet_59 rfl (lv_at hl 5 rfl) ?_
              refine lv_ifnull hx hb dX8_chosenSheet_60 ?_
              refine lv_iload hx hb dX8_chosenSheet_63 (lv_at hl 0 rfl) ?_
              refine lv_iload hx hb dX8_chosenSheet_65 (lv_at hl 6 rfl) ?_
              refine lv_icmp_lt (tgt := 89) hx hb dX8_chosenSheet_67 (by decide) (fun c33 => ?_) (fun c33 => ?_)
              · replace hf := g_it hf c33
                refine lv_aload hx hb dX8_chosenSheet_89 (lv_at hl 1 rfl) ?_
                refine lv_astore_n (lv' := [(3, .ref a23), (7, .int r30), (6, .ref a23), (0, .ref (g_stA G i)), (1, .ref ax1), (2, .int x2), (4, .int x4), (5, .int x5)]) hx hb dX8_chosenSheet_91 rfl hl (by decide) rfl (fun ls hl => ?_)
                refine lv_iload hx hb dX8_chosenSheet_92 (lv_at hl 1 rfl) ?_
                refine lv_istore (lv' := [(4, .int r30), (3, .ref a23), (7, .int r30), (6, .ref a23), (0, .ref (g_stA G i)), (1, .ref ax1), (2, .int x2), (5, .int x5)]) hx hb dX8_chosenSheet_94 hl (by decide) rfl (fun ls hl => ?_)
                refine lv_iinc (v := x5 + 1) (lv' := [(5, .int (x5 + 1)), (4, .int r30), (3, .ref a23), (7, .int r30), (6, .ref a23), (0, .ref (g_stA G i)), (1, .ref ax1), (2, .int x2)]) hx hb dX8_chosenSheet_96 hl (k := 7) rfl rfl (by decide) rfl (fun ls hl => ?_)
                refine lv_goto (tgt := 8) hx hb dX8_chosenSheet_99 (by decide) ?_
                exact ih _ _ _ _ _ _ _ _ _ _ _ hf hE_ax1 (show g_rv _ _ (.ref a23) (some v24) from ⟨_, rfl, hE_a23⟩) hR hS (lv_sub hl [5, 6, 7, 2, 1, 0] rfl)
              · replace hf := g_if hf c33
                refine lv_iload hx hb dX8_chosenSheet_70 (lv_at hl 0 rfl) ?_
                refine lv_iload hx hb dX8_chosenSheet_72 (lv_at hl 6 rfl) ?_
                refine lv_icmp_ne (tgt := 96) hx hb dX8_chosenSheet_74 (by decide) (fun c34 => ?_) (fun c34 => ?_)
                · replace hf := g_it hf c34
                  refine lv_iinc (v := x5 + 1) (lv' := [(5, .int (x5 + 1)), (7, .int r30), (6, .ref a23), (0, .ref (g_stA G i)), (1, .ref ax1), (2, .int x2), (3, .ref a1), (4, .int x4)]) hx hb dX8_chosenSheet_96 hl (k := 7) rfl rfl (by decide) rfl (fun ls hl => ?_)
                  refine lv_goto (tgt := 8) hx hb dX8_chosenSheet_99 (by decide) ?_
                  exact ih _ _ _ _ _ _ _ _ _ _ _ hf hE_ax1 (show g_rv _ _ (.ref a1) (some v2) from ⟨_, rfl, hE_a1⟩) hR hS (lv_sub hl [3, 4, 5, 6, 7, 0] rfl)
                · replace hf := g_if hf (fun q => q c34)
                  refine lv_aload hx hb dX8_chosenSheet_77 (lv_at hl 1 rfl) ?_
                  refine g_get hx hb hts in_7 hown hK ((hR.2.2.2.2.2 _ _ hE_a23).2) rfl 0 (by decide) l_167 rfl rfl dX8_chosenSheet_79 ?_
                  refine lv_aload_n hx hb dX8_chosenSheet_82 rfl (lv_at hl 5 rfl) ?_
                  refine g_get hx hb hts in_7 hown hK ((hR.2.2.2.2.2 _ _ hE_a1).2) rfl 0 (by decide) l_167 rfl rfl dX8_chosenSheet_83 ?_
                  refine lv_icmp_ge (tgt := 96) hx hb dX8_chosenSheet_86 (by decide) (fun c35 => ?_) (fun c35 => ?_)
                  · replace hf := g_it hf c35
                    refine lv_iinc (v := x5 + 1) (lv' := [(5, .int (x5 + 1)), (7, .int r30), (6, .ref a23), (0, .ref (g_stA G i)), (1, .ref ax1), (2, .int x2), (3, .ref a1), (4, .int x4)]) hx hb dX8_chosenSheet_96 hl (k := 7) rfl rfl (by decide) rfl (fun ls hl => ?_)
                    refine lv_goto (tgt := 8) hx hb dX8_chosenSheet_99 (by decide) ?_
                    exact ih _ _ _ _ _ _ _ _ _ _ _ hf hE_ax1 (show g_rv _ _ (.ref a1) (some v2) from ⟨_, rfl, hE_a1⟩) hR hS (lv_sub hl [3, 4, 5, 6, 7, 0] rfl)
                  · replace hf := g_if hf c35
                    refine lv_aload hx hb dX8_chosenSheet_89 (lv_at hl 1 rfl) ?_
                    refine lv_astore_n (lv' := [(3, .ref a23), (7, .int r30), (6, .ref a23), (0, .ref (g_stA G i)), (1, .ref ax1), (2, .int x2), (4, .int x4), (5, .int x5)]) hx hb dX8_chosenSheet_91 rfl hl (by decide) rfl (fun ls hl => ?_)
                    refine lv_iload hx hb dX8_chosenSheet_92 (lv_at hl 1 rfl) ?_
                    refine lv_istore (lv' := [(4, .int r30), (3, .ref a23), (7, .int r30), (6, .ref a23), (0, .ref (g_stA G i)), (1, .ref ax1), (2, .int x2), (5, .int x5)]) hx hb dX8_chosenSheet_94 hl (by decide) rfl (fun ls hl => ?_)
                    refine lv_iinc (v := x5 + 1) (lv' := [(5, .int (x5 + 1)), (4, .int r30), (3, .ref a23), (7, .int r30), (6, .ref a23), (0, .ref (g_stA G i)), (1, .ref ax1), (2, .int x2)]) hx hb dX8_chosenSheet_96 hl (k := 7) rfl rfl (by decide) rfl (fun ls hl => ?_)
                    refine lv_goto (tgt := 8) hx hb dX8_chosenSheet_99 (by decide) ?_
                    exact ih _ _ _ _ _ _ _ _ _ _ _ hf hE_ax1 (show g_rv _ _ (.ref a23) (some v24) from ⟨_, rfl, hE_a23⟩) hR hS (lv_sub hl [5, 6, 7, 2, 1, 0] rfl)
  unfold f8_chosenSheet at hf
  refine lv_null hx hb dX8_chosenSheet_0 ?_
  refine lv_astore_nN (lv' := [(3, .null), (0, .ref (g_stA G i)), (1, .ref a1), (2, .int p2)]) hx hb dX8_chosenSheet_1 rfl hl (by decide) rfl (fun ls hl => ?_)
  refine lv_iconst (v := 0) hx hb dX8_chosenSheet_2 (by decide) ?_
  refine lv_istore (lv' := [(4, .int (0 : Int32)), (3, .null), (0, .ref (g_stA G i)), (1, .ref a1), (2, .int p2)]) hx hb dX8_chosenSheet_3 hl (by decide) rfl (fun ls hl => ?_)
  refine lv_iconst (v := 0) hx hb dX8_chosenSheet_5 (by decide) ?_
  refine lv_istore (lv' := [(5, .int (0 : Int32)), (4, .int (0 : Int32)), (3, .null), (0, .ref (g_stA G i)), (1, .ref a1), (2, .int p2)]) hx hb dX8_chosenSheet_6 hl (by decide) rfl (fun ls hl => ?_)
  exact hB8 70 _ _ _ _ _ _ _ _ _ _ _ hf hE_a1 (show g_rv _ _ .null none from rfl) hR hS (lv_sub hl [3, 4, 5, 2, 1, 0] rfl)
set_option maxHeartbeats 4000000 in
set_option maxRecDepth 100000 in
theorem c8_keepOrScrap (l : Launch) (G : gG) (E : gEn) (μ : gMu) (i : Nat) (hi : i < 7) (z0 : gSt) (p1 : Int32) (p2 : Int32) (a3 : Nat) (v3 : gSh) (hE_a3 : E a3 = some (.inl v3)) (p4 : Int32) (ro : Int32) (zo : gSt) (hf : f8_keepOrScrap z0 p1 p2 v3 p4 = some (ro, zo)) : Met l yX8_keepOrScrap wsX8_keepOrScrap ({ frames := 3, cells := 1, slots := 5, locals := 67 } : Room) (g_Pre G E (g_setS μ i z0) [.ref (g_stA G i), .int p1, .int p2, .ref a3, .int p4]) (g_Q G E (g_setS μ i zo) (fun E' v => v = some (.int ro))) 1 5 (g_A G) := by
  refine Met.ofW (cc := cX8_keepOrScrap) (maxL := 5) (ret := some .int) (by decide) rfl ?_
  intro p e s m args below meth c s₁ B hml hv
  obtain ⟨rfl, hR, hK⟩ := hv
  have hx := B.exec
  have hb := B.bytes
  have hr := B.returns
  have hts := atoms_spec (ws := wsX8_keepOrScrap) B.pre
  have hown : s.vm.findClass RX8 = some m.cls := findClass_of_methodNamed B.named
  have hlocks := B.notSynchronized
  have hS : va_S (g_A G) s.heap s.heap [] := va_S.rf
  have hl := lv_entry ([.ref (g_stA G i), .int p1, .int p2, .ref a3, .int p4]) (n := 5) (Nat.le_of_ble_eq_true rfl)
  rw [lg_entry_eq]
  generalize (lg_sl ([.ref (g_stA G i), .int p1, .int p2, .ref a3, .int p4]) ++ List.replicate (5 - (lg_sl ([.ref (g_stA G i), .int p1, .int p2, .ref a3, .int p4])).length) Slot.unset).toArray = ls at hl ⊢
  have hl : lv_has ls 5 [(0, .ref (g_stA G i)), (1, .int p1), (2, .int p2), (3, .ref a3), (4, .int p4)] := hl
  have in_6 : ∀ w ∈ u_ws RX6 TX6 5, w ∈ wsX8_keepOrScrap := ifX8_keepOrScrap_6
  have in_7 : ∀ w ∈ u_ws RX7 TX7 5, w ∈ wsX8_keepOrScrap := ifX8_keepOrScrap_7
  have in_8 : ∀ w ∈ u_ws RX8 TX8 11, w ∈ wsX8_keepOrScrap := ifX8_keepOrScrap_8
  have l_12 := hts (.fieldLink RX8 12 "GlassRacks$State" "settings" "LGlassRacks$Settings;") (by decide +kernel)
  have l_167 := hts (.fieldLink RX8 167 "GlassRacks$Sheet" "number" "I") (by decide +kernel)
  have l_193 := hts (.fieldLink RX8 193 "GlassRacks$Settings" "leastSide" "I") (by decide +kernel)
  have l_196 := hts (.fieldLink RX8 196 "GlassRacks$Sheet" "sort" "I") (by decide +kernel)
  have l_21 := hts (.fieldLink RX8 21 "GlassRacks$State" "racks" "LGlassRacks$Racks;") (by decide +kernel)
  have l_49 := hts (.fieldLink RX8 49 "GlassRacks$State" "scrapArea" "I") (by decide +kernel)
  unfold f8_keepOrScrap at hf
  refine lv_iload_n hx hb dX8_keepOrScrap_0 rfl (lv_at hl 1 rfl) ?_
  refine lv_if_le (tgt := 8) hx hb dX8_keepOrScrap_1 (by decide) (fun c1 => ?_) (fun c1 => ?_)
  · replace hf := g_it hf c1
    refine lv_iconst (v := 0) hx hb dX8_keepOrScrap_8 (by decide) ?_
    obtain ⟨rfl, rfl⟩ := g_sp hf
    exact g_iret hx hb hlocks hr hS hR g_le.rf rfl (by omega) (by omega) dX8_keepOrScrap_9
  · replace hf := g_if hf c1
    refine lv_iload_n hx hb dX8_keepOrScrap_4 rfl (lv_at hl 2 rfl) ?_
    refine lv_if_gt (tgt := 10) hx hb dX8_keepOrScrap_5 (by decide) (fun c2 => ?_) (fun c2 => ?_)
    · replace hf := g_it hf c2
      refine lv_iload_n hx hb dX8_keepOrScrap_10 rfl (lv_at hl 1 rfl) ?_
      refine lv_aload_n hx hb dX8_keepOrScrap_11 rfl (lv_at hl 0 rfl) ?_
      refine g_get hx hb hts in_8 hown hK (hR.f hi).1 rfl 0 (by decide) l_12 rfl rfl dX8_keepOrScrap_12 ?_
      refine g_get hx hb hts in_6 hown hK (hR.f hi).2.1 rfl 1 (by decide) l_193 rfl rfl dX8_keepOrScrap_15 ?_
      refine lv_icmp_lt (tgt := 66) hx hb dX8_keepOrScrap_18 (by decide) (fun c3 => ?_) (fun c3 => ?_)
      · replace hf := g_it hf c3
        refine lv_aload_n hx hb dX8_keepOrScrap_66 rfl (lv_at hl 0 rfl) ?_
        refine lv_dup hx hb dX8_keepOrScrap_67 rfl ?_
        refine g_get hx hb hts in_8 hown hK (hR.f hi).1 rfl 7 (by decide) l_49 rfl rfl dX8_keepOrScrap_68 ?_
        refine lv_iload_n hx hb dX8_keepOrScrap_71 rfl (lv_at hl 1 rfl) ?_
        refine lv_iload_n hx hb dX8_keepOrScrap_72 rfl (lv_at hl 2 rfl) ?_
        refine lv_imul hx hb dX8_keepOrScrap_73 ?_
        refine lv_iadd hx hb dX8_keepOrScrap_74 ?_
        refine g_p8_7 hx hb hts in_8 hown hK hS hR hi l_49 dX8_keepOrScrap_75 (fun H locs hR hS => ?_)
        obtain ⟨z4, ez4, hf⟩ := g_let_e hf
        replace hR : g_R G E (g_setS μ i z4) H := by rw [ez4]; exact hR
        refine lv_iconst (v := 0) hx hb dX8_keepOrScrap_78 (by decide) ?_
        obtain ⟨rfl, rfl⟩ := g_sp hf
        exact g_iret hx hb hlocks hr hS hR g_le.rf rfl (by omega) (by omega) dX8_keepOrScrap_79
      · replace hf := g_if hf c3
        refine lv_iload_n hx hb dX8_keepOrScrap_21 rfl (lv_at hl 2 rfl) ?_
        refine lv_aload_n hx hb dX8_keepOrScrap_22 rfl (lv_at hl 0 rfl) ?_
        refine g_get hx hb hts in_8 hown hK (hR.f hi).1 rfl 0 (by decide) l_12 rfl rfl dX8_keepOrScrap_23 ?_
        refine g_get hx hb hts in_6 hown hK (hR.f hi).2.1 rfl 1 (by decide) l_193 rfl rfl dX8_keepOrScrap_26 ?_
        refine lv_icmp_lt (tgt := 66) hx hb dX8_keepOrScrap_29 (by decide) (fun c5 => ?_) (fun c5 => ?_)
        · replace hf := g_it hf c5
          refine lv_aload_n hx hb dX8_keepOrScrap_66 rfl (lv_at hl 0 rfl) ?_
          refine lv_dup hx hb dX8_keepOrScrap_67 rfl ?_
          refine g_get hx hb hts in_8 hown hK (hR.f hi).1 rfl 7 (by decide) l_49 rfl rfl dX8_keepOrScrap_68 ?_
          refine lv_iload_n hx hb dX8_keepOrScrap_71 rfl (lv_at hl 1 rfl) ?_
          refine lv_iload_n hx hb dX8_keepOrScrap_72 rfl (lv_at hl 2 rfl) ?_
          refine lv_imul hx hb dX8_keepOrScrap_73 ?_
          refine lv_iadd hx hb dX8_keepOrScrap_74 ?_
          refine g_p8_7 hx hb hts in_8 hown hK hS hR hi l_49 dX8_keepOrScrap_75 (fun H locs hR hS => ?_)
          obtain ⟨z6, ez6, hf⟩ := g_let_e hf
          replace hR : g_R G E (g_setS μ i z6) H := by rw [ez6]; exact hR
          refine lv_iconst (v := 0) hx hb dX8_keepOrScrap_78 (by decide) ?_
          obtain ⟨rfl, rfl⟩ := g_sp hf
          exact g_iret hx hb hlocks hr hS hR g_le.rf rfl (by omega) (by omega) dX8_keepOrScrap_79
        · replace hf := g_if hf c5
          refine lv_aload_n hx hb dX8_keepOrScrap_32 rfl (lv_at hl 0 rfl) ?_
          refine g_get hx hb hts in_8 hown hK (hR.f hi).1 rfl 1 (by decide) l_21 rfl rfl dX8_keepOrScrap_33 ?_
          refine lv_iload hx hb dX8_keepOrScrap_36 (lv_at hl 4 rfl) ?_
          obtain ⟨r7, hc8, hf⟩ := g_b1_e hf
          refine g_call (va_runV (As := [.int p4]) (rest := []) ⟨hx, hb, hml, hown, hts⟩ (c5_hasRoom l G E μ i hi _ _ _ hc8) (cwV 1 hts gX8_keepOrScrap_X5_hasRoom rfl rfl rfl (by decide +kernel) ⟨Nat.le_of_ble_eq_true rfl, Nat.le_of_ble_eq_true rfl⟩) (g_preV (ci := 5) hR hK ((hR.f hi).2.2.1) rfl) rfl rfl hl.1 rfl (lv_room (Nat.le_of_ble_eq_true rfl)) dX8_keepOrScrap_38 ⟨by show _ ≤ 1; omega, by show _ ≤ 5; omega⟩) hS (fun w9 H locs hp hR hS => ?_)
          subst hp
          refine lv_if_eq (tgt := 66) hx hb dX8_keepOrScrap_41 (by decide) (fun c10 => ?_) (fun c10 => ?_)
          · replace hf := g_it hf c10
            refine lv_aload_n hx hb dX8_keepOrScrap_66 rfl (lv_at hl 0 rfl) ?_
            refine lv_dup hx hb dX8_keepOrScrap_67 rfl ?_
            refine g_get hx hb hts in_8 hown hK (hR.f hi).1 rfl 7 (by decide) l_49 rfl rfl dX8_keepOrScrap_68 ?_
            refine lv_iload_n hx hb dX8_keepOrScrap_71 rfl (lv_at hl 1 rfl) ?_
            refine lv_iload_n hx hb dX8_keepOrScrap_72 rfl (lv_at hl 2 rfl) ?_
            refine lv_imul hx hb dX8_keepOrScrap_73 ?_
            refine lv_iadd hx hb dX8_keepOrScrap_74 ?_
            refine g_p8_7 hx hb hts in_8 hown hK hS hR hi l_49 dX8_keepOrScrap_75 (fun H locs hR hS => ?_)
            obtain ⟨z11, ez11, hf⟩ := g_let_e hf
            replace hR : g_R G E (g_setS μ i z11) H := by rw [ez11]; exact hR
            refine lv_iconst (v := 0) hx hb dX8_keepOrScrap_78 (by decide) ?_
            obtain ⟨rfl, rfl⟩ := g_sp hf
            exact g_iret hx hb hlocks hr hS hR g_le.rf rfl (by omega) (by omega) dX8_keepOrScrap_79
          · replace hf := g_if hf c10
            refine lv_aload_n hx hb dX8_keepOrScrap_44 rfl (lv_at hl 0 rfl) ?_
            refine g_get hx hb hts in_8 hown hK (hR.f hi).1 rfl 1 (by decide) l_21 rfl rfl dX8_keepOrScrap_45 ?_
            refine lv_iload hx hb dX8_keepOrScrap_48 (lv_at hl 4 rfl) ?_
            refine lv_aload_n hx hb dX8_keepOrScrap_50 rfl (lv_at hl 3 rfl) ?_
            refine g_get hx hb hts in_7 hown hK ((hR.2.2.2.2.2 _ _ hE_a3).2) rfl 1 (by decide) l_196 rfl rfl dX8_keepOrScrap_51 ?_
            refine lv_iload_n hx hb dX8_keepOrScrap_54 rfl (lv_at hl 1 rfl) ?_
            refine lv_iload_n hx hb dX8_keepOrScrap_55 rfl (lv_at hl 2 rfl) ?_
            refine lv_aload_n hx hb dX8_keepOrScrap_56 rfl (lv_at hl 3 rfl) ?_
            refine g_get hx hb hts in_7 hown hK ((hR.2.2.2.2.2 _ _ hE_a3).2) rfl 0 (by decide) l_167 rfl rfl dX8_keepOrScrap_57 ?_
            obtain ⟨r12, z13, hc14, hf⟩ := g_bd_e hf
            refine g_calln (va_runV (As := [.int p4, .int v3.2.1, .int p1, .int p2, .int v3.1]) (rest := []) ⟨hx, hb, hml, hown, hts⟩ (c5_addNew l G E μ i hi _ _ _ _ _ _ _ _ hc14) (cwV 5 hts gX8_keepOrScrap_X5_addNew rfl rfl rfl (by decide +kernel) ⟨Nat.le_of_ble_eq_true rfl, Nat.le_of_ble_eq_true rfl⟩) (g_preV (ci := 5) hR hK ((hR.f hi).2.2.1) rfl) rfl rfl hl.1 rfl (lv_room (Nat.le_of_ble_eq_true rfl)) dX8_keepOrScrap_60 ⟨by show _ ≤ 1; omega, by show _ ≤ 5; omega⟩) hS (fun w15 E16 H locs hp hle17 hR hS => ?_)
            have hE_a3 := hle17 _ _ hE_a3
            subst hp
            refine lv_pop hx hb dX8_keepOrScrap_63 rfl ?_
            refine lv_iconst (v := 1) hx hb dX8_keepOrScrap_64 (by decide) ?_
            obtain ⟨rfl, rfl⟩ := g_sp hf
            exact g_iret hx hb hlocks hr hS hR ((g_le.rf).tr hle17) rfl (by omega) (by omega) dX8_keepOrScrap_65
    · replace hf := g_if hf c2
      refine lv_iconst (v := 0) hx hb dX8_keepOrScrap_8 (by decide) ?_
      obtain ⟨rfl, rfl⟩ := g_sp hf
      exact g_iret hx hb hlocks hr hS hR g_le.rf rfl (by omega) (by omega) dX8_keepOrScrap_9
set_option maxHeartbeats 4000000 in
set_option maxRecDepth 100000 in
theorem c8_takeOut (l : Launch) (G : gG) (E : gEn) (μ : gMu) (i : Nat) (hi : i < 7) (z0 : gSt) (p1 : Int32) (ro : Int32) (zo : gSt) (hf : f8_takeOut z0 p1 = some (ro, zo)) : Met l yX8_takeOut wsX8_takeOut ({ frames := 2, cells := 0, slots := 0, locals := 45 } : Room) (g_Pre G E (g_setS μ i z0) [.ref (g_stA G i), .int p1]) (g_Q G E (g_setS μ i zo) (fun E' v => E' = E ∧ v = some (.int ro))) 0 0 (g_A G) := by
  refine Met.ofW (cc := cX8_takeOut) (maxL := 4) (ret := some .boolean) (by decide) rfl ?_
  intro p e s m args below meth c s₁ B hml hv
  obtain ⟨rfl, hR, hK⟩ := hv
  have hx := B.exec
  have hb := B.bytes
  have hr := B.returns
  have hts := atoms_spec (ws := wsX8_takeOut) B.pre
  have hown : s.vm.findClass RX8 = some m.cls := findClass_of_methodNamed B.named
  have hlocks := B.notSynchronized
  have hS : va_S (g_A G) s.heap s.heap [] := va_S.rf
  have hl := lv_entry ([.ref (g_stA G i), .int p1]) (n := 4) (Nat.le_of_ble_eq_true rfl)
  rw [lg_entry_eq]
  generalize (lg_sl ([.ref (g_stA G i), .int p1]) ++ List.replicate (4 - (lg_sl ([.ref (g_stA G i), .int p1])).length) Slot.unset).toArray = ls at hl ⊢
  have hl : lv_has ls 4 [(0, .ref (g_stA G i)), (1, .int p1)] := hl
  have in_6 : ∀ w ∈ u_ws RX6 TX6 5, w ∈ wsX8_takeOut := ifX8_takeOut_6
  have in_8 : ∀ w ∈ u_ws RX8 TX8 11, w ∈ wsX8_takeOut := ifX8_takeOut_8
  have l_12 := hts (.fieldLink RX8 12 "GlassRacks$State" "settings" "LGlassRacks$Settings;") (by decide +kernel)
  have l_199 := hts (.fieldLink RX8 199 "GlassRacks$Settings" "fragility" "I") (by decide +kernel)
  have l_21 := hts (.fieldLink RX8 21 "GlassRacks$State" "racks" "LGlassRacks$Racks;") (by decide +kernel)
  have l_58 := hts (.fieldLink RX8 58 "GlassRacks$State" "liftings" "I") (by decide +kernel)
  have hB11 : ∀ (n : Nat) (z0 : gSt) (x1 : Int32) (x2 : Int32) (x3 : Int32) (H : Heap) (locs : List Loc) (ls : Array Slot), f8_takeOut_11 n z0 x1 x2 x3 = some (ro, zo) → g_R G E (g_setS μ i z0) H → va_S (g_A G) s.heap H locs → lv_has ls 4 [(0, .ref (g_stA G i)), (1, .int x1), (2, .int x2), (3, .int x3)] → W p l e (headSpec wsX8_takeOut ({ frames := 2, cells := 0, slots := 0, locals := 45 } : Room)).room s m ([.ref (g_stA G i), .int p1] : List Value).toArray below meth c H locs 0 0 (MQ below (g_Q G E (g_setS μ i zo) (fun E' v => E' = E ∧ v = some (.int ro))) ([.ref (g_stA G i), .int p1] : List Value).toArray s 0 0 (g_A G)) (F0 m 11 ls []) := by
    intro n
    induction n with
    | zero =>
      intro z0 x1 x2 x3 H locs ls hf
      rw [f8_takeOut_11] at hf
      cases hf
    | succ n ih =>
      intro z0 x1 x2 x3 H locs ls hf  hR hS hl
      rw [f8_takeOut_11] at hf
      refine lv_iload_n hx hb dX8_takeOut_11 rfl (lv_at hl 3 rfl) ?_
      refine lv_if_lt (tgt := 73) hx hb dX8_takeOut_12 (by decide) (fun c4 => ?_) (fun c4 => ?_)
      · replace hf := g_it hf c4
        refine lv_iload_n hx hb dX8_takeOut_73 rfl (lv_at hl 2 rfl) ?_
        refine lv_if_eq (tgt := 85) hx hb dX8_takeOut_74 (by decide) (fun c5 => ?_) (fun c5 => ?_)
        · replace hf := g_it hf c5
          refine lv_iload_n hx hb dX8_takeOut_85 rfl (lv_at hl 2 rfl) ?_
          obtain ⟨hz6, hf⟩ := g_gd hf
          obtain ⟨rfl, rfl⟩ := g_sp hf
          exact g_zret hx hb hlocks hr hS hR g_le.rf hz6 ⟨rfl, rfl⟩ (by omega) (by omega) dX8_takeOut_86
        · replace hf := g_if hf c5
          refine lv_aload_n hx hb dX8_takeOut_77 rfl (lv_at hl 0 rfl) ?_
          refine g_get hx hb hts in_8 hown hK (hR.f hi).1 rfl 1 (by decide) l_21 rfl rfl dX8_takeOut_78 ?_
          refine lv_iload_n hx hb dX8_takeOut_81 rfl (lv_at hl 1 rfl) ?_
          obtain ⟨z7, hc8, hf⟩ := g_b1_e hf
          refine g_call (va_runV (As := [.int x1]) (rest := []) ⟨hx, hb, hml, hown, hts⟩ (c5_removeFrom l G E μ i hi _ _ _ hc8) (cwV 1 hts gX8_takeOut_X5_removeFrom rfl rfl rfl (by decide +kernel) ⟨Nat.le_of_ble_eq_true rfl, Nat.le_of_ble_eq_true rfl⟩) (g_preV (ci := 5) hR hK ((hR.f hi).2.2.1) rfl) rfl rfl hl.1 rfl (lv_room (Nat.le_of_ble_eq_true rfl)) dX8_takeOut_82 ⟨by show _ ≤ 0; omega, by show _ ≤ 0; omega⟩) hS (fun w9 H locs hp hR hS => ?_)
          subst hp
          refine lv_iload_n hx hb dX8_takeOut_85 rfl (lv_at hl 2 rfl) ?_
          obtain ⟨hz10, hf⟩ := g_gd hf
          obtain ⟨rfl, rfl⟩ := g_sp hf
          exact g_zret hx hb hlocks hr hS hR g_le.rf hz10 ⟨rfl, rfl⟩ (by omega) (by omega) dX8_takeOut_86
      · replace hf := g_if hf c4
        refine lv_aload_n hx hb dX8_takeOut_15 rfl (lv_at hl 0 rfl) ?_
        refine lv_dup hx hb dX8_takeOut_16 rfl ?_
        refine g_get hx hb hts in_8 hown hK (hR.f hi).1 rfl 10 (by decide) l_58 rfl rfl dX8_takeOut_17 ?_
        refine lv_iconst (v := 1) hx hb dX8_takeOut_20 (by decide) ?_
        refine lv_iadd hx hb dX8_takeOut_21 ?_
        refine g_p8_10 hx hb hts in_8 hown hK hS hR hi l_58 dX8_takeOut_22 (fun H locs hR hS => ?_)
        obtain ⟨z11, ez11, hf⟩ := g_let_e hf
        replace hR : g_R G E (g_setS μ i z11) H := by rw [ez11]; exact hR
        refine lv_aload_n hx hb dX8_takeOut_25 rfl (lv_at hl 0 rfl) ?_
        refine g_get hx hb hts in_8 hown hK (hR.f hi).1 rfl 0 (by decide) l_12 rfl rfl dX8_takeOut_26 ?_
        refine g_get hx hb hts in_6 hown hK (hR.f hi).2.1 rfl 3 (by decide) l_199 rfl rfl dX8_takeOut_29 ?_
        refine lv_if_le (tgt := 50) hx hb dX8_takeOut_32 (by decide) (fun c12 => ?_) (fun c12 => ?_)
        · replace hf := g_it hf c12
          refine lv_iconst (v := 1) hx hb dX8_takeOut_50 (by decide) ?_
          refine lv_goto (tgt := 55) hx hb dX8_takeOut_51 (by decide) ?_
          refine lv_istore_n (lv' := [(2, .int (1 : Int32)), (0, .ref (g_stA G i)), (1, .int x1), (3, .int x3)]) hx hb dX8_takeOut_55 rfl hl (by decide) rfl (fun ls hl => ?_)
          refine lv_iload_n hx hb dX8_takeOut_56 rfl (lv_at hl 0 rfl) ?_
          refine lv_if_ne (tgt := 67) hx hb dX8_takeOut_57 (by decide) (fun _ => ?_) (fun c13 => absurd c13 (by decide))
          refine lv_iinc (v := x3 + -1) (lv' := [(3, .int (x3 + -1)), (2, .int (1 : Int32)), (0, .ref (g_stA G i)), (1, .int x1)]) hx hb dX8_takeOut_67 hl (k := 3) rfl rfl (by decide) rfl (fun ls hl => ?_)
          refine lv_goto (tgt := 11) hx hb dX8_takeOut_70 (by decide) ?_
          exact ih _ _ _ _ _ _ _ hf  hR hS (lv_sub hl [2, 3, 1, 0] rfl)
        · replace hf := g_if hf c12
          refine lv_aload_n hx hb dX8_takeOut_35 rfl (lv_at hl 0 rfl) ?_
          refine g_get hx hb hts in_8 hown hK (hR.f hi).1 rfl 10 (by decide) l_58 rfl rfl dX8_takeOut_36 ?_
          refine lv_aload_n hx hb dX8_takeOut_39 rfl (lv_at hl 0 rfl) ?_
          refine g_get hx hb hts in_8 hown hK (hR.f hi).1 rfl 0 (by decide) l_12 rfl rfl dX8_takeOut_40 ?_
          refine g_get hx hb hts in_6 hown hK (hR.f hi).2.1 rfl 3 (by decide) l_199 rfl rfl dX8_takeOut_43 ?_
          obtain ⟨hn14, hf⟩ := g_gd hf
          refine lv_irem hx hb dX8_takeOut_46 hn14 ?_
          refine lv_if_eq (tgt := 54) hx hb dX8_takeOut_47 (by decide) (fun c15 => ?_) (fun c15 => ?_)
          · replace hf := g_it hf c15
            refine lv_iconst (v := 0) hx hb dX8_takeOut_54 (by decide) ?_
            refine lv_istore_n (lv' := [(2, .int (0 : Int32)), (0, .ref (g_stA G i)), (1, .int x1), (3, .int x3)]) hx hb dX8_takeOut_55 rfl hl (by decide) rfl (fun ls hl => ?_)
            refine lv_iload_n hx hb dX8_takeOut_56 rfl (lv_at hl 0 rfl) ?_
            refine lv_if_ne (tgt := 67) hx hb dX8_takeOut_57 (by decide) (fun c16 => absurd (by decide) c16) (fun _ => ?_)
            refine lv_aload_n hx hb dX8_takeOut_60 rfl (lv_at hl 1 rfl) ?_
            refine lv_iload_n hx hb dX8_takeOut_61 rfl (lv_at hl 2 rfl) ?_
            refine lv_iload_n hx hb dX8_takeOut_62 rfl (lv_at hl 3 rfl) ?_
            refine lv_iadd hx hb dX8_takeOut_63 ?_
            obtain ⟨z17, hc18, hf⟩ := g_b1_e hf
            refine g_call (va_runV (As := [.int (x1 + x3)]) (rest := []) ⟨hx, hb, hml, hown, hts⟩ (c8_breakSheet l G E μ i hi _ _ _ hc18) (cwV 1 hts gX8_takeOut_X8_breakSheet rfl rfl rfl (by decide +kernel) ⟨Nat.le_of_ble_eq_true rfl, Nat.le_of_ble_eq_true rfl⟩) (g_preV (ci := 8) hR hK ((hR.f hi).1) rfl) rfl rfl hl.1 rfl (lv_room (Nat.le_of_ble_eq_true rfl)) dX8_takeOut_64 ⟨by show _ ≤ 0; omega, by show _ ≤ 0; omega⟩) hS (fun w19 H locs hp hR hS => ?_)
            subst hp
            refine lv_iinc (v := x3 + -1) (lv' := [(3, .int (x3 + -1)), (2, .int (0 : Int32)), (0, .ref (g_stA G i)), (1, .int x1)]) hx hb dX8_takeOut_67 hl (k := 3) rfl rfl (by decide) rfl (fun ls hl => ?_)
            refine lv_goto (tgt := 11) hx hb dX8_takeOut_70 (by decide) ?_
            exact ih _ _ _ _ _ _ _ hf  hR hS (lv_sub hl [2, 3, 1, 0] rfl)
          · replace hf := g_if hf c15
            refine lv_iconst (v := 1) hx hb dX8_takeOut_50 (by decide) ?_
            refine lv_goto (tgt := 55) hx hb dX8_takeOut_51 (by decide) ?_
            refine lv_istore_n (lv' := [(2, .int (1 : Int32)), (0, .ref (g_stA G i)), (1, .int x1), (3, .int x3)]) hx hb dX8_takeOut_55 rfl hl (by decide) rfl (fun ls hl => ?_)
            refine lv_iload_n hx hb dX8_takeOut_56 rfl (lv_at hl 0 rfl) ?_
            refine lv_if_ne (tgt := 67) hx hb dX8_takeOut_57 (by decide) (fun _ => ?_) (fun c20 => absurd c20 (by decide))
            refine lv_iinc (v := x3 + -1) (lv' := [(3, .int (x3 + -1)), (2, .int (1 : Int32)), (0, .ref (g_stA G i)), (1, .int x1)]) hx hb dX8_takeOut_67 hl (k := 3) rfl rfl (by decide) rfl (fun ls hl => ?_)
            refine lv_goto (tgt := 11) hx hb dX8_takeOut_70 (by decide) ?_
            exact ih _ _ _ _ _ _ _ hf  hR hS (lv_sub hl [2, 3, 1, 0] rfl)
  unfold f8_takeOut at hf
  refine lv_iconst (v := 0) hx hb dX8_takeOut_0 (by decide) ?_
  refine lv_istore_n (lv' := [(2, .int (0 : Int32)), (0, .ref (g_stA G i)), (1, .int p1)]) hx hb dX8_takeOut_1 rfl hl (by decide) rfl (fun ls hl => ?_)
  refine lv_aload_n hx hb dX8_takeOut_2 rfl (lv_at hl 1 rfl) ?_
  refine g_get hx hb hts in_8 hown hK (hR.f hi).1 rfl 1 (by decide) l_21 rfl rfl dX8_takeOut_3 ?_
  refine lv_iload_n hx hb dX8_takeOut_6 rfl (lv_at hl 2 rfl) ?_
  obtain ⟨r1, hc2, hf⟩ := g_b1_e hf
  refine g_call (va_runV (As := [.int p1]) (rest := []) ⟨hx, hb, hml, hown, hts⟩ (c5_sheetsBefore l G E μ i hi _ _ _ hc2) (cwV 1 hts gX8_takeOut_X5_sheetsBefore rfl rfl rfl (by decide +kernel) ⟨Nat.le_of_ble_eq_true rfl, Nat.le_of_ble_eq_true rfl⟩) (g_preV (ci := 5) hR hK ((hR.f hi).2.2.1) rfl) rfl rfl hl.1 rfl (lv_room (Nat.le_of_ble_eq_true rfl)) dX8_takeOut_7 ⟨by show _ ≤ 0; omega, by show _ ≤ 0; omega⟩) hS (fun w3 H locs hp hR hS => ?_)
  subst hp
  refine lv_istore_n (lv' := [(3, .int r1), (2, .int (0 : Int32)), (0, .ref (g_stA G i)), (1, .int p1)]) hx hb dX8_takeOut_10 rfl hl (by decide) rfl (fun ls hl => ?_)
  exact hB11 70 _ _ _ _ _ _ _ hf  hR hS (lv_sub hl [2, 3, 1, 0] rfl)
set_option maxHeartbeats 4000000 in
set_option maxRecDepth 100000 in
theorem c8_cutOpenOrder (l : Launch) (G : gG) (E : gEn) (μ : gMu) (i : Nat) (hi : i < 7) (z0 : gSt) (a1 : Nat) (v1 : gOd) (hE_a1 : E a1 = some (.inr v1)) (a2 : Nat) (v2 : gSh) (hE_a2 : E a2 = some (.inl v2)) (ro : Int32) (zo : gSt) (hf : f8_cutOpenOrder z0 v1 v2 = some (ro, zo)) : Met l yX8_cutOpenOrder wsX8_cutOpenOrder ({ frames := 4, cells := 3, slots := 18, locals := 91 } : Room) (g_Pre G E (g_setS μ i z0) [.ref (g_stA G i), .ref a1, .ref a2]) (g_Q G E (g_setS μ i zo) (fun E' v => v = some (.int ro))) 3 18 (g_A G) := by
  refine Met.ofW (cc := cX8_cutOpenOrder) (maxL := 6) (ret := some .int) (by decide) rfl ?_
  intro p e s m args below meth c s₁ B hml hv
  obtain ⟨rfl, hR, hK⟩ := hv
  have hx := B.exec
  have hb := B.bytes
  have hr := B.returns
  have hts := atoms_spec (ws := wsX8_cutOpenOrder) B.pre
  have hown : s.vm.findClass RX8 = some m.cls := findClass_of_methodNamed B.named
  have hlocks := B.notSynchronized
  have hS : va_S (g_A G) s.heap s.heap [] := va_S.rf
  have hl := lv_entry ([.ref (g_stA G i), .ref a1, .ref a2]) (n := 6) (Nat.le_of_ble_eq_true rfl)
  rw [lg_entry_eq]
  generalize (lg_sl ([.ref (g_stA G i), .ref a1, .ref a2]) ++ List.replicate (6 - (lg_sl ([.ref (g_stA G i), .ref a1, .ref a2])).length) Slot.unset).toArray = ls at hl ⊢
  have hl : lv_has ls 6 [(0, .ref (g_stA G i)), (1, .ref a1), (2, .ref a2)] := hl
  have in_1 : ∀ w ∈ u_ws RX1 TX1 10, w ∈ wsX8_cutOpenOrder := ifX8_cutOpenOrder_1
  have in_7 : ∀ w ∈ u_ws RX7 TX7 5, w ∈ wsX8_cutOpenOrder := ifX8_cutOpenOrder_7
  have in_8 : ∀ w ∈ u_ws RX8 TX8 11, w ∈ wsX8_cutOpenOrder := ifX8_cutOpenOrder_8
  have l_12 := hts (.fieldLink RX8 12 "GlassRacks$State" "settings" "LGlassRacks$Settings;") (by decide +kernel)
  have l_167 := hts (.fieldLink RX8 167 "GlassRacks$Sheet" "number" "I") (by decide +kernel)
  have l_176 := hts (.fieldLink RX8 176 "GlassRacks$Cutting" "lostArea" "I") (by decide +kernel)
  have l_177 := hts (.fieldLink RX8 177 "GlassRacks$Cutting" "besideWidth" "I") (by decide +kernel)
  have l_180 := hts (.fieldLink RX8 180 "GlassRacks$Cutting" "besideHeight" "I") (by decide +kernel)
  have l_187 := hts (.fieldLink RX8 187 "GlassRacks$Cutting" "aboveWidth" "I") (by decide +kernel)
  have l_190 := hts (.fieldLink RX8 190 "GlassRacks$Cutting" "aboveHeight" "I") (by decide +kernel)
  have l_21 := hts (.fieldLink RX8 21 "GlassRacks$State" "racks" "LGlassRacks$Racks;") (by decide +kernel)
  have l_28 := hts (.fieldLink RX8 28 "GlassRacks$State" "orders" "LGlassRacks$Orders;") (by decide +kernel)
  have l_35 := hts (.fieldLink RX8 35 "GlassRacks$State" "cutting" "LGlassRacks$Cutting;") (by decide +kernel)
  have l_39 := hts (.fieldLink RX8 39 "GlassRacks$State" "day" "I") (by decide +kernel)
  have l_46 := hts (.fieldLink RX8 46 "GlassRacks$State" "paneArea" "I") (by decide +kernel)
  have l_55 := hts (.fieldLink RX8 55 "GlassRacks$State" "lostArea" "I") (by decide +kernel)
  unfold f8_cutOpenOrder at hf
  refine lv_aload_n hx hb dX8_cutOpenOrder_0 rfl (lv_at hl 0 rfl) ?_
  refine g_get hx hb hts in_8 hown hK (hR.f hi).1 rfl 1 (by decide) l_21 rfl rfl dX8_cutOpenOrder_1 ?_
  refine lv_aload_n hx hb dX8_cutOpenOrder_4 rfl (lv_at hl 2 rfl) ?_
  refine g_get hx hb hts in_7 hown hK ((hR.2.2.2.2.2 _ _ hE_a2).2) rfl 0 (by decide) l_167 rfl rfl dX8_cutOpenOrder_5 ?_
  obtain ⟨r1, hc2, hf⟩ := g_b1_e hf
  refine g_call (va_runV (As := [.int v2.1]) (rest := []) ⟨hx, hb, hml, hown, hts⟩ (c5_slotOf l G E μ i hi _ _ _ hc2) (cwV 1 hts gX8_cutOpenOrder_X5_slotOf rfl rfl rfl (by decide +kernel) ⟨Nat.le_of_ble_eq_true rfl, Nat.le_of_ble_eq_true rfl⟩) (g_preV (ci := 5) hR hK ((hR.f hi).2.2.1) rfl) rfl rfl hl.1 rfl (lv_room (Nat.le_of_ble_eq_true rfl)) dX8_cutOpenOrder_8 ⟨by show _ ≤ 3; omega, by show _ ≤ 18; omega⟩) hS (fun w3 H locs hp hR hS => ?_)
  subst hp
  refine lv_istore_n (lv' := [(3, .int r1), (0, .ref (g_stA G i)), (1, .ref a1), (2, .ref a2)]) hx hb dX8_cutOpenOrder_11 rfl hl (by decide) rfl (fun ls hl => ?_)
  refine lv_aload_n hx hb dX8_cutOpenOrder_12 rfl (lv_at hl 1 rfl) ?_
  refine lv_iload_n hx hb dX8_cutOpenOrder_13 rfl (lv_at hl 0 rfl) ?_
  obtain ⟨r4, z5, hc6, hf⟩ := g_bd_e hf
  refine g_call (va_runV (As := [.int r1]) (rest := []) ⟨hx, hb, hml, hown, hts⟩ (c8_takeOut l G E μ i hi _ _ _ _ hc6) (cwV 1 hts gX8_cutOpenOrder_X8_takeOut rfl rfl rfl (by decide +kernel) ⟨Nat.le_of_ble_eq_true rfl, Nat.le_of_ble_eq_true rfl⟩) (g_preV (ci := 8) hR hK ((hR.f hi).1) rfl) rfl rfl hl.1 rfl (lv_room (Nat.le_of_ble_eq_true rfl)) dX8_cutOpenOrder_14 ⟨by show _ ≤ 3; omega, by show _ ≤ 18; omega⟩) hS (fun w7 H locs hp hR hS => ?_)
  subst hp
  refine lv_if_ne (tgt := 23) hx hb dX8_cutOpenOrder_17 (by decide) (fun c8 => ?_) (fun c8 => ?_)
  · replace hf := g_it hf c8
    refine lv_aload_n hx hb dX8_cutOpenOrder_23 rfl (lv_at hl 1 rfl) ?_
    refine g_get hx hb hts in_8 hown hK (hR.f hi).1 rfl 3 (by decide) l_35 rfl rfl dX8_cutOpenOrder_24 ?_
    refine lv_aload_n hx hb dX8_cutOpenOrder_27 rfl (lv_at hl 2 rfl) ?_
    refine lv_aload_n hx hb dX8_cutOpenOrder_28 rfl (lv_at hl 3 rfl) ?_
    refine lv_aload_n hx hb dX8_cutOpenOrder_29 rfl (lv_at hl 1 rfl) ?_
    refine g_get hx hb hts in_8 hown hK (hR.f hi).1 rfl 0 (by decide) l_12 rfl rfl dX8_cutOpenOrder_30 ?_
    obtain ⟨r9, z10, hc11, hf⟩ := g_bd_e hf
    refine g_call (va_runV (As := [.ref a1, .ref a2, .ref (g_stA G i + 1)]) (rest := []) ⟨hx, hb, hml, hown, hts⟩ (c1_layOut l G E μ i hi _ _ _ hE_a1 _ _ hE_a2 _ _ hc11) (cwV 3 hts gX8_cutOpenOrder_X1_layOut rfl rfl rfl (by decide +kernel) ⟨Nat.le_of_ble_eq_true rfl, Nat.le_of_ble_eq_true rfl⟩) (g_preV (ci := 1) hR hK ((hR.f hi).2.2.2.2.2.2) rfl) rfl rfl hl.1 rfl (lv_room (Nat.le_of_ble_eq_true rfl)) dX8_cutOpenOrder_33 ⟨by show _ ≤ 3; omega, by show _ ≤ 18; omega⟩) hS (fun w12 H locs hp hR hS => ?_)
    subst hp
    refine lv_pop hx hb dX8_cutOpenOrder_36 rfl ?_
    refine lv_aload_n hx hb dX8_cutOpenOrder_37 rfl (lv_at hl 1 rfl) ?_
    refine g_get hx hb hts in_8 hown hK (hR.f hi).1 rfl 2 (by decide) l_28 rfl rfl dX8_cutOpenOrder_38 ?_
    refine lv_aload_n hx hb dX8_cutOpenOrder_41 rfl (lv_at hl 2 rfl) ?_
    refine lv_aload_n hx hb dX8_cutOpenOrder_42 rfl (lv_at hl 3 rfl) ?_
    refine g_get hx hb hts in_7 hown hK ((hR.2.2.2.2.2 _ _ hE_a2).2) rfl 0 (by decide) l_167 rfl rfl dX8_cutOpenOrder_43 ?_
    refine lv_aload_n hx hb dX8_cutOpenOrder_46 rfl (lv_at hl 1 rfl) ?_
    refine g_get hx hb hts in_8 hown hK (hR.f hi).1 rfl 4 (by decide) l_39 rfl rfl dX8_cutOpenOrder_47 ?_
    obtain ⟨r13, hc14, hf⟩ := g_b1_e hf
    refine g_calln (va_runV (As := [.int v2.1, .int (z10.1 5)]) (rest := [.ref (g_stA G i + 4)]) ⟨hx, hb, hml, hown, hts⟩ (c3_asCut l G E (g_setS μ i z10) _ _ hE_a1 _ _ _ hc14) (cwV 2 hts gX8_cutOpenOrder_X3_asCut rfl rfl rfl (by decide +kernel) ⟨Nat.le_of_ble_eq_true rfl, Nat.le_of_ble_eq_true rfl⟩) (g_preV (ci := 3) hR hK ((hR.2.2.2.2.2 _ _ hE_a1).2) rfl) rfl rfl hl.1 rfl (lv_room (Nat.le_of_ble_eq_true rfl)) dX8_cutOpenOrder_50 ⟨by show _ ≤ 3; omega, by show _ ≤ 18; omega⟩) hS (fun w15 E16 H locs hp hle17 hR hS => ?_)
    have hE_a1 := hle17 _ _ hE_a1
    have hE_a2 := hle17 _ _ hE_a2
    obtain ⟨a18, rfl, hE_a18⟩ := hp
    obtain ⟨z19, hc20, hf⟩ := g_b1_e hf
    refine g_call (va_runV (As := [.ref a18]) (rest := []) ⟨hx, hb, hml, hown, hts⟩ (c4_replace l G E16 μ i hi _ _ _ hE_a18 _ hc20) (cwV 1 hts gX8_cutOpenOrder_X4_replace rfl rfl rfl (by decide +kernel) ⟨Nat.le_of_ble_eq_true rfl, Nat.le_of_ble_eq_true rfl⟩) (g_preV (ci := 4) hR hK ((hR.f hi).2.2.2.2.1) rfl) rfl rfl hl.1 rfl (lv_room (Nat.le_of_ble_eq_true rfl)) dX8_cutOpenOrder_53 ⟨by show _ ≤ 3; omega, by show _ ≤ 18; omega⟩) hS (fun w21 H locs hp hR hS => ?_)
    subst hp
    refine lv_aload_n hx hb dX8_cutOpenOrder_56 rfl (lv_at hl 1 rfl) ?_
    refine lv_dup hx hb dX8_cutOpenOrder_57 rfl ?_
    refine g_get hx hb hts in_8 hown hK (hR.f hi).1 rfl 6 (by decide) l_46 rfl rfl dX8_cutOpenOrder_58 ?_
    refine lv_aload_n hx hb dX8_cutOpenOrder_61 rfl (lv_at hl 2 rfl) ?_
    obtain ⟨r22, hc23, hf⟩ := g_b1_e hf
    refine g_call (va_runV (As := []) (rest := [.int (z19.1 7), .ref (g_stA G i)]) ⟨hx, hb, hml, hown, hts⟩ (c3_area l G E16 (g_setS μ i z19) _ _ hE_a1 _ hc23) (cwV 0 hts gX8_cutOpenOrder_X3_area rfl rfl rfl (by decide +kernel) ⟨Nat.le_of_ble_eq_true rfl, Nat.le_of_ble_eq_true rfl⟩) (g_preV (ci := 3) hR hK ((hR.2.2.2.2.2 _ _ hE_a1).2) rfl) rfl rfl hl.1 rfl (lv_room (Nat.le_of_ble_eq_true rfl)) dX8_cutOpenOrder_62 ⟨by show _ ≤ 3; omega, by show _ ≤ 18; omega⟩) hS (fun w24 H locs hp hR hS => ?_)
    subst hp
    refine lv_iadd hx hb dX8_cutOpenOrder_65 ?_
    refine g_p8_6 hx hb hts in_8 hown hK hS hR hi l_46 dX8_cutOpenOrder_66 (fun H locs hR hS => ?_)
    obtain ⟨z25, ez25, hf⟩ := g_let_e hf
    replace hR : g_R G E16 (g_setS μ i z25) H := by rw [ez25]; exact hR
    refine lv_aload_n hx hb dX8_cutOpenOrder_69 rfl (lv_at hl 1 rfl) ?_
    refine lv_dup hx hb dX8_cutOpenOrder_70 rfl ?_
    refine g_get hx hb hts in_8 hown hK (hR.f hi).1 rfl 9 (by decide) l_55 rfl rfl dX8_cutOpenOrder_71 ?_
    refine lv_aload_n hx hb dX8_cutOpenOrder_74 rfl (lv_at hl 1 rfl) ?_
    refine g_get hx hb hts in_8 hown hK (hR.f hi).1 rfl 3 (by decide) l_35 rfl rfl dX8_cutOpenOrder_75 ?_
    refine g_get hx hb hts in_1 hown hK (hR.f hi).2.2.2.2.2.2 rfl 9 (by decide) l_176 rfl rfl dX8_cutOpenOrder_78 ?_
    refine lv_iadd hx hb dX8_cutOpenOrder_81 ?_
    refine g_p8_9 hx hb hts in_8 hown hK hS hR hi l_55 dX8_cutOpenOrder_82 (fun H locs hR hS => ?_)
    obtain ⟨z26, ez26, hf⟩ := g_let_e hf
    replace hR : g_R G E16 (g_setS μ i z26) H := by rw [ez26]; exact hR
    refine lv_iload_n hx hb dX8_cutOpenOrder_85 rfl (lv_at hl 0 rfl) ?_
    refine lv_bipush (v := 8) hx hb dX8_cutOpenOrder_86 (by decide) ?_
    refine lv_idiv hx hb dX8_cutOpenOrder_88 (by decide) ?_
    refine lv_topi (fun t27 et27 => ?_)
    replace hf := g_let_at hf et27
    refine lv_istore (lv' := [(4, .int t27), (3, .int r1), (0, .ref (g_stA G i)), (1, .ref a1), (2, .ref a2)]) hx hb dX8_cutOpenOrder_89 hl (by decide) rfl (fun ls hl => ?_)
    refine lv_aload_n hx hb dX8_cutOpenOrder_91 rfl (lv_at hl 2 rfl) ?_
    refine lv_aload_n hx hb dX8_cutOpenOrder_92 rfl (lv_at hl 2 rfl) ?_
    refine g_get hx hb hts in_8 hown hK (hR.f hi).1 rfl 3 (by decide) l_35 rfl rfl dX8_cutOpenOrder_93 ?_
    refine g_get hx hb hts in_1 hown hK (hR.f hi).2.2.2.2.2.2 rfl 1 (by decide) l_177 rfl rfl dX8_cutOpenOrder_96 ?_
    refine lv_aload_n hx hb dX8_cutOpenOrder_99 rfl (lv_at hl 2 rfl) ?_
    refine g_get hx hb hts in_8 hown hK (hR.f hi).1 rfl 3 (by decide) l_35 rfl rfl dX8_cutOpenOrder_100 ?_
    refine g_get hx hb hts in_1 hown hK (hR.f hi).2.2.2.2.2.2 rfl 2 (by decide) l_180 rfl rfl dX8_cutOpenOrder_103 ?_
    refine lv_aload_n hx hb dX8_cutOpenOrder_106 rfl (lv_at hl 4 rfl) ?_
    refine lv_iload hx hb dX8_cutOpenOrder_107 (lv_at hl 0 rfl) ?_
    obtain ⟨r28, z29, hc30, hf⟩ := g_bd_e hf
    refine g_calln (va_runV (As := [.int (z26.1 15), .int (z26.1 16), .ref a2, .int t27]) (rest := []) ⟨hx, hb, hml, hown, hts⟩ (c8_keepOrScrap l G E16 μ i hi _ _ _ _ _ hE_a2 _ _ _ hc30) (cwV 4 hts gX8_cutOpenOrder_X8_keepOrScrap rfl rfl rfl (by decide +kernel) ⟨Nat.le_of_ble_eq_true rfl, Nat.le_of_ble_eq_true rfl⟩) (g_preV (ci := 8) hR hK ((hR.f hi).1) rfl) rfl rfl hl.1 rfl (lv_room (Nat.le_of_ble_eq_true rfl)) dX8_cutOpenOrder_109 ⟨by show _ ≤ 3; omega, by show _ ≤ 18; omega⟩) hS (fun w31 E32 H locs hp hle33 hR hS => ?_)
    have hE_a1 := hle33 _ _ hE_a1
    have hE_a2 := hle33 _ _ hE_a2
    subst hp
    refine lv_istore (lv' := [(5, .int r28), (4, .int t27), (3, .int r1), (0, .ref (g_stA G i)), (1, .ref a1), (2, .ref a2)]) hx hb dX8_cutOpenOrder_112 hl (by decide) rfl (fun ls hl => ?_)
    refine lv_iload hx hb dX8_cutOpenOrder_114 (lv_at hl 0 rfl) ?_
    refine lv_aload_n hx hb dX8_cutOpenOrder_116 rfl (lv_at hl 3 rfl) ?_
    refine lv_aload_n hx hb dX8_cutOpenOrder_117 rfl (lv_at hl 3 rfl) ?_
    refine g_get hx hb hts in_8 hown hK (hR.f hi).1 rfl 3 (by decide) l_35 rfl rfl dX8_cutOpenOrder_118 ?_
    refine g_get hx hb hts in_1 hown hK (hR.f hi).2.2.2.2.2.2 rfl 4 (by decide) l_187 rfl rfl dX8_cutOpenOrder_121 ?_
    refine lv_aload_n hx hb dX8_cutOpenOrder_124 rfl (lv_at hl 3 rfl) ?_
    refine g_get hx hb hts in_8 hown hK (hR.f hi).1 rfl 3 (by decide) l_35 rfl rfl dX8_cutOpenOrder_125 ?_
    refine g_get hx hb hts in_1 hown hK (hR.f hi).2.2.2.2.2.2 rfl 5 (by decide) l_190 rfl rfl dX8_cutOpenOrder_128 ?_
    refine lv_aload_n hx hb dX8_cutOpenOrder_131 rfl (lv_at hl 5 rfl) ?_
    refine lv_iload hx hb dX8_cutOpenOrder_132 (lv_at hl 1 rfl) ?_
    obtain ⟨r34, z35, hc36, hf⟩ := g_bd_e hf
    refine g_calln (va_runV (As := [.int (z29.1 18), .int (z29.1 19), .ref a2, .int t27]) (rest := [.int r28]) ⟨hx, hb, hml, hown, hts⟩ (c8_keepOrScrap l G E32 μ i hi _ _ _ _ _ hE_a2 _ _ _ hc36) (cwV 4 hts gX8_cutOpenOrder_X8_keepOrScrap rfl rfl rfl (by decide +kernel) ⟨Nat.le_of_ble_eq_true rfl, Nat.le_of_ble_eq_true rfl⟩) (g_preV (ci := 8) hR hK ((hR.f hi).1) rfl) rfl rfl hl.1 rfl (lv_room (Nat.le_of_ble_eq_true rfl)) dX8_cutOpenOrder_134 ⟨by show _ ≤ 3; omega, by show _ ≤ 18; omega⟩) hS (fun w37 E38 H locs hp hle39 hR hS => ?_)
    have hE_a1 := hle39 _ _ hE_a1
    have hE_a2 := hle39 _ _ hE_a2
    subst hp
    refine lv_iadd hx hb dX8_cutOpenOrder_137 ?_
    obtain ⟨rfl, rfl⟩ := g_sp hf
    exact g_iret hx hb hlocks hr hS hR ((((((g_le.rf).tr hle17)).tr hle33)).tr hle39) rfl (by omega) (by omega) dX8_cutOpenOrder_138
  · replace hf := g_if hf (fun q => q c8)
    refine lv_bipush (v := 10) hx hb dX8_cutOpenOrder_20 (by decide) ?_
    obtain ⟨rfl, rfl⟩ := g_sp hf
    exact g_iret hx hb hlocks hr hS hR g_le.rf rfl (by omega) (by omega) dX8_cutOpenOrder_22
set_option maxHeartbeats 4000000 in
set_option maxRecDepth 100000 in
theorem c8_cutOrder (l : Launch) (G : gG) (E : gEn) (μ : gMu) (i : Nat) (hi : i < 7) (z0 : gSt) (p1 : Int32) (p2 : Int32) (ro : Int32) (zo : gSt) (hf : f8_cutOrder z0 p1 p2 = some (ro, zo)) : Met l yX8_cutOrder wsX8_cutOrder ({ frames := 5, cells := 3, slots := 18, locals := 116 } : Room) (g_Pre G E (g_setS μ i z0) [.ref (g_stA G i), .int p1, .int p2]) (g_Q G E (g_setS μ i zo) (fun E' v => v = some (.int ro))) 3 18 (g_A G) := by
  refine Met.ofW (cc := cX8_cutOrder) (maxL := 5) (ret := some .int) (by decide) rfl ?_
  intro p e s m args below meth c s₁ B hml hv
  obtain ⟨rfl, hR, hK⟩ := hv
  have hx := B.exec
  have hb := B.bytes
  have hr := B.returns
  have hts := atoms_spec (ws := wsX8_cutOrder) B.pre
  have hown : s.vm.findClass RX8 = some m.cls := findClass_of_methodNamed B.named
  have hlocks := B.notSynchronized
  have hS : va_S (g_A G) s.heap s.heap [] := va_S.rf
  have hl := lv_entry ([.ref (g_stA G i), .int p1, .int p2]) (n := 5) (Nat.le_of_ble_eq_true rfl)
  rw [lg_entry_eq]
  generalize (lg_sl ([.ref (g_stA G i), .int p1, .int p2]) ++ List.replicate (5 - (lg_sl ([.ref (g_stA G i), .int p1, .int p2])).length) Slot.unset).toArray = ls at hl ⊢
  have hl : lv_has ls 5 [(0, .ref (g_stA G i)), (1, .int p1), (2, .int p2)] := hl
  have in_8 : ∀ w ∈ u_ws RX8 TX8 11, w ∈ wsX8_cutOrder := ifX8_cutOrder_8
  have l_12 := hts (.fieldLink RX8 12 "GlassRacks$State" "settings" "LGlassRacks$Settings;") (by decide +kernel)
  have l_21 := hts (.fieldLink RX8 21 "GlassRacks$State" "racks" "LGlassRacks$Racks;") (by decide +kernel)
  have l_28 := hts (.fieldLink RX8 28 "GlassRacks$State" "orders" "LGlassRacks$Orders;") (by decide +kernel)
  have l_35 := hts (.fieldLink RX8 35 "GlassRacks$State" "cutting" "LGlassRacks$Cutting;") (by decide +kernel)
  unfold f8_cutOrder at hf
  refine lv_aload_n hx hb dX8_cutOrder_0 rfl (lv_at hl 0 rfl) ?_
  refine g_get hx hb hts in_8 hown hK (hR.f hi).1 rfl 2 (by decide) l_28 rfl rfl dX8_cutOrder_1 ?_
  refine lv_iload_n hx hb dX8_cutOrder_4 rfl (lv_at hl 1 rfl) ?_
  obtain ⟨r1, hc2, hf⟩ := g_b1_e hf
  refine g_call (va_runV (As := [.int p1]) (rest := []) ⟨hx, hb, hml, hown, hts⟩ (c4_numbered l G E μ i hi _ _ _ hc2) (cwV 1 hts gX8_cutOrder_X4_numbered rfl rfl rfl (by decide +kernel) ⟨Nat.le_of_ble_eq_true rfl, Nat.le_of_ble_eq_true rfl⟩) (g_preV (ci := 4) hR hK ((hR.f hi).2.2.2.2.1) rfl) rfl rfl hl.1 rfl (lv_room (Nat.le_of_ble_eq_true rfl)) dX8_cutOrder_5 ⟨by show _ ≤ 3; omega, by show _ ≤ 18; omega⟩) hS (fun w3 H locs hp hR hS => ?_)
  obtain ⟨w4, rfl, hp⟩ := hp
  rcases r1 with _ | v6
  · replace hf := g_ocn hf rfl
    obtain rfl : w4 = .null := hp
    refine lv_astore_nN (lv' := [(3, .null), (0, .ref (g_stA G i)), (1, .int p1), (2, .int p2)]) hx hb dX8_cutOrder_8 rfl hl (by decide) rfl (fun ls hl => ?_)
    refine lv_aload_n hx hb dX8_cutOrder_9 rfl (lv_at hl 1 rfl) ?_
    refine g_get hx hb hts in_8 hown hK (hR.f hi).1 rfl 1 (by decide) l_21 rfl rfl dX8_cutOrder_10 ?_
    refine lv_aload_n hx hb dX8_cutOrder_13 rfl (lv_at hl 1 rfl) ?_
    refine g_get hx hb hts in_8 hown hK (hR.f hi).1 rfl 1 (by decide) l_21 rfl rfl dX8_cutOrder_14 ?_
    refine lv_iload_n hx hb dX8_cutOrder_17 rfl (lv_at hl 3 rfl) ?_
    obtain ⟨r7, hc8, hf⟩ := g_b1_e hf
    refine g_call (va_runV (As := [.int p2]) (rest := [.ref (g_stA G i + 2)]) ⟨hx, hb, hml, hown, hts⟩ (c5_slotOf l G E μ i hi _ _ _ hc8) (cwV 1 hts gX8_cutOrder_X5_slotOf rfl rfl rfl (by decide +kernel) ⟨Nat.le_of_ble_eq_true rfl, Nat.le_of_ble_eq_true rfl⟩) (g_preV (ci := 5) hR hK ((hR.f hi).2.2.1) rfl) rfl rfl hl.1 rfl (lv_room (Nat.le_of_ble_eq_true rfl)) dX8_cutOrder_18 ⟨by show _ ≤ 3; omega, by show _ ≤ 18; omega⟩) hS (fun w9 H locs hp hR hS => ?_)
    subst hp
    obtain ⟨r10, hc11, hf⟩ := g_b1_e hf
    refine g_call (va_runV (As := [.int r7]) (rest := []) ⟨hx, hb, hml, hown, hts⟩ (c5_inSlot l G E μ i hi _ _ _ hc11) (cwV 1 hts gX8_cutOrder_X5_inSlot rfl rfl rfl (by decide +kernel) ⟨Nat.le_of_ble_eq_true rfl, Nat.le_of_ble_eq_true rfl⟩) (g_preV (ci := 5) hR hK ((hR.f hi).2.2.1) rfl) rfl rfl hl.1 rfl (lv_room (Nat.le_of_ble_eq_true rfl)) dX8_cutOrder_21 ⟨by show _ ≤ 3; omega, by show _ ≤ 18; omega⟩) hS (fun w12 H locs hp hR hS => ?_)
    obtain ⟨w13, rfl, hp⟩ := hp
    rcases r10 with _ | v15
    · replace hf := g_ocn hf rfl
      obtain rfl : w13 = .null := hp
      refine lv_astoreN (lv' := [(4, .null), (3, .null), (0, .ref (g_stA G i)), (1, .int p1), (2, .int p2)]) hx hb dX8_cutOrder_24 hl (by decide) rfl (fun ls hl => ?_)
      refine lv_aload_nN hx hb dX8_cutOrder_26 rfl (lv_at hl 1 rfl) ?_
      refine lv_ifnullN (tgt := 35) hx hb dX8_cutOrder_27 (by decide) ?_
      refine lv_iconst (v := -1) hx hb dX8_cutOrder_35 (by decide) ?_
      obtain ⟨rfl, rfl⟩ := g_sp hf
      exact g_iret hx hb hlocks hr hS hR g_le.rf rfl (by omega) (by omega) dX8_cutOrder_36
    · replace hf := g_ocs hf rfl
      obtain ⟨a14, rfl, hE_a14⟩ := hp
      refine lv_astore (lv' := [(4, .ref a14), (3, .null), (0, .ref (g_stA G i)), (1, .int p1), (2, .int p2)]) hx hb dX8_cutOrder_24 hl (by decide) rfl (fun ls hl => ?_)
      refine lv_aload_nN hx hb dX8_cutOrder_26 rfl (lv_at hl 1 rfl) ?_
      refine lv_ifnullN (tgt := 35) hx hb dX8_cutOrder_27 (by decide) ?_
      refine lv_iconst (v := -1) hx hb dX8_cutOrder_35 (by decide) ?_
      obtain ⟨rfl, rfl⟩ := g_sp hf
      exact g_iret hx hb hlocks hr hS hR g_le.rf rfl (by omega) (by omega) dX8_cutOrder_36
  · replace hf := g_ocs hf rfl
    obtain ⟨a5, rfl, hE_a5⟩ := hp
    refine lv_astore_n (lv' := [(3, .ref a5), (0, .ref (g_stA G i)), (1, .int p1), (2, .int p2)]) hx hb dX8_cutOrder_8 rfl hl (by decide) rfl (fun ls hl => ?_)
    refine lv_aload_n hx hb dX8_cutOrder_9 rfl (lv_at hl 1 rfl) ?_
    refine g_get hx hb hts in_8 hown hK (hR.f hi).1 rfl 1 (by decide) l_21 rfl rfl dX8_cutOrder_10 ?_
    refine lv_aload_n hx hb dX8_cutOrder_13 rfl (lv_at hl 1 rfl) ?_
    refine g_get hx hb hts in_8 hown hK (hR.f hi).1 rfl 1 (by decide) l_21 rfl rfl dX8_cutOrder_14 ?_
    refine lv_iload_n hx hb dX8_cutOrder_17 rfl (lv_at hl 3 rfl) ?_
    obtain ⟨r16, hc17, hf⟩ := g_b1_e hf
    refine g_call (va_runV (As := [.int p2]) (rest := [.ref (g_stA G i + 2)]) ⟨hx, hb, hml, hown, hts⟩ (c5_slotOf l G E μ i hi _ _ _ hc17) (cwV 1 hts gX8_cutOrder_X5_slotOf rfl rfl rfl (by decide +kernel) ⟨Nat.le_of_ble_eq_true rfl, Nat.le_of_ble_eq_true rfl⟩) (g_preV (ci := 5) hR hK ((hR.f hi).2.2.1) rfl) rfl rfl hl.1 rfl (lv_room (Nat.le_of_ble_eq_true rfl)) dX8_cutOrder_18 ⟨by show _ ≤ 3; omega, by show _ ≤ 18; omega⟩) hS (fun w18 H locs hp hR hS => ?_)
    subst hp
    obtain ⟨r19, hc20, hf⟩ := g_b1_e hf
    refine g_call (va_runV (As := [.int r16]) (rest := []) ⟨hx, hb, hml, hown, hts⟩ (c5_inSlot l G E μ i hi _ _ _ hc20) (cwV 1 hts gX8_cutOrder_X5_inSlot rfl rfl rfl (by decide +kernel) ⟨Nat.le_of_ble_eq_true rfl, Nat.le_of_ble_eq_true rfl⟩) (g_preV (ci := 5) hR hK ((hR.f hi).2.2.1) rfl) rfl rfl hl.1 rfl (lv_room (Nat.le_of_ble_eq_true rfl)) dX8_cutOrder_21 ⟨by show _ ≤ 3; omega, by show _ ≤ 18; omega⟩) hS (fun w21 H locs hp hR hS => ?_)
    obtain ⟨w22, rfl, hp⟩ := hp
    rcases r19 with _ | v24
    · replace hf := g_ocn hf rfl
      obtain rfl : w22 = .null := hp
      refine lv_astoreN (lv' := [(4, .null), (3, .ref a5), (0, .ref (g_stA G i)), (1, .int p1), (2, .int p2)]) hx hb dX8_cutOrder_24 hl (by decide) rfl (fun ls hl => ?_)
      refine lv_aload_n hx hb dX8_cutOrder_26 rfl (lv_at hl 1 rfl) ?_
      refine lv_ifnull hx hb dX8_cutOrder_27 ?_
      refine lv_aloadN hx hb dX8_cutOrder_30 (lv_at hl 0 rfl) ?_
      refine lv_ifnonnullN hx hb dX8_cutOrder_32 ?_
      refine lv_iconst (v := -1) hx hb dX8_cutOrder_35 (by decide) ?_
      obtain ⟨rfl, rfl⟩ := g_sp hf
      exact g_iret hx hb hlocks hr hS hR g_le.rf rfl (by omega) (by omega) dX8_cutOrder_36
    · replace hf := g_ocs hf rfl
      obtain ⟨a23, rfl, hE_a23⟩ := hp
      refine lv_astore (lv' := [(4, .ref a23), (3, .ref a5), (0, .ref (g_stA G i)), (1, .int p1), (2, .int p2)]) hx hb dX8_cutOrder_24 hl (by decide) rfl (fun ls hl => ?_)
      refine lv_aload_n hx hb dX8_cutOrder_26 rfl (lv_at hl 1 rfl) ?_
      refine lv_ifnull hx hb dX8_cutOrder_27 ?_
      refine lv_aload hx hb dX8_cutOrder_30 (lv_at hl 0 rfl) ?_
      refine lv_ifnonnull (tgt := 37) hx hb dX8_cutOrder_32 (by decide) ?_
      refine lv_aload_n hx hb dX8_cutOrder_37 rfl (lv_at hl 1 rfl) ?_
      obtain ⟨r25, hc26, hf⟩ := g_b1_e hf
      refine g_call (va_runV (As := []) (rest := []) ⟨hx, hb, hml, hown, hts⟩ (c3_isOpen l G E (g_setS μ i z0) _ _ hE_a5 _ hc26) (cwV 0 hts gX8_cutOrder_X3_isOpen rfl rfl rfl (by decide +kernel) ⟨Nat.le_of_ble_eq_true rfl, Nat.le_of_ble_eq_true rfl⟩) (g_preV (ci := 3) hR hK ((hR.2.2.2.2.2 _ _ hE_a5).2) rfl) rfl rfl hl.1 rfl (lv_room (Nat.le_of_ble_eq_true rfl)) dX8_cutOrder_38 ⟨by show _ ≤ 3; omega, by show _ ≤ 18; omega⟩) hS (fun w27 H locs hp hR hS => ?_)
      subst hp
      refine lv_if_eq (tgt := 61) hx hb dX8_cutOrder_41 (by decide) (fun c28 => ?_) (fun c28 => ?_)
      · replace hf := g_it hf c28
        refine lv_bipush (v := -4) hx hb dX8_cutOrder_61 (by decide) ?_
        obtain ⟨rfl, rfl⟩ := g_sp hf
        exact g_iret hx hb hlocks hr hS hR g_le.rf rfl (by omega) (by omega) dX8_cutOrder_63
      · replace hf := g_if hf c28
        refine lv_aload_n hx hb dX8_cutOrder_44 rfl (lv_at hl 2 rfl) ?_
        refine g_get hx hb hts in_8 hown hK (hR.f hi).1 rfl 3 (by decide) l_35 rfl rfl dX8_cutOrder_45 ?_
        refine lv_aload_n hx hb dX8_cutOrder_48 rfl (lv_at hl 1 rfl) ?_
        refine lv_aload hx hb dX8_cutOrder_49 (lv_at hl 0 rfl) ?_
        refine lv_aload_n hx hb dX8_cutOrder_51 rfl (lv_at hl 2 rfl) ?_
        refine g_get hx hb hts in_8 hown hK (hR.f hi).1 rfl 0 (by decide) l_12 rfl rfl dX8_cutOrder_52 ?_
        obtain ⟨r29, z30, hc31, hf⟩ := g_bd_e hf
        refine g_call (va_runV (As := [.ref a5, .ref a23, .ref (g_stA G i + 1)]) (rest := []) ⟨hx, hb, hml, hown, hts⟩ (c1_layOut l G E μ i hi _ _ _ hE_a5 _ _ hE_a23 _ _ hc31) (cwV 3 hts gX8_cutOrder_X1_layOut rfl rfl rfl (by decide +kernel) ⟨Nat.le_of_ble_eq_true rfl, Nat.le_of_ble_eq_true rfl⟩) (g_preV (ci := 1) hR hK ((hR.f hi).2.2.2.2.2.2) rfl) rfl rfl hl.1 rfl (lv_room (Nat.le_of_ble_eq_true rfl)) dX8_cutOrder_55 ⟨by show _ ≤ 3; omega, by show _ ≤ 18; omega⟩) hS (fun w32 H locs hp hR hS => ?_)
        subst hp
        refine lv_if_ne (tgt := 64) hx hb dX8_cutOrder_58 (by decide) (fun c33 => ?_) (fun c33 => ?_)
        · replace hf := g_it hf c33
          refine lv_aload_n hx hb dX8_cutOrder_64 rfl (lv_at hl 2 rfl) ?_
          refine lv_aload_n hx hb dX8_cutOrder_65 rfl (lv_at hl 1 rfl) ?_
          refine lv_aload hx hb dX8_cutOrder_66 (lv_at hl 0 rfl) ?_
          obtain ⟨r34, z35, hc36, hf⟩ := g_bd_e hf
          refine g_calln (va_runV (As := [.ref a5, .ref a23]) (rest := []) ⟨hx, hb, hml, hown, hts⟩ (c8_cutOpenOrder l G E μ i hi _ _ _ hE_a5 _ _ hE_a23 _ _ hc36) (cwV 2 hts gX8_cutOrder_X8_cutOpenOrder rfl rfl rfl (by decide +kernel) ⟨Nat.le_of_ble_eq_true rfl, Nat.le_of_ble_eq_true rfl⟩) (g_preV (ci := 8) hR hK ((hR.f hi).1) rfl) rfl rfl hl.1 rfl (lv_room (Nat.le_of_ble_eq_true rfl)) dX8_cutOrder_68 ⟨by show _ ≤ 3; omega, by show _ ≤ 18; omega⟩) hS (fun w37 E38 H locs hp hle39 hR hS => ?_)
          have hE_a5 := hle39 _ _ hE_a5
          have hE_a23 := hle39 _ _ hE_a23
          subst hp
          obtain ⟨rfl, rfl⟩ := g_sp hf
          exact g_iret hx hb hlocks hr hS hR ((g_le.rf).tr hle39) rfl (by omega) (by omega) dX8_cutOrder_71
        · replace hf := g_if hf (fun q => q c33)
          refine lv_bipush (v := -4) hx hb dX8_cutOrder_61 (by decide) ?_
          obtain ⟨rfl, rfl⟩ := g_sp hf
          exact g_iret hx hb hlocks hr hS hR g_le.rf rfl (by omega) (by omega) dX8_cutOrder_63
set_option maxHeartbeats 4000000 in
set_option maxRecDepth 100000 in
theorem c8_moveSheet (l : Launch) (G : gG) (E : gEn) (μ : gMu) (i : Nat) (hi : i < 7) (z0 : gSt) (p1 : Int32) (p2 : Int32) (ro : Int32) (zo : gSt) (hf : f8_moveSheet z0 p1 p2 = some (ro, zo)) : Met l yX8_moveSheet wsX8_moveSheet ({ frames := 3, cells := 0, slots := 0, locals := 68 } : Room) (g_Pre G E (g_setS μ i z0) [.ref (g_stA G i), .int p1, .int p2]) (g_Q G E (g_setS μ i zo) (fun E' v => E' = E ∧ v = some (.int ro))) 0 0 (g_A G) := by
  refine Met.ofW (cc := cX8_moveSheet) (maxL := 6) (ret := some .int) (by decide) rfl ?_
  intro p e s m args below meth c s₁ B hml hv
  obtain ⟨rfl, hR, hK⟩ := hv
  have hx := B.exec
  have hb := B.bytes
  have hr := B.returns
  have hts := atoms_spec (ws := wsX8_moveSheet) B.pre
  have hown : s.vm.findClass RX8 = some m.cls := findClass_of_methodNamed B.named
  have hlocks := B.notSynchronized
  have hS : va_S (g_A G) s.heap s.heap [] := va_S.rf
  have hl := lv_entry ([.ref (g_stA G i), .int p1, .int p2]) (n := 6) (Nat.le_of_ble_eq_true rfl)
  rw [lg_entry_eq]
  generalize (lg_sl ([.ref (g_stA G i), .int p1, .int p2]) ++ List.replicate (6 - (lg_sl ([.ref (g_stA G i), .int p1, .int p2])).length) Slot.unset).toArray = ls at hl ⊢
  have hl : lv_has ls 6 [(0, .ref (g_stA G i)), (1, .int p1), (2, .int p2)] := hl
  have in_8 : ∀ w ∈ u_ws RX8 TX8 11, w ∈ wsX8_moveSheet := ifX8_moveSheet_8
  have l_21 := hts (.fieldLink RX8 21 "GlassRacks$State" "racks" "LGlassRacks$Racks;") (by decide +kernel)
  have k_71 : va_Nw (.methodLinkNest RX8 71 yX9_isRack "GlassRacks") s := hK.2 (RX8, 71, yX9_isRack) (by decide +kernel)
  have k2_71 := hts (.initialized RX9) (by decide +kernel)
  have k3_71 := hts (.static yX9_isRack) (by decide +kernel)
  have hB55 : ∀ (z0 : gSt) (x2 : Int32) (x3 : Int32) (ax4 : Nat) (vx4 : gSh) (H : Heap) (locs : List Loc) (ls : Array Slot), f8_moveSheet_55 z0 x2 x3 vx4 = some (ro, zo) → E ax4 = some (.inl vx4) → g_R G E (g_setS μ i z0) H → va_S (g_A G) s.heap H locs → lv_has ls 6 [(0, .ref (g_stA G i)), (2, .int x2), (3, .int x3), (4, .ref ax4)] → W p l e (headSpec wsX8_moveSheet ({ frames := 3, cells := 0, slots := 0, locals := 68 } : Room)).room s m ([.ref (g_stA G i), .int p1, .int p2] : List Value).toArray below meth c H locs 0 0 (MQ below (g_Q G E (g_setS μ i zo) (fun E' v => E' = E ∧ v = some (.int ro))) ([.ref (g_stA G i), .int p1, .int p2] : List Value).toArray s 0 0 (g_A G)) (F0 m 55 ls []) := by
    intro z0 x2 x3 ax4 vx4 H locs ls hf hE_ax4 hR hS hl
    unfold f8_moveSheet_55 at hf
    refine lv_aload_n hx hb dX8_moveSheet_55 rfl (lv_at hl 0 rfl) ?_
    refine g_get hx hb hts in_8 hown hK (hR.f hi).1 rfl 1 (by decide) l_21 rfl rfl dX8_moveSheet_56 ?_
    refine lv_iload_n hx hb dX8_moveSheet_59 rfl (lv_at hl 2 rfl) ?_
    obtain ⟨r15, hc16, hf⟩ := g_b1_e hf
    refine g_call (va_runV (As := [.int x3]) (rest := []) ⟨hx, hb, hml, hown, hts⟩ (c5_sheetsBefore l G E μ i hi _ _ _ hc16) (cwV 1 hts gX8_moveSheet_X5_sheetsBefore rfl rfl rfl (by decide +kernel) ⟨Nat.le_of_ble_eq_true rfl, Nat.le_of_ble_eq_true rfl⟩) (g_preV (ci := 5) hR hK ((hR.f hi).2.2.1) rfl) rfl rfl hl.1 rfl (lv_room (Nat.le_of_ble_eq_true rfl)) dX8_moveSheet_60 ⟨by show _ ≤ 0; omega, by show _ ≤ 0; omega⟩) hS (fun w17 H locs hp hR hS => ?_)
    subst hp
    refine lv_iconst (v := 1) hx hb dX8_moveSheet_63 (by decide) ?_
    refine lv_iadd hx hb dX8_moveSheet_64 ?_
    refine lv_topi (fun t18 et18 => ?_)
    replace hf := g_let_at hf et18
    refine lv_istore (lv' := [(5, .int t18), (0, .ref (g_stA G i)), (2, .int x2), (3, .int x3), (4, .ref ax4)]) hx hb dX8_moveSheet_65 hl (by decide) rfl (fun ls hl => ?_)
    refine lv_aload_n hx hb dX8_moveSheet_67 rfl (lv_at hl 1 rfl) ?_
    refine lv_iload_n hx hb dX8_moveSheet_68 rfl (lv_at hl 3 rfl) ?_
    obtain ⟨r19, z20, hc21, hf⟩ := g_bd_e hf
    refine g_call (va_runV (As := [.int x3]) (rest := []) ⟨hx, hb, hml, hown, hts⟩ (c8_takeOut l G E μ i hi _ _ _ _ hc21) (cwV 1 hts gX8_moveSheet_X8_takeOut rfl rfl rfl (by decide +kernel) ⟨Nat.le_of_ble_eq_true rfl, Nat.le_of_ble_eq_true rfl⟩) (g_preV (ci := 8) hR hK ((hR.f hi).1) rfl) rfl rfl hl.1 rfl (lv_room (Nat.le_of_ble_eq_true rfl)) dX8_moveSheet_69 ⟨by show _ ≤ 0; omega, by show _ ≤ 0; omega⟩) hS (fun w22 H locs hp hR hS => ?_)
    subst hp
    refine lv_if_eq (tgt := 85) hx hb dX8_moveSheet_72 (by decide) (fun c23 => ?_) (fun c23 => ?_)
    · replace hf := g_it hf c23
      refine lv_iload hx hb dX8_moveSheet_85 (lv_at hl 0 rfl) ?_
      obtain ⟨rfl, rfl⟩ := g_sp hf
      exact g_iret hx hb hlocks hr hS hR g_le.rf ⟨rfl, rfl⟩ (by omega) (by omega) dX8_moveSheet_87
    · replace hf := g_if hf c23
      refine lv_aload_n hx hb dX8_moveSheet_75 rfl (lv_at hl 1 rfl) ?_
      refine g_get hx hb hts in_8 hown hK (hR.f hi).1 rfl 1 (by decide) l_21 rfl rfl dX8_moveSheet_76 ?_
      refine lv_aload hx hb dX8_moveSheet_79 (lv_at hl 4 rfl) ?_
      refine lv_iload_n hx hb dX8_moveSheet_81 rfl (lv_at hl 2 rfl) ?_
      obtain ⟨z24, hc25, hf⟩ := g_b1_e hf
      refine g_call (va_runV (As := [.ref ax4, .int x2]) (rest := []) ⟨hx, hb, hml, hown, hts⟩ (c5_putInFront l G E μ i hi _ _ _ hE_ax4 _ _ hc25) (cwV 2 hts gX8_moveSheet_X5_putInFront rfl rfl rfl (by decide +kernel) ⟨Nat.le_of_ble_eq_true rfl, Nat.le_of_ble_eq_true rfl⟩) (g_preV (ci := 5) hR hK ((hR.f hi).2.2.1) rfl) rfl rfl hl.1 rfl (lv_room (Nat.le_of_ble_eq_true rfl)) dX8_moveSheet_82 ⟨by show _ ≤ 0; omega, by show _ ≤ 0; omega⟩) hS (fun w26 H locs hp hR hS => ?_)
      subst hp
      refine lv_iload hx hb dX8_moveSheet_85 (lv_at hl 0 rfl) ?_
      obtain ⟨rfl, rfl⟩ := g_sp hf
      exact g_iret hx hb hlocks hr hS hR g_le.rf ⟨rfl, rfl⟩ (by omega) (by omega) dX8_moveSheet_87
  unfold f8_moveSheet at hf
  refine lv_aload_n hx hb dX8_moveSheet_0 rfl (lv_at hl 0 rfl) ?_
  refine g_get hx hb hts in_8 hown hK (hR.f hi).1 rfl 1 (by decide) l_21 rfl rfl dX8_moveSheet_1 ?_
  refine lv_iload_n hx hb dX8_moveSheet_4 rfl (lv_at hl 1 rfl) ?_
  obtain ⟨r1, hc2, hf⟩ := g_b1_e hf
  refine g_call (va_runV (As := [.int p1]) (rest := []) ⟨hx, hb, hml, hown, hts⟩ (c5_slotOf l G E μ i hi _ _ _ hc2) (cwV 1 hts gX8_moveSheet_X5_slotOf rfl rfl rfl (by decide +kernel) ⟨Nat.le_of_ble_eq_true rfl, Nat.le_of_ble_eq_true rfl⟩) (g_preV (ci := 5) hR hK ((hR.f hi).2.2.1) rfl) rfl rfl hl.1 rfl (lv_room (Nat.le_of_ble_eq_true rfl)) dX8_moveSheet_5 ⟨by show _ ≤ 0; omega, by show _ ≤ 0; omega⟩) hS (fun w3 H locs hp hR hS => ?_)
  subst hp
  refine lv_istore_n (lv' := [(3, .int r1), (0, .ref (g_stA G i)), (1, .int p1), (2, .int p2)]) hx hb dX8_moveSheet_8 rfl hl (by decide) rfl (fun ls hl => ?_)
  refine lv_aload_n hx hb dX8_moveSheet_9 rfl (lv_at hl 1 rfl) ?_
  refine g_get hx hb hts in_8 hown hK (hR.f hi).1 rfl 1 (by decide) l_21 rfl rfl dX8_moveSheet_10 ?_
  refine lv_iload_n hx hb dX8_moveSheet_13 rfl (lv_at hl 0 rfl) ?_
  obtain ⟨r4, hc5, hf⟩ := g_b1_e hf
  refine g_call (va_runV (As := [.int r1]) (rest := []) ⟨hx, hb, hml, hown, hts⟩ (c5_inSlot l G E μ i hi _ _ _ hc5) (cwV 1 hts gX8_moveSheet_X5_inSlot rfl rfl rfl (by decide +kernel) ⟨Nat.le_of_ble_eq_true rfl, Nat.le_of_ble_eq_true rfl⟩) (g_preV (ci := 5) hR hK ((hR.f hi).2.2.1) rfl) rfl rfl hl.1 rfl (lv_room (Nat.le_of_ble_eq_true rfl)) dX8_moveSheet_14 ⟨by show _ ≤ 0; omega, by show _ ≤ 0; omega⟩) hS (fun w6 H locs hp hR hS => ?_)
  obtain ⟨w7, rfl, hp⟩ := hp
  rcases r4 with _ | v9
  · replace hf := g_ocn hf rfl
    obtain rfl : w7 = .null := hp
    refine lv_astoreN (lv' := [(4, .null), (3, .int r1), (0, .ref (g_stA G i)), (1, .int p1), (2, .int p2)]) hx hb dX8_moveSheet_17 hl (by decide) rfl (fun ls hl => ?_)
    refine lv_aloadN hx hb dX8_moveSheet_19 (lv_at hl 0 rfl) ?_
    refine lv_ifnullN (tgt := 31) hx hb dX8_moveSheet_21 (by decide) ?_
    refine lv_iconst (v := -1) hx hb dX8_moveSheet_31 (by decide) ?_
    obtain ⟨rfl, rfl⟩ := g_sp hf
    exact g_iret hx hb hlocks hr hS hR g_le.rf ⟨rfl, rfl⟩ (by omega) (by omega) dX8_moveSheet_32
  · replace hf := g_ocs hf rfl
    obtain ⟨a8, rfl, hE_a8⟩ := hp
    refine lv_astore (lv' := [(4, .ref a8), (3, .int r1), (0, .ref (g_stA G i)), (1, .int p1), (2, .int p2)]) hx hb dX8_moveSheet_17 hl (by decide) rfl (fun ls hl => ?_)
    refine lv_aload hx hb dX8_moveSheet_19 (lv_at hl 0 rfl) ?_
    refine lv_ifnull hx hb dX8_moveSheet_21 ?_
    refine lv_iload_n hx hb dX8_moveSheet_24 rfl (lv_at hl 4 rfl) ?_
    obtain ⟨r10, hc11, hf⟩ := g_b1_e hf
    refine g_call (va_runSN (As := [.int p2]) (rest := []) ⟨hx, hb, hml, hown, hts⟩ (c9_isRack l G E (g_setS μ i z0) _ _ hc11) ⟨va_cnB 1 hts gX8_moveSheet_X9_isRack_n71 rfl rfl rfl k_71 k2_71 (by decide +kernel) ⟨Nat.le_of_ble_eq_true rfl, Nat.le_of_ble_eq_true rfl⟩, k3_71, trivial⟩ (g_pre hR hK) rfl rfl hl.1 rfl (lv_room (Nat.le_of_ble_eq_true rfl)) dX8_moveSheet_25 ⟨by show _ ≤ 0; omega, by show _ ≤ 0; omega⟩) hS (fun w12 H locs hp hR hS => ?_)
    subst hp
    refine lv_if_ne (tgt := 33) hx hb dX8_moveSheet_28 (by decide) (fun c13 => ?_) (fun c13 => ?_)
    · replace hf := g_it hf c13
      refine lv_iload_n hx hb dX8_moveSheet_33 rfl (lv_at hl 1 rfl) ?_
      refine lv_bipush (v := 8) hx hb dX8_moveSheet_34 (by decide) ?_
      refine lv_idiv hx hb dX8_moveSheet_36 (by decide) ?_
      refine lv_iload_n hx hb dX8_moveSheet_37 rfl (lv_at hl 4 rfl) ?_
      refine lv_icmp_eq (tgt := 55) hx hb dX8_moveSheet_38 (by decide) (fun c14 => ?_) (fun c14 => ?_)
      · replace hf := g_it hf c14
        exact hB55 _ _ _ _ _ _ _ _ hf hE_a8 hR hS (lv_sub hl [2, 4, 1, 0] rfl)
      · replace hf := g_if hf c14
        refine lv_aload_n hx hb dX8_moveSheet_41 rfl (lv_at hl 2 rfl) ?_
        refine g_get hx hb hts in_8 hown hK (hR.f hi).1 rfl 1 (by decide) l_21 rfl rfl dX8_moveSheet_42 ?_
        refine lv_iload_n hx hb dX8_moveSheet_45 rfl (lv_at hl 4 rfl) ?_
        obtain ⟨r27, hc28, hf⟩ := g_b1_e hf
        refine g_call (va_runV (As := [.int p2]) (rest := []) ⟨hx, hb, hml, hown, hts⟩ (c5_isFull l G E μ i hi _ _ _ hc28) (cwV 1 hts gX8_moveSheet_X5_isFull rfl rfl rfl (by decide +kernel) ⟨Nat.le_of_ble_eq_true rfl, Nat.le_of_ble_eq_true rfl⟩) (g_preV (ci := 5) hR hK ((hR.f hi).2.2.1) rfl) rfl rfl hl.1 rfl (lv_room (Nat.le_of_ble_eq_true rfl)) dX8_moveSheet_46 ⟨by show _ ≤ 0; omega, by show _ ≤ 0; omega⟩) hS (fun w29 H locs hp hR hS => ?_)
        subst hp
        refine lv_if_eq (tgt := 55) hx hb dX8_moveSheet_49 (by decide) (fun c30 => ?_) (fun c30 => ?_)
        · replace hf := g_it hf c30
          exact hB55 _ _ _ _ _ _ _ _ hf hE_a8 hR hS (lv_sub hl [2, 4, 1, 0] rfl)
        · replace hf := g_if hf c30
          refine lv_bipush (v := -3) hx hb dX8_moveSheet_52 (by decide) ?_
          obtain ⟨rfl, rfl⟩ := g_sp hf
          exact g_iret hx hb hlocks hr hS hR g_le.rf ⟨rfl, rfl⟩ (by omega) (by omega) dX8_moveSheet_54
    · replace hf := g_if hf (fun q => q c13)
      refine lv_iconst (v := -1) hx hb dX8_moveSheet_31 (by decide) ?_
      obtain ⟨rfl, rfl⟩ := g_sp hf
      exact g_iret hx hb hlocks hr hS hR g_le.rf ⟨rfl, rfl⟩ (by omega) (by omega) dX8_moveSheet_32
set_option maxHeartbeats 4000000 in
set_option maxRecDepth 100000 in
theorem c8_passDays (l : Launch) (G : gG) (E : gEn) (μ : gMu) (i : Nat) (hi : i < 7) (z0 : gSt) (p1 : Int32) (ro : Int32) (zo : gSt) (hf : f8_passDays z0 p1 = some (ro, zo)) : Met l yX8_passDays wsX8_passDays ({ frames := 2, cells := 0, slots := 0, locals := 45 } : Room) (g_Pre G E (g_setS μ i z0) [.ref (g_stA G i), .int p1]) (g_Q G E (g_setS μ i zo) (fun E' v => E' = E ∧ v = some (.int ro))) 0 0 (g_A G) := by
  refine Met.ofW (cc := cX8_passDays) (maxL := 3) (ret := some .int) (by decide) rfl ?_
  intro p e s m args below meth c s₁ B hml hv
  obtain ⟨rfl, hR, hK⟩ := hv
  have hx := B.exec
  have hb := B.bytes
  have hr := B.returns
  have hts := atoms_spec (ws := wsX8_passDays) B.pre
  have hown : s.vm.findClass RX8 = some m.cls := findClass_of_methodNamed B.named
  have hlocks := B.notSynchronized
  have hS : va_S (g_A G) s.heap s.heap [] := va_S.rf
  have hl := lv_entry ([.ref (g_stA G i), .int p1]) (n := 3) (Nat.le_of_ble_eq_true rfl)
  rw [lg_entry_eq]
  generalize (lg_sl ([.ref (g_stA G i), .int p1]) ++ List.replicate (3 - (lg_sl ([.ref (g_stA G i), .int p1])).length) Slot.unset).toArray = ls at hl ⊢
  have hl : lv_has ls 3 [(0, .ref (g_stA G i)), (1, .int p1)] := hl
  have in_8 : ∀ w ∈ u_ws RX8 TX8 11, w ∈ wsX8_passDays := ifX8_passDays_8
  have l_28 := hts (.fieldLink RX8 28 "GlassRacks$State" "orders" "LGlassRacks$Orders;") (by decide +kernel)
  have l_39 := hts (.fieldLink RX8 39 "GlassRacks$State" "day" "I") (by decide +kernel)
  unfold f8_passDays at hf
  refine lv_iload_n hx hb dX8_passDays_0 rfl (lv_at hl 1 rfl) ?_
  refine lv_iconst (v := 1) hx hb dX8_passDays_1 (by decide) ?_
  refine lv_icmp_lt (tgt := 11) hx hb dX8_passDays_2 (by decide) (fun c1 => ?_) (fun c1 => ?_)
  · replace hf := g_it hf c1
    refine lv_bipush (v := -2) hx hb dX8_passDays_11 (by decide) ?_
    obtain ⟨rfl, rfl⟩ := g_sp hf
    exact g_iret hx hb hlocks hr hS hR g_le.rf ⟨rfl, rfl⟩ (by omega) (by omega) dX8_passDays_13
  · replace hf := g_if hf c1
    refine lv_iload_n hx hb dX8_passDays_5 rfl (lv_at hl 1 rfl) ?_
    refine lv_bipush (v := 99) hx hb dX8_passDays_6 (by decide) ?_
    refine lv_icmp_le (tgt := 14) hx hb dX8_passDays_8 (by decide) (fun c2 => ?_) (fun c2 => ?_)
    · replace hf := g_it hf c2
      refine lv_aload_n hx hb dX8_passDays_14 rfl (lv_at hl 0 rfl) ?_
      refine g_get hx hb hts in_8 hown hK (hR.f hi).1 rfl 4 (by decide) l_39 rfl rfl dX8_passDays_15 ?_
      refine lv_iload_n hx hb dX8_passDays_18 rfl (lv_at hl 1 rfl) ?_
      refine lv_iadd hx hb dX8_passDays_19 ?_
      refine lv_sipush (v := 999) hx hb dX8_passDays_20 (by decide) ?_
      refine lv_icmp_le (tgt := 29) hx hb dX8_passDays_23 (by decide) (fun c3 => ?_) (fun c3 => ?_)
      · replace hf := g_it hf c3
        refine lv_aload_n hx hb dX8_passDays_29 rfl (lv_at hl 0 rfl) ?_
        refine g_get hx hb hts in_8 hown hK (hR.f hi).1 rfl 2 (by decide) l_28 rfl rfl dX8_passDays_30 ?_
        refine lv_aload_n hx hb dX8_passDays_33 rfl (lv_at hl 0 rfl) ?_
        refine g_get hx hb hts in_8 hown hK (hR.f hi).1 rfl 4 (by decide) l_39 rfl rfl dX8_passDays_34 ?_
        obtain ⟨r4, hc5, hf⟩ := g_b1_e hf
        refine g_call (va_runV (As := [.int (z0.1 5)]) (rest := []) ⟨hx, hb, hml, hown, hts⟩ (c4_lateOnes l G E μ i hi _ _ _ hc5) (cwV 1 hts gX8_passDays_X4_lateOnes rfl rfl rfl (by decide +kernel) ⟨Nat.le_of_ble_eq_true rfl, Nat.le_of_ble_eq_true rfl⟩) (g_preV (ci := 4) hR hK ((hR.f hi).2.2.2.2.1) rfl) rfl rfl hl.1 rfl (lv_room (Nat.le_of_ble_eq_true rfl)) dX8_passDays_37 ⟨by show _ ≤ 0; omega, by show _ ≤ 0; omega⟩) hS (fun w6 H locs hp hR hS => ?_)
        subst hp
        refine lv_istore_n (lv' := [(2, .int r4), (0, .ref (g_stA G i)), (1, .int p1)]) hx hb dX8_passDays_40 rfl hl (by decide) rfl (fun ls hl => ?_)
        refine lv_aload_n hx hb dX8_passDays_41 rfl (lv_at hl 1 rfl) ?_
        refine lv_dup hx hb dX8_passDays_42 rfl ?_
        refine g_get hx hb hts in_8 hown hK (hR.f hi).1 rfl 4 (by decide) l_39 rfl rfl dX8_passDays_43 ?_
        refine lv_iload_n hx hb dX8_passDays_46 rfl (lv_at hl 2 rfl) ?_
        refine lv_iadd hx hb dX8_passDays_47 ?_
        refine g_p8_4 hx hb hts in_8 hown hK hS hR hi l_39 dX8_passDays_48 (fun H locs hR hS => ?_)
        obtain ⟨z7, ez7, hf⟩ := g_let_e hf
        replace hR : g_R G E (g_setS μ i z7) H := by rw [ez7]; exact hR
        refine lv_aload_n hx hb dX8_passDays_51 rfl (lv_at hl 1 rfl) ?_
        refine g_get hx hb hts in_8 hown hK (hR.f hi).1 rfl 2 (by decide) l_28 rfl rfl dX8_passDays_52 ?_
        refine lv_aload_n hx hb dX8_passDays_55 rfl (lv_at hl 1 rfl) ?_
        refine g_get hx hb hts in_8 hown hK (hR.f hi).1 rfl 4 (by decide) l_39 rfl rfl dX8_passDays_56 ?_
        obtain ⟨r8, hc9, hf⟩ := g_b1_e hf
        refine g_call (va_runV (As := [.int (z7.1 5)]) (rest := []) ⟨hx, hb, hml, hown, hts⟩ (c4_lateOnes l G E μ i hi _ _ _ hc9) (cwV 1 hts gX8_passDays_X4_lateOnes rfl rfl rfl (by decide +kernel) ⟨Nat.le_of_ble_eq_true rfl, Nat.le_of_ble_eq_true rfl⟩) (g_preV (ci := 4) hR hK ((hR.f hi).2.2.2.2.1) rfl) rfl rfl hl.1 rfl (lv_room (Nat.le_of_ble_eq_true rfl)) dX8_passDays_59 ⟨by show _ ≤ 0; omega, by show _ ≤ 0; omega⟩) hS (fun w10 H locs hp hR hS => ?_)
        subst hp
        refine lv_iload_n hx hb dX8_passDays_62 rfl (lv_at hl 0 rfl) ?_
        refine lv_isub hx hb dX8_passDays_63 ?_
        obtain ⟨rfl, rfl⟩ := g_sp hf
        exact g_iret hx hb hlocks hr hS hR g_le.rf ⟨rfl, rfl⟩ (by omega) (by omega) dX8_passDays_64
      · replace hf := g_if hf c3
        refine lv_bipush (v := -3) hx hb dX8_passDays_26 (by decide) ?_
        obtain ⟨rfl, rfl⟩ := g_sp hf
        exact g_iret hx hb hlocks hr hS hR g_le.rf ⟨rfl, rfl⟩ (by omega) (by omega) dX8_passDays_28
    · replace hf := g_if hf c2
      refine lv_bipush (v := -2) hx hb dX8_passDays_11 (by decide) ?_
      obtain ⟨rfl, rfl⟩ := g_sp hf
      exact g_iret hx hb hlocks hr hS hR g_le.rf ⟨rfl, rfl⟩ (by omega) (by omega) dX8_passDays_13
set_option maxHeartbeats 4000000 in
set_option maxRecDepth 100000 in
theorem c8_planDay (l : Launch) (G : gG) (E : gEn) (μ : gMu) (i : Nat) (hi : i < 7) (z0 : gSt) (p1 : Int32) (ro : Int32) (zo : gSt) (hf : f8_planDay z0 p1 = some (ro, zo)) : Met l yX8_planDay wsX8_planDay ({ frames := 5, cells := 39, slots := 234, locals := 116 } : Room) (g_Pre G E (g_setS μ i z0) [.ref (g_stA G i), .int p1]) (g_Q G E (g_setS μ i zo) (fun E' v => v = some (.int ro))) 39 234 (g_A G) := by
  refine Met.ofW (cc := cX8_planDay) (maxL := 6) (ret := some .int) (by decide) rfl ?_
  intro p e s m args below meth c s₁ B hml hv
  obtain ⟨rfl, hR, hK⟩ := hv
  have hx := B.exec
  have hb := B.bytes
  have hr := B.returns
  have hts := atoms_spec (ws := wsX8_planDay) B.pre
  have hown : s.vm.findClass RX8 = some m.cls := findClass_of_methodNamed B.named
  have hlocks := B.notSynchronized
  have hS : va_S (g_A G) s.heap s.heap [] := va_S.rf
  have hl := lv_entry ([.ref (g_stA G i), .int p1]) (n := 6) (Nat.le_of_ble_eq_true rfl)
  rw [lg_entry_eq]
  generalize (lg_sl ([.ref (g_stA G i), .int p1]) ++ List.replicate (6 - (lg_sl ([.ref (g_stA G i), .int p1])).length) Slot.unset).toArray = ls at hl ⊢
  have hl : lv_has ls 6 [(0, .ref (g_stA G i)), (1, .int p1)] := hl
  have in_8 : ∀ w ∈ u_ws RX8 TX8 11, w ∈ wsX8_planDay := ifX8_planDay_8
  have l_28 := hts (.fieldLink RX8 28 "GlassRacks$State" "orders" "LGlassRacks$Orders;") (by decide +kernel)
  have k_149 : va_Nw (.methodLinkNest RX8 149 yX9_isChoice "GlassRacks") s := hK.2 (RX8, 149, yX9_isChoice) (by decide +kernel)
  have k2_149 := hts (.initialized RX9) (by decide +kernel)
  have k3_149 := hts (.static yX9_isChoice) (by decide +kernel)
  have hB31 : ∀ (n : Nat) (E1 : gEn) (hle1 : g_le E E1) (z0 : gSt) (x1 : Int32) (wx2 : Value) (vx2 : Option gOd) (x3 : Int32) (x4 : Int32) (H : Heap) (locs : List Loc) (ls : Array Slot), n ≤ 13 → f8_planDay_31 n z0 x1 vx2 x3 x4 = some (ro, zo) → g_rv E1 .inr wx2 vx2 → g_R G E1 (g_setS μ i z0) H → va_S (g_A G) s.heap H locs → lv_has ls 6 [(0, .ref (g_stA G i)), (1, .int x1), (2, wx2), (3, .int x3), (4, .int x4)] → W p l e (headSpec wsX8_planDay ({ frames := 5, cells := 39, slots := 234, locals := 116 } : Room)).room s m ([.ref (g_stA G i), .int p1] : List Value).toArray below meth c H locs (3 * (13 - n)) (18 * (13 - n)) (MQ below (g_Q G E (g_setS μ i zo) (fun E' v => v = some (.int ro))) ([.ref (g_stA G i), .int p1] : List Value).toArray s 39 234 (g_A G)) (F0 m 31 ls []) := by
    intro n
    induction n with
    | zero =>
      intro E1 hle1 z0 x1 wx2 vx2 x3 x4 H locs ls hfu hf
      rw [f8_planDay_31] at hf
      cases hf
    | succ n ih =>
      intro E1 hle1 z0 x1 wx2 vx2 x3 x4 H locs ls hfu hf hw_wx2 hR hS hl
      rw [f8_planDay_31] at hf
      rcases hzz : vx2 with _ | v12
      · replace hf := g_ocn hf hzz
        rw [hzz] at hw_wx2
        obtain rfl : wx2 = .null := hw_wx2
        refine lv_iload hx hb dX8_planDay_31 (lv_at hl 4 rfl) ?_
        refine lv_bipush (v := 12) hx hb dX8_planDay_33 (by decide) ?_
        refine lv_icmp_ge (tgt := 85) hx hb dX8_planDay_35 (by decide) (fun c13 => ?_) (fun c13 => ?_)
        · replace hf := g_it hf c13
          refine lv_iload_n hx hb dX8_planDay_85 rfl (lv_at hl 3 rfl) ?_
          obtain ⟨rfl, rfl⟩ := g_sp hf
          exact g_iret hx hb hlocks hr hS hR hle1 rfl (by omega) (by omega) dX8_planDay_86
        · replace hf := g_if hf c13
          refine lv_aload_nN hx hb dX8_planDay_38 rfl (lv_at hl 2 rfl) ?_
          refine lv_ifnullN (tgt := 85) hx hb dX8_planDay_39 (by decide) ?_
          refine lv_iload_n hx hb dX8_planDay_85 rfl (lv_at hl 3 rfl) ?_
          obtain ⟨rfl, rfl⟩ := g_sp hf
          exact g_iret hx hb hlocks hr hS hR hle1 rfl (by omega) (by omega) dX8_planDay_86
      · replace hf := g_ocs hf hzz
        rw [hzz] at hw_wx2
        obtain ⟨a11, rfl, hE_a11⟩ : ∃ q : Nat, wx2 = .ref q ∧ E1 q = some (.inr v12) := hw_wx2
        refine lv_iload hx hb dX8_planDay_31 (lv_at hl 4 rfl) ?_
        refine lv_bipush (v := 12) hx hb dX8_planDay_33 (by decide) ?_
        refine lv_icmp_ge (tgt := 85) hx hb dX8_planDay_35 (by decide) (fun c14 => ?_) (fun c14 => ?_)
        · replace hf := g_it hf c14
          refine lv_iload_n hx hb dX8_planDay_85 rfl (lv_at hl 3 rfl) ?_
          obtain ⟨rfl, rfl⟩ := g_sp hf
          exact g_iret hx hb hlocks hr hS hR hle1 rfl (by omega) (by omega) dX8_planDay_86
        · replace hf := g_if hf c14
          refine lv_aload_n hx hb dX8_planDay_38 rfl (lv_at hl 2 rfl) ?_
          refine lv_ifnull hx hb dX8_planDay_39 ?_
          refine lv_aload_n hx hb dX8_planDay_42 rfl (lv_at hl 0 rfl) ?_
          refine lv_aload_n hx hb dX8_planDay_43 rfl (lv_at hl 2 rfl) ?_
          refine lv_iload_n hx hb dX8_planDay_44 rfl (lv_at hl 1 rfl) ?_
          obtain ⟨r15, z16, hc17, hf⟩ := g_bd_e hf
          refine g_call (va_runV (As := [.ref a11, .int x1]) (rest := []) ⟨hx, hb, hml, hown, hts⟩ (c8_chosenSheet l G E1 μ i hi _ _ _ hE_a11 _ _ _ hc17) (cwV 2 hts gX8_planDay_X8_chosenSheet rfl rfl rfl (by decide +kernel) ⟨Nat.le_of_ble_eq_true rfl, Nat.le_of_ble_eq_true rfl⟩) (g_preV (ci := 8) hR hK ((hR.f hi).1) rfl) rfl rfl hl.1 rfl (lv_room (Nat.le_of_ble_eq_true rfl)) dX8_planDay_45 ⟨by show _ ≤ 39; omega, by show _ ≤ 234; omega⟩) hS (fun w18 H locs hp hR hS => ?_)
          obtain ⟨w19, rfl, hp⟩ := hp
          rcases r15 with _ | v21
          · replace hf := g_ocn hf rfl
            obtain rfl : w19 = .null := hp
            refine lv_astoreN (lv' := [(5, .null), (0, .ref (g_stA G i)), (1, .int x1), (2, .ref a11), (3, .int x3), (4, .int x4)]) hx hb dX8_planDay_48 hl (by decide) rfl (fun ls hl => ?_)
            refine lv_aloadN hx hb dX8_planDay_50 (lv_at hl 0 rfl) ?_
            refine lv_ifnullN (tgt := 70) hx hb dX8_planDay_52 (by decide) ?_
            refine lv_aload_n hx hb dX8_planDay_70 rfl (lv_at hl 1 rfl) ?_
            refine g_get hx hb hts in_8 hown hK (hR.f hi).1 rfl 2 (by decide) l_28 rfl rfl dX8_planDay_71 ?_
            refine lv_aload_n hx hb dX8_planDay_74 rfl (lv_at hl 3 rfl) ?_
            obtain ⟨r22, hc23, hf⟩ := g_b1_e hf
            refine g_call (va_runV (As := [.ref a11]) (rest := []) ⟨hx, hb, hml, hown, hts⟩ (c4_nextOpen l G E1 μ i hi _ _ _ (show g_rv _ _ (.ref a11) (some v12) from ⟨_, rfl, hE_a11⟩) _ hc23) (cwV 1 hts gX8_planDay_X4_nextOpen rfl rfl rfl (by decide +kernel) ⟨Nat.le_of_ble_eq_true rfl, Nat.le_of_ble_eq_true rfl⟩) (g_preV (ci := 4) hR hK ((hR.f hi).2.2.2.2.1) rfl) rfl rfl hl.1 rfl (lv_room (Nat.le_of_ble_eq_true rfl)) dX8_planDay_75 ⟨by show _ ≤ 39; omega, by show _ ≤ 234; omega⟩) hS (fun w24 H locs hp hR hS => ?_)
            obtain ⟨w25, rfl, hp⟩ := hp
            rcases r22 with _ | v27
            · replace hf := g_ocn hf rfl
              obtain rfl : w25 = .null := hp
              refine lv_astore_nN (lv' := [(2, .null), (5, .null), (0, .ref (g_stA G i)), (1, .int x1), (3, .int x3), (4, .int x4)]) hx hb dX8_planDay_78 rfl hl (by decide) rfl (fun ls hl => ?_)
              refine lv_iinc (v := x4 + 1) (lv' := [(4, .int (x4 + 1)), (2, .null), (5, .null), (0, .ref (g_stA G i)), (1, .int x1), (3, .int x3)]) hx hb dX8_planDay_79 hl (k := 5) rfl rfl (by decide) rfl (fun ls hl => ?_)
              refine lv_goto (tgt := 31) hx hb dX8_planDay_82 (by decide) ?_
              refine W.widen (k := 3 * (13 - n)) (n := 18 * (13 - n)) (by omega) (by omega) ?_
              exact ih _ hle1 _ _ _ _ _ _ _ _ _ (by omega) hf (show g_rv _ _ .null none from rfl) hR hS (lv_sub hl [3, 4, 1, 5, 0] rfl)
            · replace hf := g_ocs hf rfl
              obtain ⟨a26, rfl, hE_a26⟩ := hp
              refine lv_astore_n (lv' := [(2, .ref a26), (5, .null), (0, .ref (g_stA G i)), (1, .int x1), (3, .int x3), (4, .int x4)]) hx hb dX8_planDay_78 rfl hl (by decide) rfl (fun ls hl => ?_)
              refine lv_iinc (v := x4 + 1) (lv' := [(4, .int (x4 + 1)), (2, .ref a26), (5, .null), (0, .ref (g_stA G i)), (1, .int x1), (3, .int x3)]) hx hb dX8_planDay_79 hl (k := 5) rfl rfl (by decide) rfl (fun ls hl => ?_)
              refine lv_goto (tgt := 31) hx hb dX8_planDay_82 (by decide) ?_
              refine W.widen (k := 3 * (13 - n)) (n := 18 * (13 - n)) (by omega) (by omega) ?_
              exact ih _ hle1 _ _ _ _ _ _ _ _ _ (by omega) hf (show g_rv _ _ (.ref a26) (some v27) from ⟨_, rfl, hE_a26⟩) hR hS (lv_sub hl [3, 4, 1, 5, 0] rfl)
          · replace hf := g_ocs hf rfl
            obtain ⟨a20, rfl, hE_a20⟩ := hp
            refine lv_astore (lv' := [(5, .ref a20), (0, .ref (g_stA G i)), (1, .int x1), (2, .ref a11), (3, .int x3), (4, .int x4)]) hx hb dX8_planDay_48 hl (by decide) rfl (fun ls hl => ?_)
            refine lv_aload hx hb dX8_planDay_50 (lv_at hl 0 rfl) ?_
            refine lv_ifnull hx hb dX8_planDay_52 ?_
            refine lv_aload_n hx hb dX8_planDay_55 rfl (lv_at hl 1 rfl) ?_
            refine lv_aload_n hx hb dX8_planDay_56 rfl (lv_at hl 3 rfl) ?_
            refine lv_aload hx hb dX8_planDay_57 (lv_at hl 0 rfl) ?_
            obtain ⟨r28, z29, hc30, hf⟩ := g_bd_e hf
            refine g_calln (va_runV (As := [.ref a11, .ref a20]) (rest := []) ⟨hx, hb, hml, hown, hts⟩ (c8_cutOpenOrder l G E1 μ i hi _ _ _ hE_a11 _ _ hE_a20 _ _ hc30) (cwV 2 hts gX8_planDay_X8_cutOpenOrder rfl rfl rfl (by decide +kernel) ⟨Nat.le_of_ble_eq_true rfl, Nat.le_of_ble_eq_true rfl⟩) (g_preV (ci := 8) hR hK ((hR.f hi).1) rfl) rfl rfl hl.1 rfl (lv_room (Nat.le_of_ble_eq_true rfl)) dX8_planDay_59 ⟨by show _ ≤ 39; omega, by show _ ≤ 234; omega⟩) hS (fun w31 E32 H locs hp hle33 hR hS => ?_)
            have hE_a11 := hle33 _ _ hE_a11
            have hE_a20 := hle33 _ _ hE_a20
            subst hp
            refine lv_bipush (v := 10) hx hb dX8_planDay_62 (by decide) ?_
            refine lv_icmp_eq (tgt := 70) hx hb dX8_planDay_64 (by decide) (fun c34 => ?_) (fun c34 => ?_)
            · replace hf := g_it hf c34
              refine lv_aload_n hx hb dX8_planDay_70 rfl (lv_at hl 1 rfl) ?_
              refine g_get hx hb hts in_8 hown hK (hR.f hi).1 rfl 2 (by decide) l_28 rfl rfl dX8_planDay_71 ?_
              refine lv_aload_n hx hb dX8_planDay_74 rfl (lv_at hl 3 rfl) ?_
              obtain ⟨r35, hc36, hf⟩ := g_b1_e hf
              refine g_call (va_runV (As := [.ref a11]) (rest := []) ⟨hx, hb, hml, hown, hts⟩ (c4_nextOpen l G E32 μ i hi _ _ _ (show g_rv _ _ (.ref a11) (some v12) from ⟨_, rfl, hE_a11⟩) _ hc36) (cwV 1 hts gX8_planDay_X4_nextOpen rfl rfl rfl (by decide +kernel) ⟨Nat.le_of_ble_eq_true rfl, Nat.le_of_ble_eq_true rfl⟩) (g_preV (ci := 4) hR hK ((hR.f hi).2.2.2.2.1) rfl) rfl rfl hl.1 rfl (lv_room (Nat.le_of_ble_eq_true rfl)) dX8_planDay_75 ⟨by show _ ≤ 39; omega, by show _ ≤ 234; omega⟩) hS (fun w37 H locs hp hR hS => ?_)
              obtain ⟨w38, rfl, hp⟩ := hp
              rcases r35 with _ | v40
              · replace hf := g_ocn hf rfl
                obtain rfl : w38 = .null := hp
                refine lv_astore_nN (lv' := [(2, .null), (5, .ref a20), (0, .ref (g_stA G i)), (1, .int x1), (3, .int x3), (4, .int x4)]) hx hb dX8_planDay_78 rfl hl (by decide) rfl (fun ls hl => ?_)
                refine lv_iinc (v := x4 + 1) (lv' := [(4, .int (x4 + 1)), (2, .null), (5, .ref a20), (0, .ref (g_stA G i)), (1, .int x1), (3, .int x3)]) hx hb dX8_planDay_79 hl (k := 5) rfl rfl (by decide) rfl (fun ls hl => ?_)
                refine lv_goto (tgt := 31) hx hb dX8_planDay_82 (by decide) ?_
                refine W.widen (k := 3 * (13 - n)) (n := 18 * (13 - n)) (by omega) (by omega) ?_
                exact ih _ ((hle1).tr hle33) _ _ _ _ _ _ _ _ _ (by omega) hf (show g_rv _ _ .null none from rfl) hR hS (lv_sub hl [3, 4, 1, 5, 0] rfl)
              · replace hf := g_ocs hf rfl
                obtain ⟨a39, rfl, hE_a39⟩ := hp
                refine lv_astore_n (lv' := [(2, .ref a39), (5, .ref a20), (0, .ref (g_stA G i)), (1, .int x1), (3, .int x3), (4, .int x4)]) hx hb dX8_planDay_78 rfl hl (by decide) rfl (fun ls hl => ?_)
                refine lv_iinc (v := x4 + 1) (lv' := [(4, .int (x4 + 1)), (2, .ref a39), (5, .ref a20), (0, .ref (g_stA G i)), (1, .int x1), (3, .int x3)]) hx hb dX8_planDay_79 hl (k := 5) rfl rfl (by decide) rfl (fun ls hl => ?_)
                refine lv_goto (tgt := 31) hx hb dX8_planDay_82 (by decide) ?_
                refine W.widen (k := 3 * (13 - n)) (n := 18 * (13 - n)) (by omega) (by omega) ?_
                exact ih _ ((hle1).tr hle33) _ _ _ _ _ _ _ _ _ (by omega) hf (show g_rv _ _ (.ref a39) (some v40) from ⟨_, rfl, hE_a39⟩) hR hS (lv_sub hl [3, 4, 1, 5, 0] rfl)
            · replace hf := g_if hf c34
              refine lv_iinc (v := x3 + 1) (lv' := [(3, .int (x3 + 1)), (5, .ref a20), (0, .ref (g_stA G i)), (1, .int x1), (2, .ref a11), (4, .int x4)]) hx hb dX8_planDay_67 hl (k := 4) rfl rfl (by decide) rfl (fun ls hl => ?_)
              refine lv_aload_n hx hb dX8_planDay_70 rfl (lv_at hl 2 rfl) ?_
              refine g_get hx hb hts in_8 hown hK (hR.f hi).1 rfl 2 (by decide) l_28 rfl rfl dX8_planDay_71 ?_
              refine lv_aload_n hx hb dX8_planDay_74 rfl (lv_at hl 4 rfl) ?_
              obtain ⟨r41, hc42, hf⟩ := g_b1_e hf
              refine g_call (va_runV (As := [.ref a11]) (rest := []) ⟨hx, hb, hml, hown, hts⟩ (c4_nextOpen l G E32 μ i hi _ _ _ (show g_rv _ _ (.ref a11) (some v12) from ⟨_, rfl, hE_a11⟩) _ hc42) (cwV 1 hts gX8_planDay_X4_nextOpen rfl rfl rfl (by decide +kernel) ⟨Nat.le_of_ble_eq_true rfl, Nat.le_of_ble_eq_true rfl⟩) (g_preV (ci := 4) hR hK ((hR.f hi).2.2.2.2.1) rfl) rfl rfl hl.1 rfl (lv_room (Nat.le_of_ble_eq_true rfl)) dX8_planDay_75 ⟨by show _ ≤ 39; omega, by show _ ≤ 234; omega⟩) hS (fun w43 H locs hp hR hS => ?_)
              obtain ⟨w44, rfl, hp⟩ := hp
              rcases r41 with _ | v46
              · replace hf := g_ocn hf rfl
                obtain rfl : w44 = .null := hp
                refine lv_astore_nN (lv' := [(2, .null), (3, .int (x3 + 1)), (5, .ref a20), (0, .ref (g_stA G i)), (1, .int x1), (4, .int x4)]) hx hb dX8_planDay_78 rfl hl (by decide) rfl (fun ls hl => ?_)
                refine lv_iinc (v := x4 + 1) (lv' := [(4, .int (x4 + 1)), (2, .null), (3, .int (x3 + 1)), (5, .ref a20), (0, .ref (g_stA G i)), (1, .int x1)]) hx hb dX8_planDay_79 hl (k := 5) rfl rfl (by decide) rfl (fun ls hl => ?_)
                refine lv_goto (tgt := 31) hx hb dX8_planDay_82 (by decide) ?_
                refine W.widen (k := 3 * (13 - n)) (n := 18 * (13 - n)) (by omega) (by omega) ?_
                exact ih _ ((hle1).tr hle33) _ _ _ _ _ _ _ _ _ (by omega) hf (show g_rv _ _ .null none from rfl) hR hS (lv_sub hl [4, 5, 1, 2, 0] rfl)
              · replace hf := g_ocs hf rfl
                obtain ⟨a45, rfl, hE_a45⟩ := hp
                refine lv_astore_n (lv' := [(2, .ref a45), (3, .int (x3 + 1)), (5, .ref a20), (0, .ref (g_stA G i)), (1, .int x1), (4, .int x4)]) hx hb dX8_planDay_78 rfl hl (by decide) rfl (fun ls hl => ?_)
                refine lv_iinc (v := x4 + 1) (lv' := [(4, .int (x4 + 1)), (2, .ref a45), (3, .int (x3 + 1)), (5, .ref a20), (0, .ref (g_stA G i)), (1, .int x1)]) hx hb dX8_planDay_79 hl (k := 5) rfl rfl (by decide) rfl (fun ls hl => ?_)
                refine lv_goto (tgt := 31) hx hb dX8_planDay_82 (by decide) ?_
                refine W.widen (k := 3 * (13 - n)) (n := 18 * (13 - n)) (by omega) (by omega) ?_
                exact ih _ ((hle1).tr hle33) _ _ _ _ _ _ _ _ _ (by omega) hf (show g_rv _ _ (.ref a45) (some v46) from ⟨_, rfl, hE_a45⟩) hR hS (lv_sub hl [4, 5, 1, 2, 0] rfl)
  unfold f8_planDay at hf
  refine lv_iload_n hx hb dX8_planDay_0 rfl (lv_at hl 1 rfl) ?_
  obtain ⟨r1, hc2, hf⟩ := g_b1_e hf
  refine g_call (va_runSN (As := [.int p1]) (rest := []) ⟨hx, hb, hml, hown, hts⟩ (c9_isChoice l G E (g_setS μ i z0) _ _ hc2) ⟨va_cnB 1 hts gX8_planDay_X9_isChoice_n149 rfl rfl rfl k_149 k2_149 (by decide +kernel) ⟨Nat.le_of_ble_eq_true rfl, Nat.le_of_ble_eq_true rfl⟩, k3_149, trivial⟩ (g_pre hR hK) rfl rfl hl.1 rfl (lv_room (Nat.le_of_ble_eq_true rfl)) dX8_planDay_1 ⟨by show _ ≤ 39; omega, by show _ ≤ 234; omega⟩) hS (fun w3 H locs hp hR hS => ?_)
  subst hp
  refine lv_if_ne (tgt := 10) hx hb dX8_planDay_4 (by decide) (fun c4 => ?_) (fun c4 => ?_)
  · replace hf := g_it hf c4
    refine lv_aload_n hx hb dX8_planDay_10 rfl (lv_at hl 0 rfl) ?_
    refine g_get hx hb hts in_8 hown hK (hR.f hi).1 rfl 2 (by decide) l_28 rfl rfl dX8_planDay_11 ?_
    refine lv_null hx hb dX8_planDay_14 ?_
    obtain ⟨r5, hc6, hf⟩ := g_b1_e hf
    refine g_call (va_runV (As := [.null]) (rest := []) ⟨hx, hb, hml, hown, hts⟩ (c4_nextOpen l G E μ i hi _ _ _ (show g_rv _ _ .null none from rfl) _ hc6) (cwV 1 hts gX8_planDay_X4_nextOpen rfl rfl rfl (by decide +kernel) ⟨Nat.le_of_ble_eq_true rfl, Nat.le_of_ble_eq_true rfl⟩) (g_preV (ci := 4) hR hK ((hR.f hi).2.2.2.2.1) rfl) rfl rfl hl.1 rfl (lv_room (Nat.le_of_ble_eq_true rfl)) dX8_planDay_15 ⟨by show _ ≤ 39; omega, by show _ ≤ 234; omega⟩) hS (fun w7 H locs hp hR hS => ?_)
    obtain ⟨w8, rfl, hp⟩ := hp
    rcases r5 with _ | v10
    · replace hf := g_ocn hf rfl
      obtain rfl : w8 = .null := hp
      refine lv_astore_nN (lv' := [(2, .null), (0, .ref (g_stA G i)), (1, .int p1)]) hx hb dX8_planDay_18 rfl hl (by decide) rfl (fun ls hl => ?_)
      refine lv_aload_nN hx hb dX8_planDay_19 rfl (lv_at hl 0 rfl) ?_
      refine lv_ifnonnullN hx hb dX8_planDay_20 ?_
      refine lv_bipush (v := -5) hx hb dX8_planDay_23 (by decide) ?_
      obtain ⟨rfl, rfl⟩ := g_sp hf
      exact g_iret hx hb hlocks hr hS hR g_le.rf rfl (by omega) (by omega) dX8_planDay_25
    · replace hf := g_ocs hf rfl
      obtain ⟨a9, rfl, hE_a9⟩ := hp
      refine lv_astore_n (lv' := [(2, .ref a9), (0, .ref (g_stA G i)), (1, .int p1)]) hx hb dX8_planDay_18 rfl hl (by decide) rfl (fun ls hl => ?_)
      refine lv_aload_n hx hb dX8_planDay_19 rfl (lv_at hl 0 rfl) ?_
      refine lv_ifnonnull (tgt := 26) hx hb dX8_planDay_20 (by decide) ?_
      refine lv_iconst (v := 0) hx hb dX8_planDay_26 (by decide) ?_
      refine lv_istore_n (lv' := [(3, .int (0 : Int32)), (2, .ref a9), (0, .ref (g_stA G i)), (1, .int p1)]) hx hb dX8_planDay_27 rfl hl (by decide) rfl (fun ls hl => ?_)
      refine lv_iconst (v := 0) hx hb dX8_planDay_28 (by decide) ?_
      refine lv_istore (lv' := [(4, .int (0 : Int32)), (3, .int (0 : Int32)), (2, .ref a9), (0, .ref (g_stA G i)), (1, .int p1)]) hx hb dX8_planDay_29 hl (by decide) rfl (fun ls hl => ?_)
      exact hB31 13 _ g_le.rf _ _ _ _ _ _ _ _ _ (Nat.le_refl _) hf (show g_rv _ _ (.ref a9) (some v10) from ⟨_, rfl, hE_a9⟩) hR hS (lv_sub hl [3, 4, 2, 1, 0] rfl)
  · replace hf := g_if hf (fun q => q c4)
    refine lv_bipush (v := -2) hx hb dX8_planDay_7 (by decide) ?_
    obtain ⟨rfl, rfl⟩ := g_sp hf
    exact g_iret hx hb hlocks hr hS hR g_le.rf rfl (by omega) (by omega) dX8_planDay_9
set_option maxHeartbeats 4000000 in
set_option maxRecDepth 100000 in
theorem c8_scrapSheet (l : Launch) (G : gG) (E : gEn) (μ : gMu) (i : Nat) (hi : i < 7) (z0 : gSt) (p1 : Int32) (ro : Int32) (zo : gSt) (hf : f8_scrapSheet z0 p1 = some (ro, zo)) : Met l yX8_scrapSheet wsX8_scrapSheet ({ frames := 3, cells := 0, slots := 0, locals := 68 } : Room) (g_Pre G E (g_setS μ i z0) [.ref (g_stA G i), .int p1]) (g_Q G E (g_setS μ i zo) (fun E' v => E' = E ∧ v = some (.int ro))) 0 0 (g_A G) := by
  refine Met.ofW (cc := cX8_scrapSheet) (maxL := 4) (ret := some .int) (by decide) rfl ?_
  intro p e s m args below meth c s₁ B hml hv
  obtain ⟨rfl, hR, hK⟩ := hv
  have hx := B.exec
  have hb := B.bytes
  have hr := B.returns
  have hts := atoms_spec (ws := wsX8_scrapSheet) B.pre
  have hown : s.vm.findClass RX8 = some m.cls := findClass_of_methodNamed B.named
  have hlocks := B.notSynchronized
  have hS : va_S (g_A G) s.heap s.heap [] := va_S.rf
  have hl := lv_entry ([.ref (g_stA G i), .int p1]) (n := 4) (Nat.le_of_ble_eq_true rfl)
  rw [lg_entry_eq]
  generalize (lg_sl ([.ref (g_stA G i), .int p1]) ++ List.replicate (4 - (lg_sl ([.ref (g_stA G i), .int p1])).length) Slot.unset).toArray = ls at hl ⊢
  have hl : lv_has ls 4 [(0, .ref (g_stA G i)), (1, .int p1)] := hl
  have in_8 : ∀ w ∈ u_ws RX8 TX8 11, w ∈ wsX8_scrapSheet := ifX8_scrapSheet_8
  have l_21 := hts (.fieldLink RX8 21 "GlassRacks$State" "racks" "LGlassRacks$Racks;") (by decide +kernel)
  have l_49 := hts (.fieldLink RX8 49 "GlassRacks$State" "scrapArea" "I") (by decide +kernel)
  have hB45 : ∀ (z0 : gSt) (ax3 : Nat) (vx3 : gSh) (H : Heap) (locs : List Loc) (ls : Array Slot), f8_scrapSheet_45 z0 vx3 = some (ro, zo) → E ax3 = some (.inl vx3) → g_R G E (g_setS μ i z0) H → va_S (g_A G) s.heap H locs → lv_has ls 4 [(3, .ref ax3)] → W p l e (headSpec wsX8_scrapSheet ({ frames := 3, cells := 0, slots := 0, locals := 68 } : Room)).room s m ([.ref (g_stA G i), .int p1] : List Value).toArray below meth c H locs 0 0 (MQ below (g_Q G E (g_setS μ i zo) (fun E' v => E' = E ∧ v = some (.int ro))) ([.ref (g_stA G i), .int p1] : List Value).toArray s 0 0 (g_A G)) (F0 m 45 ls []) := by
    intro z0 ax3 vx3 H locs ls hf hE_ax3 hR hS hl
    unfold f8_scrapSheet_45 at hf
    refine lv_aload_n hx hb dX8_scrapSheet_45 rfl (lv_at hl 0 rfl) ?_
    obtain ⟨r15, hc16, hf⟩ := g_b1_e hf
    refine g_call (va_runV (As := []) (rest := []) ⟨hx, hb, hml, hown, hts⟩ (c7_area l G E (g_setS μ i z0) _ _ hE_ax3 _ hc16) (cwV 0 hts gX8_scrapSheet_X7_area rfl rfl rfl (by decide +kernel) ⟨Nat.le_of_ble_eq_true rfl, Nat.le_of_ble_eq_true rfl⟩) (g_preV (ci := 7) hR hK ((hR.2.2.2.2.2 _ _ hE_ax3).2) rfl) rfl rfl hl.1 rfl (lv_room (Nat.le_of_ble_eq_true rfl)) dX8_scrapSheet_46 ⟨by show _ ≤ 0; omega, by show _ ≤ 0; omega⟩) hS (fun w17 H locs hp hR hS => ?_)
    subst hp
    obtain ⟨rfl, rfl⟩ := g_sp hf
    exact g_iret hx hb hlocks hr hS hR g_le.rf ⟨rfl, rfl⟩ (by omega) (by omega) dX8_scrapSheet_49
  unfold f8_scrapSheet at hf
  refine lv_aload_n hx hb dX8_scrapSheet_0 rfl (lv_at hl 0 rfl) ?_
  refine g_get hx hb hts in_8 hown hK (hR.f hi).1 rfl 1 (by decide) l_21 rfl rfl dX8_scrapSheet_1 ?_
  refine lv_iload_n hx hb dX8_scrapSheet_4 rfl (lv_at hl 1 rfl) ?_
  obtain ⟨r1, hc2, hf⟩ := g_b1_e hf
  refine g_call (va_runV (As := [.int p1]) (rest := []) ⟨hx, hb, hml, hown, hts⟩ (c5_slotOf l G E μ i hi _ _ _ hc2) (cwV 1 hts gX8_scrapSheet_X5_slotOf rfl rfl rfl (by decide +kernel) ⟨Nat.le_of_ble_eq_true rfl, Nat.le_of_ble_eq_true rfl⟩) (g_preV (ci := 5) hR hK ((hR.f hi).2.2.1) rfl) rfl rfl hl.1 rfl (lv_room (Nat.le_of_ble_eq_true rfl)) dX8_scrapSheet_5 ⟨by show _ ≤ 0; omega, by show _ ≤ 0; omega⟩) hS (fun w3 H locs hp hR hS => ?_)
  subst hp
  refine lv_istore_n (lv' := [(2, .int r1), (0, .ref (g_stA G i)), (1, .int p1)]) hx hb dX8_scrapSheet_8 rfl hl (by decide) rfl (fun ls hl => ?_)
  refine lv_aload_n hx hb dX8_scrapSheet_9 rfl (lv_at hl 1 rfl) ?_
  refine g_get hx hb hts in_8 hown hK (hR.f hi).1 rfl 1 (by decide) l_21 rfl rfl dX8_scrapSheet_10 ?_
  refine lv_iload_n hx hb dX8_scrapSheet_13 rfl (lv_at hl 0 rfl) ?_
  obtain ⟨r4, hc5, hf⟩ := g_b1_e hf
  refine g_call (va_runV (As := [.int r1]) (rest := []) ⟨hx, hb, hml, hown, hts⟩ (c5_inSlot l G E μ i hi _ _ _ hc5) (cwV 1 hts gX8_scrapSheet_X5_inSlot rfl rfl rfl (by decide +kernel) ⟨Nat.le_of_ble_eq_true rfl, Nat.le_of_ble_eq_true rfl⟩) (g_preV (ci := 5) hR hK ((hR.f hi).2.2.1) rfl) rfl rfl hl.1 rfl (lv_room (Nat.le_of_ble_eq_true rfl)) dX8_scrapSheet_14 ⟨by show _ ≤ 0; omega, by show _ ≤ 0; omega⟩) hS (fun w6 H locs hp hR hS => ?_)
  obtain ⟨w7, rfl, hp⟩ := hp
  rcases r4 with _ | v9
  · replace hf := g_ocn hf rfl
    obtain rfl : w7 = .null := hp
    refine lv_astore_nN (lv' := [(3, .null), (2, .int r1), (0, .ref (g_stA G i)), (1, .int p1)]) hx hb dX8_scrapSheet_17 rfl hl (by decide) rfl (fun ls hl => ?_)
    refine lv_aload_nN hx hb dX8_scrapSheet_18 rfl (lv_at hl 0 rfl) ?_
    refine lv_ifnonnullN hx hb dX8_scrapSheet_19 ?_
    refine lv_iconst (v := -1) hx hb dX8_scrapSheet_22 (by decide) ?_
    obtain ⟨rfl, rfl⟩ := g_sp hf
    exact g_iret hx hb hlocks hr hS hR g_le.rf ⟨rfl, rfl⟩ (by omega) (by omega) dX8_scrapSheet_23
  · replace hf := g_ocs hf rfl
    obtain ⟨a8, rfl, hE_a8⟩ := hp
    refine lv_astore_n (lv' := [(3, .ref a8), (2, .int r1), (0, .ref (g_stA G i)), (1, .int p1)]) hx hb dX8_scrapSheet_17 rfl hl (by decide) rfl (fun ls hl => ?_)
    refine lv_aload_n hx hb dX8_scrapSheet_18 rfl (lv_at hl 0 rfl) ?_
    refine lv_ifnonnull (tgt := 24) hx hb dX8_scrapSheet_19 (by decide) ?_
    refine lv_aload_n hx hb dX8_scrapSheet_24 rfl (lv_at hl 2 rfl) ?_
    refine lv_iload_n hx hb dX8_scrapSheet_25 rfl (lv_at hl 1 rfl) ?_
    obtain ⟨r10, z11, hc12, hf⟩ := g_bd_e hf
    refine g_call (va_runV (As := [.int r1]) (rest := []) ⟨hx, hb, hml, hown, hts⟩ (c8_takeOut l G E μ i hi _ _ _ _ hc12) (cwV 1 hts gX8_scrapSheet_X8_takeOut rfl rfl rfl (by decide +kernel) ⟨Nat.le_of_ble_eq_true rfl, Nat.le_of_ble_eq_true rfl⟩) (g_preV (ci := 8) hR hK ((hR.f hi).1) rfl) rfl rfl hl.1 rfl (lv_room (Nat.le_of_ble_eq_true rfl)) dX8_scrapSheet_26 ⟨by show _ ≤ 0; omega, by show _ ≤ 0; omega⟩) hS (fun w13 H locs hp hR hS => ?_)
    subst hp
    refine lv_if_eq (tgt := 45) hx hb dX8_scrapSheet_29 (by decide) (fun c14 => ?_) (fun c14 => ?_)
    · replace hf := g_it hf c14
      exact hB45 _ _ _ _ _ _ hf hE_a8 hR hS (lv_sub hl [0] rfl)
    · replace hf := g_if hf c14
      refine lv_aload_n hx hb dX8_scrapSheet_32 rfl (lv_at hl 2 rfl) ?_
      refine lv_dup hx hb dX8_scrapSheet_33 rfl ?_
      refine g_get hx hb hts in_8 hown hK (hR.f hi).1 rfl 7 (by decide) l_49 rfl rfl dX8_scrapSheet_34 ?_
      refine lv_aload_n hx hb dX8_scrapSheet_37 rfl (lv_at hl 0 rfl) ?_
      obtain ⟨r18, hc19, hf⟩ := g_b1_e hf
      refine g_call (va_runV (As := []) (rest := [.int (z11.1 8), .ref (g_stA G i)]) ⟨hx, hb, hml, hown, hts⟩ (c7_area l G E (g_setS μ i z11) _ _ hE_a8 _ hc19) (cwV 0 hts gX8_scrapSheet_X7_area rfl rfl rfl (by decide +kernel) ⟨Nat.le_of_ble_eq_true rfl, Nat.le_of_ble_eq_true rfl⟩) (g_preV (ci := 7) hR hK ((hR.2.2.2.2.2 _ _ hE_a8).2) rfl) rfl rfl hl.1 rfl (lv_room (Nat.le_of_ble_eq_true rfl)) dX8_scrapSheet_38 ⟨by show _ ≤ 0; omega, by show _ ≤ 0; omega⟩) hS (fun w20 H locs hp hR hS => ?_)
      subst hp
      refine lv_iadd hx hb dX8_scrapSheet_41 ?_
      refine g_p8_7 hx hb hts in_8 hown hK hS hR hi l_49 dX8_scrapSheet_42 (fun H locs hR hS => ?_)
      obtain ⟨z21, ez21, hf⟩ := g_let_e hf
      replace hR : g_R G E (g_setS μ i z21) H := by rw [ez21]; exact hR
      exact hB45 _ _ _ _ _ _ hf hE_a8 hR hS (lv_sub hl [0] rfl)
set_option maxHeartbeats 4000000 in
set_option maxRecDepth 100000 in
theorem c8_takeOrder (l : Launch) (G : gG) (E : gEn) (μ : gMu) (i : Nat) (hi : i < 7) (z0 : gSt) (p1 : Int32) (p2 : Int32) (p3 : Int32) (p4 : Int32) (ro : Int32) (zo : gSt) (hf : f8_takeOrder z0 p1 p2 p3 p4 = some (ro, zo)) : Met l yX8_takeOrder wsX8_takeOrder ({ frames := 3, cells := 1, slots := 8, locals := 66 } : Room) (g_Pre G E (g_setS μ i z0) [.ref (g_stA G i), .int p1, .int p2, .int p3, .int p4]) (g_Q G E (g_setS μ i zo) (fun E' v => v = some (.int ro))) 1 8 (g_A G) := by
  refine Met.ofW (cc := cX8_takeOrder) (maxL := 5) (ret := some .int) (by decide) rfl ?_
  intro p e s m args below meth c s₁ B hml hv
  obtain ⟨rfl, hR, hK⟩ := hv
  have hx := B.exec
  have hb := B.bytes
  have hr := B.returns
  have hts := atoms_spec (ws := wsX8_takeOrder) B.pre
  have hown : s.vm.findClass RX8 = some m.cls := findClass_of_methodNamed B.named
  have hlocks := B.notSynchronized
  have hS : va_S (g_A G) s.heap s.heap [] := va_S.rf
  have hl := lv_entry ([.ref (g_stA G i), .int p1, .int p2, .int p3, .int p4]) (n := 5) (Nat.le_of_ble_eq_true rfl)
  rw [lg_entry_eq]
  generalize (lg_sl ([.ref (g_stA G i), .int p1, .int p2, .int p3, .int p4]) ++ List.replicate (5 - (lg_sl ([.ref (g_stA G i), .int p1, .int p2, .int p3, .int p4])).length) Slot.unset).toArray = ls at hl ⊢
  have hl : lv_has ls 5 [(0, .ref (g_stA G i)), (1, .int p1), (2, .int p2), (3, .int p3), (4, .int p4)] := hl
  have in_8 : ∀ w ∈ u_ws RX8 TX8 11, w ∈ wsX8_takeOrder := ifX8_takeOrder_8
  have l_28 := hts (.fieldLink RX8 28 "GlassRacks$State" "orders" "LGlassRacks$Orders;") (by decide +kernel)
  have k_75 : va_Nw (.methodLinkNest RX8 75 yX9_isSort "GlassRacks") s := hK.2 (RX8, 75, yX9_isSort) (by decide +kernel)
  have k2_75 := hts (.initialized RX9) (by decide +kernel)
  have k3_75 := hts (.static yX9_isSort) (by decide +kernel)
  have k_78 : va_Nw (.methodLinkNest RX8 78 yX9_isSide "GlassRacks") s := hK.2 (RX8, 78, yX9_isSide) (by decide +kernel)
  have k2_78 := hts (.initialized RX9) (by decide +kernel)
  have k3_78 := hts (.static yX9_isSide) (by decide +kernel)
  unfold f8_takeOrder at hf
  refine lv_iload_n hx hb dX8_takeOrder_0 rfl (lv_at hl 1 rfl) ?_
  obtain ⟨r1, hc2, hf⟩ := g_b1_e hf
  refine g_call (va_runSN (As := [.int p1]) (rest := []) ⟨hx, hb, hml, hown, hts⟩ (c9_isSort l G E (g_setS μ i z0) _ _ hc2) ⟨va_cnB 1 hts gX8_takeOrder_X9_isSort_n75 rfl rfl rfl k_75 k2_75 (by decide +kernel) ⟨Nat.le_of_ble_eq_true rfl, Nat.le_of_ble_eq_true rfl⟩, k3_75, trivial⟩ (g_pre hR hK) rfl rfl hl.1 rfl (lv_room (Nat.le_of_ble_eq_true rfl)) dX8_takeOrder_1 ⟨by show _ ≤ 1; omega, by show _ ≤ 8; omega⟩) hS (fun w3 H locs hp hR hS => ?_)
  subst hp
  refine lv_if_ne (tgt := 9) hx hb dX8_takeOrder_4 (by decide) (fun c4 => ?_) (fun c4 => ?_)
  · replace hf := g_it hf c4
    refine lv_iload_n hx hb dX8_takeOrder_9 rfl (lv_at hl 2 rfl) ?_
    obtain ⟨r5, hc6, hf⟩ := g_b1_e hf
    refine g_call (va_runSN (As := [.int p2]) (rest := []) ⟨hx, hb, hml, hown, hts⟩ (c9_isSide l G E (g_setS μ i z0) _ _ hc6) ⟨va_cnB 1 hts gX8_takeOrder_X9_isSide_n78 rfl rfl rfl k_78 k2_78 (by decide +kernel) ⟨Nat.le_of_ble_eq_true rfl, Nat.le_of_ble_eq_true rfl⟩, k3_78, trivial⟩ (g_pre hR hK) rfl rfl hl.1 rfl (lv_room (Nat.le_of_ble_eq_true rfl)) dX8_takeOrder_10 ⟨by show _ ≤ 1; omega, by show _ ≤ 8; omega⟩) hS (fun w7 H locs hp hR hS => ?_)
    subst hp
    refine lv_if_eq (tgt := 36) hx hb dX8_takeOrder_13 (by decide) (fun c8 => ?_) (fun c8 => ?_)
    · replace hf := g_it hf c8
      refine lv_bipush (v := -2) hx hb dX8_takeOrder_36 (by decide) ?_
      obtain ⟨rfl, rfl⟩ := g_sp hf
      exact g_iret hx hb hlocks hr hS hR g_le.rf rfl (by omega) (by omega) dX8_takeOrder_38
    · replace hf := g_if hf c8
      refine lv_iload_n hx hb dX8_takeOrder_16 rfl (lv_at hl 3 rfl) ?_
      obtain ⟨r9, hc10, hf⟩ := g_b1_e hf
      refine g_call (va_runSN (As := [.int p3]) (rest := []) ⟨hx, hb, hml, hown, hts⟩ (c9_isSide l G E (g_setS μ i z0) _ _ hc10) ⟨va_cnB 1 hts gX8_takeOrder_X9_isSide_n78 rfl rfl rfl k_78 k2_78 (by decide +kernel) ⟨Nat.le_of_ble_eq_true rfl, Nat.le_of_ble_eq_true rfl⟩, k3_78, trivial⟩ (g_pre hR hK) rfl rfl hl.1 rfl (lv_room (Nat.le_of_ble_eq_true rfl)) dX8_takeOrder_17 ⟨by show _ ≤ 1; omega, by show _ ≤ 8; omega⟩) hS (fun w11 H locs hp hR hS => ?_)
      subst hp
      refine lv_if_eq (tgt := 36) hx hb dX8_takeOrder_20 (by decide) (fun c12 => ?_) (fun c12 => ?_)
      · replace hf := g_it hf c12
        refine lv_bipush (v := -2) hx hb dX8_takeOrder_36 (by decide) ?_
        obtain ⟨rfl, rfl⟩ := g_sp hf
        exact g_iret hx hb hlocks hr hS hR g_le.rf rfl (by omega) (by omega) dX8_takeOrder_38
      · replace hf := g_if hf c12
        refine lv_iload hx hb dX8_takeOrder_23 (lv_at hl 4 rfl) ?_
        refine lv_if_lt (tgt := 36) hx hb dX8_takeOrder_25 (by decide) (fun c13 => ?_) (fun c13 => ?_)
        · replace hf := g_it hf c13
          refine lv_bipush (v := -2) hx hb dX8_takeOrder_36 (by decide) ?_
          obtain ⟨rfl, rfl⟩ := g_sp hf
          exact g_iret hx hb hlocks hr hS hR g_le.rf rfl (by omega) (by omega) dX8_takeOrder_38
        · replace hf := g_if hf c13
          refine lv_iload hx hb dX8_takeOrder_28 (lv_at hl 4 rfl) ?_
          refine lv_sipush (v := 999) hx hb dX8_takeOrder_30 (by decide) ?_
          refine lv_icmp_le (tgt := 39) hx hb dX8_takeOrder_33 (by decide) (fun c14 => ?_) (fun c14 => ?_)
          · replace hf := g_it hf c14
            refine lv_aload_n hx hb dX8_takeOrder_39 rfl (lv_at hl 0 rfl) ?_
            refine g_get hx hb hts in_8 hown hK (hR.f hi).1 rfl 2 (by decide) l_28 rfl rfl dX8_takeOrder_40 ?_
            obtain ⟨r15, hc16, hf⟩ := g_b1_e hf
            refine g_call (va_runV (As := []) (rest := []) ⟨hx, hb, hml, hown, hts⟩ (c4_isFull l G E μ i hi _ _ hc16) (cwV 0 hts gX8_takeOrder_X4_isFull rfl rfl rfl (by decide +kernel) ⟨Nat.le_of_ble_eq_true rfl, Nat.le_of_ble_eq_true rfl⟩) (g_preV (ci := 4) hR hK ((hR.f hi).2.2.2.2.1) rfl) rfl rfl hl.1 rfl (lv_room (Nat.le_of_ble_eq_true rfl)) dX8_takeOrder_43 ⟨by show _ ≤ 1; omega, by show _ ≤ 8; omega⟩) hS (fun w17 H locs hp hR hS => ?_)
            subst hp
            refine lv_if_eq (tgt := 52) hx hb dX8_takeOrder_46 (by decide) (fun c18 => ?_) (fun c18 => ?_)
            · replace hf := g_it hf c18
              refine lv_aload_n hx hb dX8_takeOrder_52 rfl (lv_at hl 0 rfl) ?_
              refine g_get hx hb hts in_8 hown hK (hR.f hi).1 rfl 2 (by decide) l_28 rfl rfl dX8_takeOrder_53 ?_
              refine lv_iload_n hx hb dX8_takeOrder_56 rfl (lv_at hl 1 rfl) ?_
              refine lv_iload_n hx hb dX8_takeOrder_57 rfl (lv_at hl 2 rfl) ?_
              refine lv_iload_n hx hb dX8_takeOrder_58 rfl (lv_at hl 3 rfl) ?_
              refine lv_iload hx hb dX8_takeOrder_59 (lv_at hl 4 rfl) ?_
              obtain ⟨r19, z20, hc21, hf⟩ := g_bd_e hf
              refine g_calln (va_runV (As := [.int p1, .int p2, .int p3, .int p4]) (rest := []) ⟨hx, hb, hml, hown, hts⟩ (c4_addNew l G E μ i hi _ _ _ _ _ _ _ hc21) (cwV 4 hts gX8_takeOrder_X4_addNew rfl rfl rfl (by decide +kernel) ⟨Nat.le_of_ble_eq_true rfl, Nat.le_of_ble_eq_true rfl⟩) (g_preV (ci := 4) hR hK ((hR.f hi).2.2.2.2.1) rfl) rfl rfl hl.1 rfl (lv_room (Nat.le_of_ble_eq_true rfl)) dX8_takeOrder_61 ⟨by show _ ≤ 1; omega, by show _ ≤ 8; omega⟩) hS (fun w22 E23 H locs hp hle24 hR hS => ?_)
              subst hp
              obtain ⟨rfl, rfl⟩ := g_sp hf
              exact g_iret hx hb hlocks hr hS hR ((g_le.rf).tr hle24) rfl (by omega) (by omega) dX8_takeOrder_64
            · replace hf := g_if hf c18
              refine lv_bipush (v := -3) hx hb dX8_takeOrder_49 (by decide) ?_
              obtain ⟨rfl, rfl⟩ := g_sp hf
              exact g_iret hx hb hlocks hr hS hR g_le.rf rfl (by omega) (by omega) dX8_takeOrder_51
          · replace hf := g_if hf c14
            refine lv_bipush (v := -2) hx hb dX8_takeOrder_36 (by decide) ?_
            obtain ⟨rfl, rfl⟩ := g_sp hf
            exact g_iret hx hb hlocks hr hS hR g_le.rf rfl (by omega) (by omega) dX8_takeOrder_38
  · replace hf := g_if hf (fun q => q c4)
    refine lv_iconst (v := -1) hx hb dX8_takeOrder_7 (by decide) ?_
    obtain ⟨rfl, rfl⟩ := g_sp hf
    exact g_iret hx hb hlocks hr hS hR g_le.rf rfl (by omega) (by omega) dX8_takeOrder_8
