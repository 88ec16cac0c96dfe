set_option maxHeartbeats 4000000 in
set_option maxRecDepth 100000 in
theorem c1_splitSheet (l : Launch) (G : gG) (E : gEn) (μ : gMu) (i : Nat) (hi : i < 7) (z0 : gSt) (p1 : Int32) (p2 : Int32) (a3 : Nat) (v3 : gSh) (hE_a3 : E a3 = some (.inl v3)) (zo : gSt) (hf : f1_splitSheet z0 p1 p2 v3 = some zo) : Met l yX1_splitSheet wsX1_splitSheet ({ frames := 0, cells := 0, slots := 0, locals := 0 } : Room) (g_Pre G E (g_setS μ i z0) [.ref (g_stA G i + 6), .int p1, .int p2, .ref a3, .ref (g_stA G i + 1)]) (g_Q G E (g_setS μ i zo) (fun E' v => E' = E ∧ v = none)) 0 0 (g_A G) := by
  refine Met.ofW (cc := cX1_splitSheet) (maxL := 6) (ret := none) (by decide) rfl ?_
  intro p e s m args below meth c s₁ B hml hv
  obtain ⟨rfl, hR, hK⟩ := hv
  have hx := B.exec
  have hb := B.bytes
  have hr := B.returns
  have hts := atoms_spec (ws := wsX1_splitSheet) B.pre
  have hown : s.vm.findClass RX1 = some m.cls := findClass_of_methodNamed B.named
  have hlocks := B.notSynchronized
  have hS : va_S (g_A G) s.heap s.heap [] := va_S.rf
  have hl := lv_entry ([.ref (g_stA G i + 6), .int p1, .int p2, .ref a3, .ref (g_stA G i + 1)]) (n := 6) (Nat.le_of_ble_eq_true rfl)
  rw [lg_entry_eq]
  generalize (lg_sl ([.ref (g_stA G i + 6), .int p1, .int p2, .ref a3, .ref (g_stA G i + 1)]) ++ List.replicate (6 - (lg_sl ([.ref (g_stA G i + 6), .int p1, .int p2, .ref a3, .ref (g_stA G i + 1)])).length) Slot.unset).toArray = ls at hl ⊢
  have hl : lv_has ls 6 [(0, .ref (g_stA G i + 6)), (1, .int p1), (2, .int p2), (3, .ref a3), (4, .ref (g_stA G i + 1))] := hl
  have in_1 : ∀ w ∈ u_ws RX1 TX1 10, w ∈ wsX1_splitSheet := ifX1_splitSheet_1
  have in_6 : ∀ w ∈ u_ws RX6 TX6 5, w ∈ wsX1_splitSheet := ifX1_splitSheet_6
  have in_7 : ∀ w ∈ u_ws RX7 TX7 5, w ∈ wsX1_splitSheet := ifX1_splitSheet_7
  have l_13 := hts (.fieldLink RX1 13 "GlassRacks$Cutting" "besideWidth" "I") (by decide +kernel)
  have l_17 := hts (.fieldLink RX1 17 "GlassRacks$Cutting" "besideHeight" "I") (by decide +kernel)
  have l_23 := hts (.fieldLink RX1 23 "GlassRacks$Cutting" "aboveWidth" "I") (by decide +kernel)
  have l_26 := hts (.fieldLink RX1 26 "GlassRacks$Cutting" "aboveHeight" "I") (by decide +kernel)
  have l_52 := hts (.fieldLink RX1 52 "GlassRacks$Sheet" "width" "I") (by decide +kernel)
  have l_56 := hts (.fieldLink RX1 56 "GlassRacks$Sheet" "height" "I") (by decide +kernel)
  have l_78 := hts (.fieldLink RX1 78 "GlassRacks$Settings" "manner" "I") (by decide +kernel)
  have l_81 := hts (.fieldLink RX1 81 "GlassRacks$Settings" "cutWidth" "I") (by decide +kernel)
  have hB62 : ∀ (z0 : gSt) (x2 : Int32) (ax3 : Nat) (vx3 : gSh) (y1 : Int32) (H : Heap) (locs : List Loc) (ls : Array Slot), f1_splitSheet_62 z0 x2 vx3 y1 = some zo → E ax3 = some (.inl vx3) → g_R G E (g_setS μ i z0) H → va_S (g_A G) s.heap H locs → lv_has ls 6 [(0, .ref (g_stA G i + 6)), (2, .int x2), (3, .ref ax3), (4, .ref (g_stA G i + 1))] → W p l e (headSpec wsX1_splitSheet ({ frames := 0, cells := 0, slots := 0, locals := 0 } : Room)).room s m ([.ref (g_stA G i + 6), .int p1, .int p2, .ref a3, .ref (g_stA G i + 1)] : List Value).toArray below meth c H locs 0 0 (MQ below (g_Q G E (g_setS μ i zo) (fun E' v => E' = E ∧ v = none)) ([.ref (g_stA G i + 6), .int p1, .int p2, .ref a3, .ref (g_stA G i + 1)] : List Value).toArray s 0 0 (g_A G)) (F0 m 62 ls [.int y1, .ref (g_stA G i + 6)]) := by
    intro z0 x2 ax3 vx3 y1 H locs ls hf hE_ax3 hR hS hl
    unfold f1_splitSheet_62 at hf
    refine g_p1_4 hx hb hts in_1 hown hK hS hR hi l_23 dX1_splitSheet_62 (fun H locs hR hS => ?_)
    obtain ⟨z6, ez6, hf⟩ := g_let_e hf
    replace hR : g_R G E (g_setS μ i z6) H := by rw [ez6]; exact hR
    refine lv_aload_n hx hb dX1_splitSheet_65 rfl (lv_at hl 0 rfl) ?_
    refine lv_aload_n hx hb dX1_splitSheet_66 rfl (lv_at hl 2 rfl) ?_
    refine g_get hx hb hts in_7 hown hK ((hR.2.2.2.2.2 _ _ hE_ax3).2) rfl 3 (by decide) l_56 rfl rfl dX1_splitSheet_67 ?_
    refine lv_iload_n hx hb dX1_splitSheet_70 rfl (lv_at hl 1 rfl) ?_
    refine lv_isub hx hb dX1_splitSheet_71 ?_
    refine lv_aload hx hb dX1_splitSheet_72 (lv_at hl 3 rfl) ?_
    refine g_get hx hb hts in_6 hown hK (hR.f hi).2.1 rfl 0 (by decide) l_81 rfl rfl dX1_splitSheet_74 ?_
    refine lv_isub hx hb dX1_splitSheet_77 ?_
    refine g_p1_5 hx hb hts in_1 hown hK hS hR hi l_26 dX1_splitSheet_78 (fun H locs hR hS => ?_)
    obtain ⟨z7, ez7, hf⟩ := g_let_e hf
    replace hR : g_R G E (g_setS μ i z7) H := by rw [ez7]; exact hR
    obtain rfl := g_s1 hf
    exact g_vret hx hb hlocks hr hS hR g_le.rf ⟨rfl, rfl⟩ (by omega) (by omega) dX1_splitSheet_81
  have hB45 : ∀ (z0 : gSt) (x1 : Int32) (x2 : Int32) (ax3 : Nat) (vx3 : gSh) (x5 : Int32) (y1 : Int32) (H : Heap) (locs : List Loc) (ls : Array Slot), f1_splitSheet_45 z0 x1 x2 vx3 x5 y1 = some zo → E ax3 = some (.inl vx3) → g_R G E (g_setS μ i z0) H → va_S (g_A G) s.heap H locs → lv_has ls 6 [(0, .ref (g_stA G i + 6)), (1, .int x1), (2, .int x2), (3, .ref ax3), (4, .ref (g_stA G i + 1)), (5, .int x5)] → W p l e (headSpec wsX1_splitSheet ({ frames := 0, cells := 0, slots := 0, locals := 0 } : Room)).room s m ([.ref (g_stA G i + 6), .int p1, .int p2, .ref a3, .ref (g_stA G i + 1)] : List Value).toArray below meth c H locs 0 0 (MQ below (g_Q G E (g_setS μ i zo) (fun E' v => E' = E ∧ v = none)) ([.ref (g_stA G i + 6), .int p1, .int p2, .ref a3, .ref (g_stA G i + 1)] : List Value).toArray s 0 0 (g_A G)) (F0 m 45 ls [.int y1, .ref (g_stA G i + 6)]) := by
    intro z0 x1 x2 ax3 vx3 x5 y1 H locs ls hf hE_ax3 hR hS hl
    unfold f1_splitSheet_45 at hf
    refine g_p1_2 hx hb hts in_1 hown hK hS hR hi l_17 dX1_splitSheet_45 (fun H locs hR hS => ?_)
    obtain ⟨z4, ez4, hf⟩ := g_let_e hf
    replace hR : g_R G E (g_setS μ i z4) H := by rw [ez4]; exact hR
    refine lv_aload_n hx hb dX1_splitSheet_48 rfl (lv_at hl 0 rfl) ?_
    refine lv_iload hx hb dX1_splitSheet_49 (lv_at hl 5 rfl) ?_
    refine lv_if_eq (tgt := 61) hx hb dX1_splitSheet_51 (by decide) (fun c5 => ?_) (fun c5 => ?_)
    · replace hf := g_it hf c5
      refine lv_iload_n hx hb dX1_splitSheet_61 rfl (lv_at hl 1 rfl) ?_
      exact hB62 _ _ _ _ _ _ _ _ hf hE_ax3 hR hS (lv_sub hl [0, 2, 3, 4] rfl)
    · replace hf := g_if hf c5
      refine lv_aload_n hx hb dX1_splitSheet_54 rfl (lv_at hl 3 rfl) ?_
      refine g_get hx hb hts in_7 hown hK ((hR.2.2.2.2.2 _ _ hE_ax3).2) rfl 2 (by decide) l_52 rfl rfl dX1_splitSheet_55 ?_
      refine lv_goto (tgt := 62) hx hb dX1_splitSheet_58 (by decide) ?_
      exact hB62 _ _ _ _ _ _ _ _ hf hE_ax3 hR hS (lv_sub hl [0, 2, 3, 4] rfl)
  have hB13 : ∀ (z0 : gSt) (x1 : Int32) (x2 : Int32) (ax3 : Nat) (vx3 : gSh) (y0 : Int32) (H : Heap) (locs : List Loc) (ls : Array Slot), f1_splitSheet_13 z0 x1 x2 vx3 y0 = some zo → E ax3 = some (.inl vx3) → g_R G E (g_setS μ i z0) H → va_S (g_A G) s.heap H locs → lv_has ls 6 [(0, .ref (g_stA G i + 6)), (1, .int x1), (2, .int x2), (3, .ref ax3), (4, .ref (g_stA G i + 1))] → W p l e (headSpec wsX1_splitSheet ({ frames := 0, cells := 0, slots := 0, locals := 0 } : Room)).room s m ([.ref (g_stA G i + 6), .int p1, .int p2, .ref a3, .ref (g_stA G i + 1)] : List Value).toArray below meth c H locs 0 0 (MQ below (g_Q G E (g_setS μ i zo) (fun E' v => E' = E ∧ v = none)) ([.ref (g_stA G i + 6), .int p1, .int p2, .ref a3, .ref (g_stA G i + 1)] : List Value).toArray s 0 0 (g_A G)) (F0 m 13 ls [.int y0]) := by
    intro z0 x1 x2 ax3 vx3 y0 H locs ls hf hE_ax3 hR hS hl
    unfold f1_splitSheet_13 at hf
    refine lv_istore (lv' := [(5, .int y0), (0, .ref (g_stA G i + 6)), (1, .int x1), (2, .int x2), (3, .ref ax3), (4, .ref (g_stA G i + 1))]) hx hb dX1_splitSheet_13 hl (by decide) rfl (fun ls hl => ?_)
    refine lv_aload_n hx hb dX1_splitSheet_15 rfl (lv_at hl 1 rfl) ?_
    refine lv_aload_n hx hb dX1_splitSheet_16 rfl (lv_at hl 4 rfl) ?_
    refine g_get hx hb hts in_7 hown hK ((hR.2.2.2.2.2 _ _ hE_ax3).2) rfl 2 (by decide) l_52 rfl rfl dX1_splitSheet_17 ?_
    refine lv_iload_n hx hb dX1_splitSheet_20 rfl (lv_at hl 2 rfl) ?_
    refine lv_isub hx hb dX1_splitSheet_21 ?_
    refine lv_aload hx hb dX1_splitSheet_22 (lv_at hl 5 rfl) ?_
    refine g_get hx hb hts in_6 hown hK (hR.f hi).2.1 rfl 0 (by decide) l_81 rfl rfl dX1_splitSheet_24 ?_
    refine lv_isub hx hb dX1_splitSheet_27 ?_
    refine g_p1_1 hx hb hts in_1 hown hK hS hR hi l_13 dX1_splitSheet_28 (fun H locs hR hS => ?_)
    obtain ⟨z2, ez2, hf⟩ := g_let_e hf
    replace hR : g_R G E (g_setS μ i z2) H := by rw [ez2]; exact hR
    refine lv_aload_n hx hb dX1_splitSheet_31 rfl (lv_at hl 1 rfl) ?_
    refine lv_iload hx hb dX1_splitSheet_32 (lv_at hl 0 rfl) ?_
    refine lv_if_eq (tgt := 41) hx hb dX1_splitSheet_34 (by decide) (fun c3 => ?_) (fun c3 => ?_)
    · replace hf := g_it hf c3
      refine lv_aload_n hx hb dX1_splitSheet_41 rfl (lv_at hl 4 rfl) ?_
      refine g_get hx hb hts in_7 hown hK ((hR.2.2.2.2.2 _ _ hE_ax3).2) rfl 3 (by decide) l_56 rfl rfl dX1_splitSheet_42 ?_
      exact hB45 _ _ _ _ _ _ _ _ _ _ hf hE_ax3 hR hS (lv_sub hl [1, 2, 3, 4, 5, 0] rfl)
    · replace hf := g_if hf c3
      refine lv_iload_n hx hb dX1_splitSheet_37 rfl (lv_at hl 3 rfl) ?_
      refine lv_goto (tgt := 45) hx hb dX1_splitSheet_38 (by decide) ?_
      exact hB45 _ _ _ _ _ _ _ _ _ _ hf hE_ax3 hR hS (lv_sub hl [1, 2, 3, 4, 5, 0] rfl)
  unfold f1_splitSheet at hf
  refine lv_aload hx hb dX1_splitSheet_0 (lv_at hl 4 rfl) ?_
  refine g_get hx hb hts in_6 hown hK (hR.f hi).2.1 rfl 2 (by decide) l_78 rfl rfl dX1_splitSheet_2 ?_
  refine lv_if_ne (tgt := 12) hx hb dX1_splitSheet_5 (by decide) (fun c1 => ?_) (fun c1 => ?_)
  · replace hf := g_it hf c1
    refine lv_iconst (v := 0) hx hb dX1_splitSheet_12 (by decide) ?_
    exact hB13 _ _ _ _ _ _ _ _ _ hf hE_a3 hR hS (lv_sub hl [0, 1, 2, 3, 4] rfl)
  · replace hf := g_if hf (fun q => q c1)
    refine lv_iconst (v := 1) hx hb dX1_splitSheet_8 (by decide) ?_
    refine lv_goto (tgt := 13) hx hb dX1_splitSheet_9 (by decide) ?_
    exact hB13 _ _ _ _ _ _ _ _ _ hf hE_a3 hR hS (lv_sub hl [0, 1, 2, 3, 4] rfl)
set_option maxHeartbeats 4000000 in
set_option maxRecDepth 100000 in
theorem c1_sumUp (l : Launch) (G : gG) (E : gEn) (μ : gMu) (i : Nat) (hi : i < 7) (z0 : gSt) (p1 : Int32) (p2 : Int32) (zo : gSt) (hf : f1_sumUp z0 p1 p2 = some zo) : Met l yX1_sumUp wsX1_sumUp ({ frames := 1, cells := 0, slots := 0, locals := 21 } : Room) (g_Pre G E (g_setS μ i z0) [.ref (g_stA G i + 6), .int p1, .int p2]) (g_Q G E (g_setS μ i zo) (fun E' v => E' = E ∧ v = none)) 0 0 (g_A G) := by
  refine Met.ofW (cc := cX1_sumUp) (maxL := 3) (ret := none) (by decide) rfl ?_
  intro p e s m args below meth c s₁ B hml hv
  obtain ⟨rfl, hR, hK⟩ := hv
  have hx := B.exec
  have hb := B.bytes
  have hr := B.returns
  have hts := atoms_spec (ws := wsX1_sumUp) B.pre
  have hown : s.vm.findClass RX1 = some m.cls := findClass_of_methodNamed B.named
  have hlocks := B.notSynchronized
  have hS : va_S (g_A G) s.heap s.heap [] := va_S.rf
  have hl := lv_entry ([.ref (g_stA G i + 6), .int p1, .int p2]) (n := 3) (Nat.le_of_ble_eq_true rfl)
  rw [lg_entry_eq]
  generalize (lg_sl ([.ref (g_stA G i + 6), .int p1, .int p2]) ++ List.replicate (3 - (lg_sl ([.ref (g_stA G i + 6), .int p1, .int p2])).length) Slot.unset).toArray = ls at hl ⊢
  have hl : lv_has ls 3 [(0, .ref (g_stA G i + 6)), (1, .int p1), (2, .int p2)] := hl
  have in_1 : ∀ w ∈ u_ws RX1 TX1 10, w ∈ wsX1_sumUp := ifX1_sumUp_1
  have l_13 := hts (.fieldLink RX1 13 "GlassRacks$Cutting" "besideWidth" "I") (by decide +kernel)
  have l_17 := hts (.fieldLink RX1 17 "GlassRacks$Cutting" "besideHeight" "I") (by decide +kernel)
  have l_20 := hts (.fieldLink RX1 20 "GlassRacks$Cutting" "besideArea" "I") (by decide +kernel)
  have l_23 := hts (.fieldLink RX1 23 "GlassRacks$Cutting" "aboveWidth" "I") (by decide +kernel)
  have l_26 := hts (.fieldLink RX1 26 "GlassRacks$Cutting" "aboveHeight" "I") (by decide +kernel)
  have l_29 := hts (.fieldLink RX1 29 "GlassRacks$Cutting" "aboveArea" "I") (by decide +kernel)
  have l_32 := hts (.fieldLink RX1 32 "GlassRacks$Cutting" "keptArea" "I") (by decide +kernel)
  have l_35 := hts (.fieldLink RX1 35 "GlassRacks$Cutting" "scrapArea" "I") (by decide +kernel)
  have l_38 := hts (.fieldLink RX1 38 "GlassRacks$Cutting" "lostArea" "I") (by decide +kernel)
  have x_84 := hts (.methodLink RX1 84 Lib.Math.max.name) (by decide +kernel)
  have x2_84 := hts (.static Lib.Math.max.name) (by decide +kernel)
  have x3_84 := hts (.initialized "java/lang/Math") (by decide +kernel)
  have x4_84 := hts (.code Lib.Math.max.name Lib.Math.max.code 2 (some .int)) (by decide +kernel)
  have hB97 : ∀ (z0 : gSt) (x1 : Int32) (H : Heap) (locs : List Loc) (ls : Array Slot), f1_sumUp_97 z0 x1 = some zo → g_R G E (g_setS μ i z0) H → va_S (g_A G) s.heap H locs → lv_has ls 3 [(0, .ref (g_stA G i + 6)), (1, .int x1)] → W p l e (headSpec wsX1_sumUp ({ frames := 1, cells := 0, slots := 0, locals := 21 } : Room)).room s m ([.ref (g_stA G i + 6), .int p1, .int p2] : List Value).toArray below meth c H locs 0 0 (MQ below (g_Q G E (g_setS μ i zo) (fun E' v => E' = E ∧ v = none)) ([.ref (g_stA G i + 6), .int p1, .int p2] : List Value).toArray s 0 0 (g_A G)) (F0 m 97 ls []) := by
    intro z0 x1 H locs ls hf  hR hS hl
    unfold f1_sumUp_97 at hf
    refine lv_aload_n hx hb dX1_sumUp_97 rfl (lv_at hl 0 rfl) ?_
    refine lv_aload_n hx hb dX1_sumUp_98 rfl (lv_at hl 0 rfl) ?_
    refine g_get hx hb hts in_1 hown hK (hR.f hi).2.2.2.2.2.2 rfl 3 (by decide) l_20 rfl rfl dX1_sumUp_99 ?_
    refine lv_aload_n hx hb dX1_sumUp_102 rfl (lv_at hl 0 rfl) ?_
    refine g_get hx hb hts in_1 hown hK (hR.f hi).2.2.2.2.2.2 rfl 6 (by decide) l_29 rfl rfl dX1_sumUp_103 ?_
    refine lv_iadd hx hb dX1_sumUp_106 ?_
    refine lv_aload_n hx hb dX1_sumUp_107 rfl (lv_at hl 0 rfl) ?_
    refine g_get hx hb hts in_1 hown hK (hR.f hi).2.2.2.2.2.2 rfl 7 (by decide) l_32 rfl rfl dX1_sumUp_108 ?_
    refine lv_isub hx hb dX1_sumUp_111 ?_
    refine g_p1_8 hx hb hts in_1 hown hK hS hR hi l_35 dX1_sumUp_112 (fun H locs hR hS => ?_)
    obtain ⟨z6, ez6, hf⟩ := g_let_e hf
    replace hR : g_R G E (g_setS μ i z6) H := by rw [ez6]; exact hR
    refine lv_aload_n hx hb dX1_sumUp_115 rfl (lv_at hl 0 rfl) ?_
    refine lv_iload_n hx hb dX1_sumUp_116 rfl (lv_at hl 1 rfl) ?_
    refine lv_aload_n hx hb dX1_sumUp_117 rfl (lv_at hl 0 rfl) ?_
    refine g_get hx hb hts in_1 hown hK (hR.f hi).2.2.2.2.2.2 rfl 3 (by decide) l_20 rfl rfl dX1_sumUp_118 ?_
    refine lv_isub hx hb dX1_sumUp_121 ?_
    refine lv_aload_n hx hb dX1_sumUp_122 rfl (lv_at hl 0 rfl) ?_
    refine g_get hx hb hts in_1 hown hK (hR.f hi).2.2.2.2.2.2 rfl 6 (by decide) l_29 rfl rfl dX1_sumUp_123 ?_
    refine lv_isub hx hb dX1_sumUp_126 ?_
    refine g_p1_9 hx hb hts in_1 hown hK hS hR hi l_38 dX1_sumUp_127 (fun H locs hR hS => ?_)
    obtain ⟨z7, ez7, hf⟩ := g_let_e hf
    replace hR : g_R G E (g_setS μ i z7) H := by rw [ez7]; exact hR
    obtain rfl := g_s1 hf
    exact g_vret hx hb hlocks hr hS hR g_le.rf ⟨rfl, rfl⟩ (by omega) (by omega) dX1_sumUp_130
  have hB68 : ∀ (z0 : gSt) (x1 : Int32) (x2 : Int32) (H : Heap) (locs : List Loc) (ls : Array Slot), f1_sumUp_68 z0 x1 x2 = some zo → g_R G E (g_setS μ i z0) H → va_S (g_A G) s.heap H locs → lv_has ls 3 [(0, .ref (g_stA G i + 6)), (1, .int x1), (2, .int x2)] → W p l e (headSpec wsX1_sumUp ({ frames := 1, cells := 0, slots := 0, locals := 21 } : Room)).room s m ([.ref (g_stA G i + 6), .int p1, .int p2] : List Value).toArray below meth c H locs 0 0 (MQ below (g_Q G E (g_setS μ i zo) (fun E' v => E' = E ∧ v = none)) ([.ref (g_stA G i + 6), .int p1, .int p2] : List Value).toArray s 0 0 (g_A G)) (F0 m 68 ls []) := by
    intro z0 x1 x2 H locs ls hf  hR hS hl
    unfold f1_sumUp_68 at hf
    refine lv_aload_n hx hb dX1_sumUp_68 rfl (lv_at hl 0 rfl) ?_
    refine g_get hx hb hts in_1 hown hK (hR.f hi).2.2.2.2.2.2 rfl 4 (by decide) l_23 rfl rfl dX1_sumUp_69 ?_
    refine lv_iload_n hx hb dX1_sumUp_72 rfl (lv_at hl 2 rfl) ?_
    refine lv_icmp_lt (tgt := 97) hx hb dX1_sumUp_73 (by decide) (fun c5 => ?_) (fun c5 => ?_)
    · replace hf := g_it hf c5
      exact hB97 _ _ _ _ _ hf  hR hS (lv_sub hl [0, 1] rfl)
    · replace hf := g_if hf c5
      refine lv_aload_n hx hb dX1_sumUp_76 rfl (lv_at hl 0 rfl) ?_
      refine g_get hx hb hts in_1 hown hK (hR.f hi).2.2.2.2.2.2 rfl 5 (by decide) l_26 rfl rfl dX1_sumUp_77 ?_
      refine lv_iload_n hx hb dX1_sumUp_80 rfl (lv_at hl 2 rfl) ?_
      refine lv_icmp_lt (tgt := 97) hx hb dX1_sumUp_81 (by decide) (fun c8 => ?_) (fun c8 => ?_)
      · replace hf := g_it hf c8
        exact hB97 _ _ _ _ _ hf  hR hS (lv_sub hl [0, 1] rfl)
      · replace hf := g_if hf c8
        refine lv_aload_n hx hb dX1_sumUp_84 rfl (lv_at hl 0 rfl) ?_
        refine lv_dup hx hb dX1_sumUp_85 rfl ?_
        refine g_get hx hb hts in_1 hown hK (hR.f hi).2.2.2.2.2.2 rfl 7 (by decide) l_32 rfl rfl dX1_sumUp_86 ?_
        refine lv_aload_n hx hb dX1_sumUp_89 rfl (lv_at hl 0 rfl) ?_
        refine g_get hx hb hts in_1 hown hK (hR.f hi).2.2.2.2.2.2 rfl 6 (by decide) l_29 rfl rfl dX1_sumUp_90 ?_
        refine lv_iadd hx hb dX1_sumUp_93 ?_
        refine g_p1_7 hx hb hts in_1 hown hK hS hR hi l_32 dX1_sumUp_94 (fun H locs hR hS => ?_)
        obtain ⟨z9, ez9, hf⟩ := g_let_e hf
        replace hR : g_R G E (g_setS μ i z9) H := by rw [ez9]; exact hR
        exact hB97 _ _ _ _ _ hf  hR hS (lv_sub hl [0, 1] rfl)
  unfold f1_sumUp at hf
  refine lv_aload_n hx hb dX1_sumUp_0 rfl (lv_at hl 0 rfl) ?_
  refine lv_aload_n hx hb dX1_sumUp_1 rfl (lv_at hl 0 rfl) ?_
  refine g_get hx hb hts in_1 hown hK (hR.f hi).2.2.2.2.2.2 rfl 1 (by decide) l_13 rfl rfl dX1_sumUp_2 ?_
  refine lv_iconst (v := 0) hx hb dX1_sumUp_5 (by decide) ?_
  refine va_mmax hx hb (by rw [hml]; exact hl.1.symm) hown x_84 x2_84 x3_84 x4_84 (Nat.le_of_ble_eq_true rfl) (Nat.le_of_ble_eq_true rfl) (Nat.zero_le _) (Nat.zero_le _) dX1_sumUp_6 ?_
  refine lv_aload_n hx hb dX1_sumUp_9 rfl (lv_at hl 0 rfl) ?_
  refine g_get hx hb hts in_1 hown hK (hR.f hi).2.2.2.2.2.2 rfl 2 (by decide) l_17 rfl rfl dX1_sumUp_10 ?_
  refine lv_imul hx hb dX1_sumUp_13 ?_
  refine g_p1_3 hx hb hts in_1 hown hK hS hR hi l_20 dX1_sumUp_14 (fun H locs hR hS => ?_)
  obtain ⟨z1, ez1, hf⟩ := g_let_e hf
  replace hR : g_R G E (g_setS μ i z1) H := by rw [ez1]; exact hR
  refine lv_aload_n hx hb dX1_sumUp_17 rfl (lv_at hl 0 rfl) ?_
  refine lv_aload_n hx hb dX1_sumUp_18 rfl (lv_at hl 0 rfl) ?_
  refine g_get hx hb hts in_1 hown hK (hR.f hi).2.2.2.2.2.2 rfl 4 (by decide) l_23 rfl rfl dX1_sumUp_19 ?_
  refine lv_aload_n hx hb dX1_sumUp_22 rfl (lv_at hl 0 rfl) ?_
  refine g_get hx hb hts in_1 hown hK (hR.f hi).2.2.2.2.2.2 rfl 5 (by decide) l_26 rfl rfl dX1_sumUp_23 ?_
  refine lv_iconst (v := 0) hx hb dX1_sumUp_26 (by decide) ?_
  refine va_mmax hx hb (by rw [hml]; exact hl.1.symm) hown x_84 x2_84 x3_84 x4_84 (Nat.le_of_ble_eq_true rfl) (Nat.le_of_ble_eq_true rfl) (Nat.zero_le _) (Nat.zero_le _) dX1_sumUp_27 ?_
  refine lv_imul hx hb dX1_sumUp_30 ?_
  refine g_p1_6 hx hb hts in_1 hown hK hS hR hi l_29 dX1_sumUp_31 (fun H locs hR hS => ?_)
  obtain ⟨z2, ez2, hf⟩ := g_let_e hf
  replace hR : g_R G E (g_setS μ i z2) H := by rw [ez2]; exact hR
  refine lv_aload_n hx hb dX1_sumUp_34 rfl (lv_at hl 0 rfl) ?_
  refine lv_iconst (v := 0) hx hb dX1_sumUp_35 (by decide) ?_
  refine g_p1_7 hx hb hts in_1 hown hK hS hR hi l_32 dX1_sumUp_36 (fun H locs hR hS => ?_)
  obtain ⟨z3, ez3, hf⟩ := g_let_e hf
  replace hR : g_R G E (g_setS μ i z3) H := by rw [ez3]; exact hR
  refine lv_aload_n hx hb dX1_sumUp_39 rfl (lv_at hl 0 rfl) ?_
  refine g_get hx hb hts in_1 hown hK (hR.f hi).2.2.2.2.2.2 rfl 1 (by decide) l_13 rfl rfl dX1_sumUp_40 ?_
  refine lv_iload_n hx hb dX1_sumUp_43 rfl (lv_at hl 2 rfl) ?_
  refine lv_icmp_lt (tgt := 68) hx hb dX1_sumUp_44 (by decide) (fun c4 => ?_) (fun c4 => ?_)
  · replace hf := g_it hf c4
    exact hB68 _ _ _ _ _ _ hf  hR hS (lv_sub hl [0, 1, 2] rfl)
  · replace hf := g_if hf c4
    refine lv_aload_n hx hb dX1_sumUp_47 rfl (lv_at hl 0 rfl) ?_
    refine g_get hx hb hts in_1 hown hK (hR.f hi).2.2.2.2.2.2 rfl 2 (by decide) l_17 rfl rfl dX1_sumUp_48 ?_
    refine lv_iload_n hx hb dX1_sumUp_51 rfl (lv_at hl 2 rfl) ?_
    refine lv_icmp_lt (tgt := 68) hx hb dX1_sumUp_52 (by decide) (fun c10 => ?_) (fun c10 => ?_)
    · replace hf := g_it hf c10
      exact hB68 _ _ _ _ _ _ hf  hR hS (lv_sub hl [0, 1, 2] rfl)
    · replace hf := g_if hf c10
      refine lv_aload_n hx hb dX1_sumUp_55 rfl (lv_at hl 0 rfl) ?_
      refine lv_dup hx hb dX1_sumUp_56 rfl ?_
      refine g_get hx hb hts in_1 hown hK (hR.f hi).2.2.2.2.2.2 rfl 7 (by decide) l_32 rfl rfl dX1_sumUp_57 ?_
      refine lv_aload_n hx hb dX1_sumUp_60 rfl (lv_at hl 0 rfl) ?_
      refine g_get hx hb hts in_1 hown hK (hR.f hi).2.2.2.2.2.2 rfl 3 (by decide) l_20 rfl rfl dX1_sumUp_61 ?_
      refine lv_iadd hx hb dX1_sumUp_64 ?_
      refine g_p1_7 hx hb hts in_1 hown hK hS hR hi l_32 dX1_sumUp_65 (fun H locs hR hS => ?_)
      obtain ⟨z11, ez11, hf⟩ := g_let_e hf
      replace hR : g_R G E (g_setS μ i z11) H := by rw [ez11]; exact hR
      exact hB68 _ _ _ _ _ _ hf  hR hS (lv_sub hl [0, 1, 2] rfl)
set_option maxHeartbeats 4000000 in
set_option maxRecDepth 100000 in
theorem c3_area (l : Launch) (G : gG) (E : gEn) (μ : gMu) (a0 : Nat) (v0 : gOd) (hE_a0 : E a0 = some (.inr v0)) (ro : Int32) (hf : f3_area v0 = some ro) : Met l yX3_area wsX3_area ({ frames := 0, cells := 0, slots := 0, locals := 0 } : Room) (g_Pre G E μ [.ref a0]) (g_Q G E μ (fun E' v => E' = E ∧ v = some (.int ro))) 0 0 (g_A G) := by
  refine Met.ofW (cc := cX3_area) (maxL := 1) (ret := some .int) (by decide) rfl ?_
  intro p e s m args below meth c s₁ B hml hv
  obtain ⟨rfl, hR, hK⟩ := hv
  have hx := B.exec
  have hb := B.bytes
  have hr := B.returns
  have hts := atoms_spec (ws := wsX3_area) B.pre
  have hown : s.vm.findClass RX3 = some m.cls := findClass_of_methodNamed B.named
  have hlocks := B.notSynchronized
  have hS : va_S (g_A G) s.heap s.heap [] := va_S.rf
  have hl := lv_entry ([.ref a0]) (n := 1) (Nat.le_of_ble_eq_true rfl)
  rw [lg_entry_eq]
  generalize (lg_sl ([.ref a0]) ++ List.replicate (1 - (lg_sl ([.ref a0])).length) Slot.unset).toArray = ls at hl ⊢
  have hl : lv_has ls 1 [(0, .ref a0)] := hl
  have in_3 : ∀ w ∈ u_ws RX3 TX3 8, w ∈ wsX3_area := ifX3_area_3
  have l_27 := hts (.fieldLink RX3 27 "GlassRacks$Order" "width" "I") (by decide +kernel)
  have l_30 := hts (.fieldLink RX3 30 "GlassRacks$Order" "height" "I") (by decide +kernel)
  unfold f3_area at hf
  refine lv_aload_n hx hb dX3_area_0 rfl (lv_at hl 0 rfl) ?_
  refine g_get hx hb hts in_3 hown hK ((hR.2.2.2.2.2 _ _ hE_a0).2) rfl 2 (by decide) l_27 rfl rfl dX3_area_1 ?_
  refine lv_aload_n hx hb dX3_area_4 rfl (lv_at hl 0 rfl) ?_
  refine g_get hx hb hts in_3 hown hK ((hR.2.2.2.2.2 _ _ hE_a0).2) rfl 3 (by decide) l_30 rfl rfl dX3_area_5 ?_
  refine lv_imul hx hb dX3_area_8 ?_
  obtain rfl := g_s1 hf
  exact g_iret hx hb hlocks hr hS hR g_le.rf ⟨rfl, rfl⟩ (by omega) (by omega) dX3_area_9
set_option maxHeartbeats 4000000 in
set_option maxRecDepth 100000 in
theorem c7_area (l : Launch) (G : gG) (E : gEn) (μ : gMu) (a0 : Nat) (v0 : gSh) (hE_a0 : E a0 = some (.inl v0)) (ro : Int32) (hf : f7_area v0 = some ro) : Met l yX7_area wsX7_area ({ frames := 0, cells := 0, slots := 0, locals := 0 } : Room) (g_Pre G E μ [.ref a0]) (g_Q G E μ (fun E' v => E' = E ∧ v = some (.int ro))) 0 0 (g_A G) := by
  refine Met.ofW (cc := cX7_area) (maxL := 1) (ret := some .int) (by decide) rfl ?_
  intro p e s m args below meth c s₁ B hml hv
  obtain ⟨rfl, hR, hK⟩ := hv
  have hx := B.exec
  have hb := B.bytes
  have hr := B.returns
  have hts := atoms_spec (ws := wsX7_area) B.pre
  have hown : s.vm.findClass RX7 = some m.cls := findClass_of_methodNamed B.named
  have hlocks := B.notSynchronized
  have hS : va_S (g_A G) s.heap s.heap [] := va_S.rf
  have hl := lv_entry ([.ref a0]) (n := 1) (Nat.le_of_ble_eq_true rfl)
  rw [lg_entry_eq]
  generalize (lg_sl ([.ref a0]) ++ List.replicate (1 - (lg_sl ([.ref a0])).length) Slot.unset).toArray = ls at hl ⊢
  have hl : lv_has ls 1 [(0, .ref a0)] := hl
  have in_7 : ∀ w ∈ u_ws RX7 TX7 5, w ∈ wsX7_area := ifX7_area_7
  have l_16 := hts (.fieldLink RX7 16 "GlassRacks$Sheet" "width" "I") (by decide +kernel)
  have l_19 := hts (.fieldLink RX7 19 "GlassRacks$Sheet" "height" "I") (by decide +kernel)
  unfold f7_area at hf
  refine lv_aload_n hx hb dX7_area_0 rfl (lv_at hl 0 rfl) ?_
  refine g_get hx hb hts in_7 hown hK ((hR.2.2.2.2.2 _ _ hE_a0).2) rfl 2 (by decide) l_16 rfl rfl dX7_area_1 ?_
  refine lv_aload_n hx hb dX7_area_4 rfl (lv_at hl 0 rfl) ?_
  refine g_get hx hb hts in_7 hown hK ((hR.2.2.2.2.2 _ _ hE_a0).2) rfl 3 (by decide) l_19 rfl rfl dX7_area_5 ?_
  refine lv_imul hx hb dX7_area_8 ?_
  obtain rfl := g_s1 hf
  exact g_iret hx hb hlocks hr hS hR g_le.rf ⟨rfl, rfl⟩ (by omega) (by omega) dX7_area_9
set_option maxHeartbeats 4000000 in
set_option maxRecDepth 100000 in
theorem c1_layOut (l : Launch) (G : gG) (E : gEn) (μ : gMu) (i : Nat) (hi : i < 7) (z0 : gSt) (a1 : Nat) (v1 : gOd) (hE_a1 : E a1 = some (.inr v1)) (a2 : Nat) (v2 : gSh) (hE_a2 : E a2 = some (.inl v2)) (ro : Int32) (zo : gSt) (hf : f1_layOut z0 v1 v2 = some (ro, zo)) : Met l yX1_layOut wsX1_layOut ({ frames := 2, cells := 0, slots := 0, locals := 43 } : Room) (g_Pre G E (g_setS μ i z0) [.ref (g_stA G i + 6), .ref a1, .ref a2, .ref (g_stA G i + 1)]) (g_Q G E (g_setS μ i zo) (fun E' v => E' = E ∧ v = some (.int ro))) 0 0 (g_A G) := by
  refine Met.ofW (cc := cX1_layOut) (maxL := 5) (ret := some .boolean) (by decide) rfl ?_
  intro p e s m args below meth c s₁ B hml hv
  obtain ⟨rfl, hR, hK⟩ := hv
  have hx := B.exec
  have hb := B.bytes
  have hr := B.returns
  have hts := atoms_spec (ws := wsX1_layOut) B.pre
  have hown : s.vm.findClass RX1 = some m.cls := findClass_of_methodNamed B.named
  have hlocks := B.notSynchronized
  have hS : va_S (g_A G) s.heap s.heap [] := va_S.rf
  have hl := lv_entry ([.ref (g_stA G i + 6), .ref a1, .ref a2, .ref (g_stA G i + 1)]) (n := 5) (Nat.le_of_ble_eq_true rfl)
  rw [lg_entry_eq]
  generalize (lg_sl ([.ref (g_stA G i + 6), .ref a1, .ref a2, .ref (g_stA G i + 1)]) ++ List.replicate (5 - (lg_sl ([.ref (g_stA G i + 6), .ref a1, .ref a2, .ref (g_stA G i + 1)])).length) Slot.unset).toArray = ls at hl ⊢
  have hl : lv_has ls 5 [(0, .ref (g_stA G i + 6)), (1, .ref a1), (2, .ref a2), (3, .ref (g_stA G i + 1))] := hl
  have in_1 : ∀ w ∈ u_ws RX1 TX1 10, w ∈ wsX1_layOut := ifX1_layOut_1
  have in_3 : ∀ w ∈ u_ws RX3 TX3 8, w ∈ wsX1_layOut := ifX1_layOut_3
  have in_6 : ∀ w ∈ u_ws RX6 TX6 5, w ∈ wsX1_layOut := ifX1_layOut_6
  have in_7 : ∀ w ∈ u_ws RX7 TX7 5, w ∈ wsX1_layOut := ifX1_layOut_7
  have l_41 := hts (.fieldLink RX1 41 "GlassRacks$Order" "sort" "I") (by decide +kernel)
  have l_46 := hts (.fieldLink RX1 46 "GlassRacks$Sheet" "sort" "I") (by decide +kernel)
  have l_49 := hts (.fieldLink RX1 49 "GlassRacks$Order" "width" "I") (by decide +kernel)
  have l_52 := hts (.fieldLink RX1 52 "GlassRacks$Sheet" "width" "I") (by decide +kernel)
  have l_53 := hts (.fieldLink RX1 53 "GlassRacks$Order" "height" "I") (by decide +kernel)
  have l_56 := hts (.fieldLink RX1 56 "GlassRacks$Sheet" "height" "I") (by decide +kernel)
  have l_57 := hts (.fieldLink RX1 57 "GlassRacks$Settings" "turning" "I") (by decide +kernel)
  have l_7 := hts (.fieldLink RX1 7 "GlassRacks$Cutting" "turned" "Z") (by decide +kernel)
  have l_71 := hts (.fieldLink RX1 71 "GlassRacks$Settings" "leastSide" "I") (by decide +kernel)
  have hB125 : ∀ (z0 : gSt) (ax1 : Nat) (vx1 : gOd) (ax2 : Nat) (vx2 : gSh) (y1 : Int32) (y2 : Int32) (H : Heap) (locs : List Loc) (ls : Array Slot), f1_layOut_125 z0 vx1 vx2 y1 y2 = some (ro, zo) → E ax1 = some (.inr vx1) → E ax2 = some (.inl vx2) → g_R G E (g_setS μ i z0) H → va_S (g_A G) s.heap H locs → lv_has ls 5 [(0, .ref (g_stA G i + 6)), (1, .ref ax1), (2, .ref ax2), (3, .ref (g_stA G i + 1))] → W p l e (headSpec wsX1_layOut ({ frames := 2, cells := 0, slots := 0, locals := 43 } : Room)).room s m ([.ref (g_stA G i + 6), .ref a1, .ref a2, .ref (g_stA G i + 1)] : List Value).toArray below meth c H locs 0 0 (MQ below (g_Q G E (g_setS μ i zo) (fun E' v => E' = E ∧ v = some (.int ro))) ([.ref (g_stA G i + 6), .ref a1, .ref a2, .ref (g_stA G i + 1)] : List Value).toArray s 0 0 (g_A G)) (F0 m 125 ls [.int y2, .int y1, .ref (g_stA G i + 6)]) := by
    intro z0 ax1 vx1 ax2 vx2 y1 y2 H locs ls hf hE_ax1 hE_ax2 hR hS hl
    unfold f1_layOut_125 at hf
    refine lv_aload_n hx hb dX1_layOut_125 rfl (lv_at hl 2 rfl) ?_
    refine lv_aload_n hx hb dX1_layOut_126 rfl (lv_at hl 3 rfl) ?_
    obtain ⟨z9, hc10, hf⟩ := g_b1_e hf
    refine g_call (va_runV (As := [.int y1, .int y2, .ref ax2, .ref (g_stA G i + 1)]) (rest := []) ⟨hx, hb, hml, hown, hts⟩ (c1_splitSheet l G E μ i hi _ _ _ _ _ hE_ax2 _ hc10) (cwV 4 hts gX1_layOut_X1_splitSheet rfl rfl rfl (by decide +kernel) ⟨Nat.le_of_ble_eq_true rfl, Nat.le_of_ble_eq_true rfl⟩) (g_preV (ci := 1) hR hK ((hR.f hi).2.2.2.2.2.2) rfl) rfl rfl hl.1 rfl (lv_room (Nat.le_of_ble_eq_true rfl)) dX1_layOut_127 ⟨by show _ ≤ 0; omega, by show _ ≤ 0; omega⟩) hS (fun w11 H locs hp hR hS => ?_)
    subst hp
    refine lv_aload_n hx hb dX1_layOut_130 rfl (lv_at hl 0 rfl) ?_
    refine lv_aload_n hx hb dX1_layOut_131 rfl (lv_at hl 2 rfl) ?_
    obtain ⟨r12, hc13, hf⟩ := g_b1_e hf
    refine g_call (va_runV (As := []) (rest := [.ref (g_stA G i + 6)]) ⟨hx, hb, hml, hown, hts⟩ (c7_area l G E (g_setS μ i z9) _ _ hE_ax2 _ hc13) (cwV 0 hts gX1_layOut_X7_area rfl rfl rfl (by decide +kernel) ⟨Nat.le_of_ble_eq_true rfl, Nat.le_of_ble_eq_true rfl⟩) (g_preV (ci := 7) hR hK ((hR.2.2.2.2.2 _ _ hE_ax2).2) rfl) rfl rfl hl.1 rfl (lv_room (Nat.le_of_ble_eq_true rfl)) dX1_layOut_132 ⟨by show _ ≤ 0; omega, by show _ ≤ 0; omega⟩) hS (fun w14 H locs hp hR hS => ?_)
    subst hp
    refine lv_aload_n hx hb dX1_layOut_135 rfl (lv_at hl 1 rfl) ?_
    obtain ⟨r15, hc16, hf⟩ := g_b1_e hf
    refine g_call (va_runV (As := []) (rest := [.int r12, .ref (g_stA G i + 6)]) ⟨hx, hb, hml, hown, hts⟩ (c3_area l G E (g_setS μ i z9) _ _ hE_ax1 _ hc16) (cwV 0 hts gX1_layOut_X3_area rfl rfl rfl (by decide +kernel) ⟨Nat.le_of_ble_eq_true rfl, Nat.le_of_ble_eq_true rfl⟩) (g_preV (ci := 3) hR hK ((hR.2.2.2.2.2 _ _ hE_ax1).2) rfl) rfl rfl hl.1 rfl (lv_room (Nat.le_of_ble_eq_true rfl)) dX1_layOut_136 ⟨by show _ ≤ 0; omega, by show _ ≤ 0; omega⟩) hS (fun w17 H locs hp hR hS => ?_)
    subst hp
    refine lv_isub hx hb dX1_layOut_139 ?_
    refine lv_aload_n hx hb dX1_layOut_140 rfl (lv_at hl 3 rfl) ?_
    refine g_get hx hb hts in_6 hown hK (hR.f hi).2.1 rfl 1 (by decide) l_71 rfl rfl dX1_layOut_141 ?_
    obtain ⟨z18, hc19, hf⟩ := g_b1_e hf
    refine g_call (va_runV (As := [.int (r12 - r15), .int (z9.1 1)]) (rest := []) ⟨hx, hb, hml, hown, hts⟩ (c1_sumUp l G E μ i hi _ _ _ _ hc19) (cwV 2 hts gX1_layOut_X1_sumUp rfl rfl rfl (by decide +kernel) ⟨Nat.le_of_ble_eq_true rfl, Nat.le_of_ble_eq_true rfl⟩) (g_preV (ci := 1) hR hK ((hR.f hi).2.2.2.2.2.2) rfl) rfl rfl hl.1 rfl (lv_room (Nat.le_of_ble_eq_true rfl)) dX1_layOut_144 ⟨by show _ ≤ 0; omega, by show _ ≤ 0; omega⟩) hS (fun w20 H locs hp hR hS => ?_)
    subst hp
    refine lv_iconst (v := 1) hx hb dX1_layOut_147 (by decide) ?_
    obtain ⟨rfl, rfl⟩ := g_sp hf
    exact g_zret hx hb hlocks hr hS hR g_le.rf (by decide) ⟨rfl, rfl⟩ (by omega) (by omega) dX1_layOut_148
  have hB109 : ∀ (z0 : gSt) (ax1 : Nat) (vx1 : gOd) (ax2 : Nat) (vx2 : gSh) (x4 : Int32) (y1 : Int32) (H : Heap) (locs : List Loc) (ls : Array Slot), f1_layOut_109 z0 vx1 vx2 x4 y1 = some (ro, zo) → E ax1 = some (.inr vx1) → E ax2 = some (.inl vx2) → g_R G E (g_setS μ i z0) H → va_S (g_A G) s.heap H locs → lv_has ls 5 [(0, .ref (g_stA G i + 6)), (1, .ref ax1), (2, .ref ax2), (3, .ref (g_stA G i + 1)), (4, .int x4)] → W p l e (headSpec wsX1_layOut ({ frames := 2, cells := 0, slots := 0, locals := 43 } : Room)).room s m ([.ref (g_stA G i + 6), .ref a1, .ref a2, .ref (g_stA G i + 1)] : List Value).toArray below meth c H locs 0 0 (MQ below (g_Q G E (g_setS μ i zo) (fun E' v => E' = E ∧ v = some (.int ro))) ([.ref (g_stA G i + 6), .ref a1, .ref a2, .ref (g_stA G i + 1)] : List Value).toArray s 0 0 (g_A G)) (F0 m 109 ls [.int y1, .ref (g_stA G i + 6)]) := by
    intro z0 ax1 vx1 ax2 vx2 x4 y1 H locs ls hf hE_ax1 hE_ax2 hR hS hl
    unfold f1_layOut_109 at hf
    refine lv_iload hx hb dX1_layOut_109 (lv_at hl 4 rfl) ?_
    refine lv_if_eq (tgt := 121) hx hb dX1_layOut_111 (by decide) (fun c8 => ?_) (fun c8 => ?_)
    · replace hf := g_it hf c8
      refine lv_aload_n hx hb dX1_layOut_121 rfl (lv_at hl 1 rfl) ?_
      refine g_get hx hb hts in_3 hown hK ((hR.2.2.2.2.2 _ _ hE_ax1).2) rfl 2 (by decide) l_49 rfl rfl dX1_layOut_122 ?_
      exact hB125 _ _ _ _ _ _ _ _ _ _ hf hE_ax1 hE_ax2 hR hS (lv_sub hl [0, 1, 2, 3] rfl)
    · replace hf := g_if hf c8
      refine lv_aload_n hx hb dX1_layOut_114 rfl (lv_at hl 1 rfl) ?_
      refine g_get hx hb hts in_3 hown hK ((hR.2.2.2.2.2 _ _ hE_ax1).2) rfl 3 (by decide) l_53 rfl rfl dX1_layOut_115 ?_
      refine lv_goto (tgt := 125) hx hb dX1_layOut_118 (by decide) ?_
      exact hB125 _ _ _ _ _ _ _ _ _ _ hf hE_ax1 hE_ax2 hR hS (lv_sub hl [0, 1, 2, 3] rfl)
  have hB89 : ∀ (z0 : gSt) (ax1 : Nat) (vx1 : gOd) (ax2 : Nat) (vx2 : gSh) (x4 : Int32) (y1 : Int32) (H : Heap) (locs : List Loc) (ls : Array Slot), f1_layOut_89 z0 vx1 vx2 x4 y1 = some (ro, zo) → E ax1 = some (.inr vx1) → E ax2 = some (.inl vx2) → g_R G E (g_setS μ i z0) H → va_S (g_A G) s.heap H locs → lv_has ls 5 [(0, .ref (g_stA G i + 6)), (1, .ref ax1), (2, .ref ax2), (3, .ref (g_stA G i + 1)), (4, .int x4)] → W p l e (headSpec wsX1_layOut ({ frames := 2, cells := 0, slots := 0, locals := 43 } : Room)).room s m ([.ref (g_stA G i + 6), .ref a1, .ref a2, .ref (g_stA G i + 1)] : List Value).toArray below meth c H locs 0 0 (MQ below (g_Q G E (g_setS μ i zo) (fun E' v => E' = E ∧ v = some (.int ro))) ([.ref (g_stA G i + 6), .ref a1, .ref a2, .ref (g_stA G i + 1)] : List Value).toArray s 0 0 (g_A G)) (F0 m 89 ls [.int y1, .ref (g_stA G i + 6)]) := by
    intro z0 ax1 vx1 ax2 vx2 x4 y1 H locs ls hf hE_ax1 hE_ax2 hR hS hl
    unfold f1_layOut_89 at hf
    obtain ⟨hz5, hf⟩ := g_gd hf
    refine g_p1_0 hx hb hts in_1 hown hK hS hR hi hz5 l_7 dX1_layOut_89 (fun H locs hR hS => ?_)
    obtain ⟨z6, ez6, hf⟩ := g_let_e hf
    replace hR : g_R G E (g_setS μ i z6) H := by rw [ez6]; exact hR
    refine lv_aload_n hx hb dX1_layOut_92 rfl (lv_at hl 0 rfl) ?_
    refine lv_iload hx hb dX1_layOut_93 (lv_at hl 4 rfl) ?_
    refine lv_if_eq (tgt := 105) hx hb dX1_layOut_95 (by decide) (fun c7 => ?_) (fun c7 => ?_)
    · replace hf := g_it hf c7
      refine lv_aload_n hx hb dX1_layOut_105 rfl (lv_at hl 1 rfl) ?_
      refine g_get hx hb hts in_3 hown hK ((hR.2.2.2.2.2 _ _ hE_ax1).2) rfl 3 (by decide) l_53 rfl rfl dX1_layOut_106 ?_
      exact hB109 _ _ _ _ _ _ _ _ _ _ hf hE_ax1 hE_ax2 hR hS (lv_sub hl [0, 1, 2, 3, 4] rfl)
    · replace hf := g_if hf c7
      refine lv_aload_n hx hb dX1_layOut_98 rfl (lv_at hl 1 rfl) ?_
      refine g_get hx hb hts in_3 hown hK ((hR.2.2.2.2.2 _ _ hE_ax1).2) rfl 2 (by decide) l_49 rfl rfl dX1_layOut_99 ?_
      refine lv_goto (tgt := 109) hx hb dX1_layOut_102 (by decide) ?_
      exact hB109 _ _ _ _ _ _ _ _ _ _ hf hE_ax1 hE_ax2 hR hS (lv_sub hl [0, 1, 2, 3, 4] rfl)
  have hB78 : ∀ (z0 : gSt) (ax1 : Nat) (vx1 : gOd) (ax2 : Nat) (vx2 : gSh) (x4 : Int32) (H : Heap) (locs : List Loc) (ls : Array Slot), f1_layOut_78 z0 vx1 vx2 x4 = some (ro, zo) → E ax1 = some (.inr vx1) → E ax2 = some (.inl vx2) → g_R G E (g_setS μ i z0) H → va_S (g_A G) s.heap H locs → lv_has ls 5 [(0, .ref (g_stA G i + 6)), (1, .ref ax1), (2, .ref ax2), (3, .ref (g_stA G i + 1)), (4, .int x4)] → W p l e (headSpec wsX1_layOut ({ frames := 2, cells := 0, slots := 0, locals := 43 } : Room)).room s m ([.ref (g_stA G i + 6), .ref a1, .ref a2, .ref (g_stA G i + 1)] : List Value).toArray below meth c H locs 0 0 (MQ below (g_Q G E (g_setS μ i zo) (fun E' v => E' = E ∧ v = some (.int ro))) ([.ref (g_stA G i + 6), .ref a1, .ref a2, .ref (g_stA G i + 1)] : List Value).toArray s 0 0 (g_A G)) (F0 m 78 ls []) := by
    intro z0 ax1 vx1 ax2 vx2 x4 H locs ls hf hE_ax1 hE_ax2 hR hS hl
    unfold f1_layOut_78 at hf
    refine lv_aload_n hx hb dX1_layOut_78 rfl (lv_at hl 0 rfl) ?_
    refine lv_iload hx hb dX1_layOut_79 (lv_at hl 4 rfl) ?_
    refine lv_if_ne (tgt := 88) hx hb dX1_layOut_81 (by decide) (fun c4 => ?_) (fun c4 => ?_)
    · replace hf := g_it hf c4
      refine lv_iconst (v := 0) hx hb dX1_layOut_88 (by decide) ?_
      exact hB89 _ _ _ _ _ _ _ _ _ _ hf hE_ax1 hE_ax2 hR hS (lv_sub hl [0, 1, 2, 3, 4] rfl)
    · replace hf := g_if hf (fun q => q c4)
      refine lv_iconst (v := 1) hx hb dX1_layOut_84 (by decide) ?_
      refine lv_goto (tgt := 89) hx hb dX1_layOut_85 (by decide) ?_
      exact hB89 _ _ _ _ _ _ _ _ _ _ hf hE_ax1 hE_ax2 hR hS (lv_sub hl [0, 1, 2, 3, 4] rfl)
  have hB40 : ∀ (z0 : gSt) (ax1 : Nat) (vx1 : gOd) (ax2 : Nat) (vx2 : gSh) (y0 : Int32) (H : Heap) (locs : List Loc) (ls : Array Slot), f1_layOut_40 z0 vx1 vx2 y0 = some (ro, zo) → E ax1 = some (.inr vx1) → E ax2 = some (.inl vx2) → g_R G E (g_setS μ i z0) H → va_S (g_A G) s.heap H locs → lv_has ls 5 [(0, .ref (g_stA G i + 6)), (1, .ref ax1), (2, .ref ax2), (3, .ref (g_stA G i + 1))] → W p l e (headSpec wsX1_layOut ({ frames := 2, cells := 0, slots := 0, locals := 43 } : Room)).room s m ([.ref (g_stA G i + 6), .ref a1, .ref a2, .ref (g_stA G i + 1)] : List Value).toArray below meth c H locs 0 0 (MQ below (g_Q G E (g_setS μ i zo) (fun E' v => E' = E ∧ v = some (.int ro))) ([.ref (g_stA G i + 6), .ref a1, .ref a2, .ref (g_stA G i + 1)] : List Value).toArray s 0 0 (g_A G)) (F0 m 40 ls [.int y0]) := by
    intro z0 ax1 vx1 ax2 vx2 y0 H locs ls hf hE_ax1 hE_ax2 hR hS hl
    unfold f1_layOut_40 at hf
    refine lv_istore (lv' := [(4, .int y0), (0, .ref (g_stA G i + 6)), (1, .ref ax1), (2, .ref ax2), (3, .ref (g_stA G i + 1))]) hx hb dX1_layOut_40 hl (by decide) rfl (fun ls hl => ?_)
    refine lv_iload hx hb dX1_layOut_42 (lv_at hl 0 rfl) ?_
    refine lv_if_ne (tgt := 78) hx hb dX1_layOut_44 (by decide) (fun c3 => ?_) (fun c3 => ?_)
    · replace hf := g_it hf c3
      exact hB78 _ _ _ _ _ _ _ _ _ hf hE_ax1 hE_ax2 hR hS (lv_sub hl [1, 2, 3, 4, 0] rfl)
    · replace hf := g_if hf (fun q => q c3)
      refine lv_aload_n hx hb dX1_layOut_47 rfl (lv_at hl 4 rfl) ?_
      refine g_get hx hb hts in_6 hown hK (hR.f hi).2.1 rfl 4 (by decide) l_57 rfl rfl dX1_layOut_48 ?_
      refine lv_if_eq (tgt := 76) hx hb dX1_layOut_51 (by decide) (fun c21 => ?_) (fun c21 => ?_)
      · replace hf := g_it hf c21
        refine lv_iconst (v := 0) hx hb dX1_layOut_76 (by decide) ?_
        obtain ⟨rfl, rfl⟩ := g_sp hf
        exact g_zret hx hb hlocks hr hS hR g_le.rf (by decide) ⟨rfl, rfl⟩ (by omega) (by omega) dX1_layOut_77
      · replace hf := g_if hf c21
        refine lv_aload_n hx hb dX1_layOut_54 rfl (lv_at hl 2 rfl) ?_
        refine g_get hx hb hts in_3 hown hK ((hR.2.2.2.2.2 _ _ hE_ax1).2) rfl 3 (by decide) l_53 rfl rfl dX1_layOut_55 ?_
        refine lv_aload_n hx hb dX1_layOut_58 rfl (lv_at hl 3 rfl) ?_
        refine g_get hx hb hts in_7 hown hK ((hR.2.2.2.2.2 _ _ hE_ax2).2) rfl 2 (by decide) l_52 rfl rfl dX1_layOut_59 ?_
        refine lv_icmp_gt (tgt := 76) hx hb dX1_layOut_62 (by decide) (fun c22 => ?_) (fun c22 => ?_)
        · replace hf := g_it hf c22
          refine lv_iconst (v := 0) hx hb dX1_layOut_76 (by decide) ?_
          obtain ⟨rfl, rfl⟩ := g_sp hf
          exact g_zret hx hb hlocks hr hS hR g_le.rf (by decide) ⟨rfl, rfl⟩ (by omega) (by omega) dX1_layOut_77
        · replace hf := g_if hf c22
          refine lv_aload_n hx hb dX1_layOut_65 rfl (lv_at hl 2 rfl) ?_
          refine g_get hx hb hts in_3 hown hK ((hR.2.2.2.2.2 _ _ hE_ax1).2) rfl 2 (by decide) l_49 rfl rfl dX1_layOut_66 ?_
          refine lv_aload_n hx hb dX1_layOut_69 rfl (lv_at hl 3 rfl) ?_
          refine g_get hx hb hts in_7 hown hK ((hR.2.2.2.2.2 _ _ hE_ax2).2) rfl 3 (by decide) l_56 rfl rfl dX1_layOut_70 ?_
          refine lv_icmp_le (tgt := 78) hx hb dX1_layOut_73 (by decide) (fun c23 => ?_) (fun c23 => ?_)
          · replace hf := g_it hf c23
            exact hB78 _ _ _ _ _ _ _ _ _ hf hE_ax1 hE_ax2 hR hS (lv_sub hl [1, 2, 3, 4, 0] rfl)
          · replace hf := g_if hf c23
            refine lv_iconst (v := 0) hx hb dX1_layOut_76 (by decide) ?_
            obtain ⟨rfl, rfl⟩ := g_sp hf
            exact g_zret hx hb hlocks hr hS hR g_le.rf (by decide) ⟨rfl, rfl⟩ (by omega) (by omega) dX1_layOut_77
  have hB39 : ∀ (z0 : gSt) (ax1 : Nat) (vx1 : gOd) (ax2 : Nat) (vx2 : gSh) (H : Heap) (locs : List Loc) (ls : Array Slot), f1_layOut_39 z0 vx1 vx2 = some (ro, zo) → E ax1 = some (.inr vx1) → E ax2 = some (.inl vx2) → g_R G E (g_setS μ i z0) H → va_S (g_A G) s.heap H locs → lv_has ls 5 [(0, .ref (g_stA G i + 6)), (1, .ref ax1), (2, .ref ax2), (3, .ref (g_stA G i + 1))] → W p l e (headSpec wsX1_layOut ({ frames := 2, cells := 0, slots := 0, locals := 43 } : Room)).room s m ([.ref (g_stA G i + 6), .ref a1, .ref a2, .ref (g_stA G i + 1)] : List Value).toArray below meth c H locs 0 0 (MQ below (g_Q G E (g_setS μ i zo) (fun E' v => E' = E ∧ v = some (.int ro))) ([.ref (g_stA G i + 6), .ref a1, .ref a2, .ref (g_stA G i + 1)] : List Value).toArray s 0 0 (g_A G)) (F0 m 39 ls []) := by
    intro z0 ax1 vx1 ax2 vx2 H locs ls hf hE_ax1 hE_ax2 hR hS hl
    unfold f1_layOut_39 at hf
    refine lv_iconst (v := 0) hx hb dX1_layOut_39 (by decide) ?_
    exact hB40 _ _ _ _ _ _ _ _ _ hf hE_ax1 hE_ax2 hR hS (lv_sub hl [0, 1, 2, 3] rfl)
  unfold f1_layOut at hf
  refine lv_aload_n hx hb dX1_layOut_0 rfl (lv_at hl 1 rfl) ?_
  refine g_get hx hb hts in_3 hown hK ((hR.2.2.2.2.2 _ _ hE_a1).2) rfl 1 (by decide) l_41 rfl rfl dX1_layOut_1 ?_
  refine lv_aload_n hx hb dX1_layOut_4 rfl (lv_at hl 2 rfl) ?_
  refine g_get hx hb hts in_7 hown hK ((hR.2.2.2.2.2 _ _ hE_a2).2) rfl 1 (by decide) l_46 rfl rfl dX1_layOut_5 ?_
  refine lv_icmp_eq (tgt := 13) hx hb dX1_layOut_8 (by decide) (fun c1 => ?_) (fun c1 => ?_)
  · replace hf := g_it hf c1
    refine lv_aload_n hx hb dX1_layOut_13 rfl (lv_at hl 1 rfl) ?_
    refine g_get hx hb hts in_3 hown hK ((hR.2.2.2.2.2 _ _ hE_a1).2) rfl 2 (by decide) l_49 rfl rfl dX1_layOut_14 ?_
    refine lv_aload_n hx hb dX1_layOut_17 rfl (lv_at hl 2 rfl) ?_
    refine g_get hx hb hts in_7 hown hK ((hR.2.2.2.2.2 _ _ hE_a2).2) rfl 2 (by decide) l_52 rfl rfl dX1_layOut_18 ?_
    refine lv_icmp_gt (tgt := 39) hx hb dX1_layOut_21 (by decide) (fun c2 => ?_) (fun c2 => ?_)
    · replace hf := g_it hf c2
      exact hB39 _ _ _ _ _ _ _ _ hf hE_a1 hE_a2 hR hS (lv_sub hl [0, 1, 2, 3] rfl)
    · replace hf := g_if hf c2
      refine lv_aload_n hx hb dX1_layOut_24 rfl (lv_at hl 1 rfl) ?_
      refine g_get hx hb hts in_3 hown hK ((hR.2.2.2.2.2 _ _ hE_a1).2) rfl 3 (by decide) l_53 rfl rfl dX1_layOut_25 ?_
      refine lv_aload_n hx hb dX1_layOut_28 rfl (lv_at hl 2 rfl) ?_
      refine g_get hx hb hts in_7 hown hK ((hR.2.2.2.2.2 _ _ hE_a2).2) rfl 3 (by decide) l_56 rfl rfl dX1_layOut_29 ?_
      refine lv_icmp_gt (tgt := 39) hx hb dX1_layOut_32 (by decide) (fun c24 => ?_) (fun c24 => ?_)
      · replace hf := g_it hf c24
        exact hB39 _ _ _ _ _ _ _ _ hf hE_a1 hE_a2 hR hS (lv_sub hl [0, 1, 2, 3] rfl)
      · replace hf := g_if hf c24
        refine lv_iconst (v := 1) hx hb dX1_layOut_35 (by decide) ?_
        refine lv_goto (tgt := 40) hx hb dX1_layOut_36 (by decide) ?_
        exact hB40 _ _ _ _ _ _ _ _ _ hf hE_a1 hE_a2 hR hS (lv_sub hl [0, 1, 2, 3] rfl)
  · replace hf := g_if hf c1
    refine lv_iconst (v := 0) hx hb dX1_layOut_11 (by decide) ?_
    obtain ⟨rfl, rfl⟩ := g_sp hf
    exact g_zret hx hb hlocks hr hS hR g_le.rf (by decide) ⟨rfl, rfl⟩ (by omega) (by omega) dX1_layOut_12
set_option maxHeartbeats 4000000 in
set_option maxRecDepth 100000 in
theorem c4_numbered (l : Launch) (G : gG) (E : gEn) (μ : gMu) (i : Nat) (hi : i < 7) (z0 : gSt) (p1 : Int32) (ro : Option gOd) (hf : f4_numbered z0 p1 = some ro) : Met l yX4_numbered wsX4_numbered ({ frames := 0, cells := 0, slots := 0, locals := 0 } : Room) (g_Pre G E (g_setS μ i z0) [.ref (g_stA G i + 4), .int p1]) (g_Q G E (g_setS μ i z0) (fun E' v => E' = E ∧ ∃ w : Value, v = some w ∧ g_rv E .inr w ro)) 0 0 (g_A G) := by
  refine Met.ofW (cc := cX4_numbered) (maxL := 2) (ret := some (.object "GlassRacks$Order")) (by decide) rfl ?_
  intro p e s m args below meth c s₁ B hml hv
  obtain ⟨rfl, hR, hK⟩ := hv
  have hx := B.exec
  have hb := B.bytes
  have hr := B.returns
  have hts := atoms_spec (ws := wsX4_numbered) B.pre
  have hown : s.vm.findClass RX4 = some m.cls := findClass_of_methodNamed B.named
  have hlocks := B.notSynchronized
  have hS : va_S (g_A G) s.heap s.heap [] := va_S.rf
  have hl := lv_entry ([.ref (g_stA G i + 4), .int p1]) (n := 2) (Nat.le_of_ble_eq_true rfl)
  rw [lg_entry_eq]
  generalize (lg_sl ([.ref (g_stA G i + 4), .int p1]) ++ List.replicate (2 - (lg_sl ([.ref (g_stA G i + 4), .int p1])).length) Slot.unset).toArray = ls at hl ⊢
  have hl : lv_has ls 2 [(0, .ref (g_stA G i + 4)), (1, .int p1)] := hl
  have in_4 : ∀ w ∈ u_ws RX4 TX4 2, w ∈ wsX4_numbered := ifX4_numbered_4
  have l_11 := hts (.fieldLink RX4 11 "GlassRacks$Orders" "list" "[LGlassRacks$Order;") (by decide +kernel)
  unfold f4_numbered at hf
  refine lv_iload_n hx hb dX4_numbered_0 rfl (lv_at hl 1 rfl) ?_
  refine lv_if_lt (tgt := 22) hx hb dX4_numbered_1 (by decide) (fun c1 => ?_) (fun c1 => ?_)
  · replace hf := g_it hf c1
    refine lv_null hx hb dX4_numbered_22 ?_
    obtain rfl := g_s1 hf
    exact g_aret hx hb hlocks hr hS hR g_le.rf (Or.inl rfl) ⟨rfl, _, rfl, rfl⟩ (by omega) (by omega) dX4_numbered_23
  · replace hf := g_if hf c1
    refine lv_iload_n hx hb dX4_numbered_4 rfl (lv_at hl 1 rfl) ?_
    refine lv_aload_n hx hb dX4_numbered_5 rfl (lv_at hl 0 rfl) ?_
    refine g_get hx hb hts in_4 hown hK (hR.f hi).2.2.2.2.1 rfl 0 (by decide) l_11 rfl rfl dX4_numbered_6 ?_
    refine g_aolen hx hb hK (hR.f hi) dX4_numbered_9 ?_
    refine lv_icmp_ge (tgt := 22) hx hb dX4_numbered_10 (by decide) (fun c2 => ?_) (fun c2 => ?_)
    · replace hf := g_it hf c2
      refine lv_null hx hb dX4_numbered_22 ?_
      obtain rfl := g_s1 hf
      exact g_aret hx hb hlocks hr hS hR g_le.rf (Or.inl rfl) ⟨rfl, _, rfl, rfl⟩ (by omega) (by omega) dX4_numbered_23
    · replace hf := g_if hf c2
      refine lv_aload_n hx hb dX4_numbered_13 rfl (lv_at hl 0 rfl) ?_
      refine g_get hx hb hts in_4 hown hK (hR.f hi).2.2.2.2.1 rfl 0 (by decide) l_11 rfl rfl dX4_numbered_14 ?_
      refine lv_iload_n hx hb dX4_numbered_17 rfl (lv_at hl 1 rfl) ?_
      obtain ⟨hg3, hf⟩ := g_gd hf
      refine g_aold hx hb hK (hR.f hi) hg3 dX4_numbered_18 (fun hnn => ?_) (fun v4 a5 hnn hE_a5 => ?_)
      · replace hf := g_ocn hf hnn
        refine lv_goto (tgt := 23) hx hb dX4_numbered_19 (by decide) ?_
        obtain rfl := g_s1 hf
        exact g_aret hx hb hlocks hr hS hR g_le.rf (Or.inl rfl) ⟨rfl, _, rfl, rfl⟩ (by omega) (by omega) dX4_numbered_23
      · replace hf := g_ocs hf hnn
        refine lv_goto (tgt := 23) hx hb dX4_numbered_19 (by decide) ?_
        obtain rfl := g_s1 hf
        exact g_aret hx hb hlocks hr hS hR g_le.rf (Or.inr ⟨_, rfl⟩) ⟨rfl, _, rfl, _, rfl, hE_a5⟩ (by omega) (by omega) dX4_numbered_23
set_option maxHeartbeats 4000000 in
set_option maxRecDepth 100000 in
theorem c4_copyFrom (l : Launch) (G : gG) (E : gEn) (μ : gMu) (i : Nat) (hi : i < 7) (z0 : gSt) (j : Nat) (hj : j < 7) (hne : j ≠ i) (zo : gSt) (hf : f4_copyFrom z0 (μ.1 j) = some zo) : Met l yX4_copyFrom wsX4_copyFrom ({ frames := 1, cells := 0, slots := 0, locals := 21 } : Room) (g_Pre G E (g_setS μ i z0) [.ref (g_stA G i + 4), .ref (g_stA G j + 4)]) (g_Q G E (g_setS μ i zo) (fun E' v => E' = E ∧ v = none)) 0 0 (g_A G) := by
  refine Met.ofW (cc := cX4_copyFrom) (maxL := 3) (ret := none) (by decide) rfl ?_
  intro p e s m args below meth c s₁ B hml hv
  obtain ⟨rfl, hR, hK⟩ := hv
  have hx := B.exec
  have hb := B.bytes
  have hr := B.returns
  have hts := atoms_spec (ws := wsX4_copyFrom) B.pre
  have hown : s.vm.findClass RX4 = some m.cls := findClass_of_methodNamed B.named
  have hlocks := B.notSynchronized
  have hS : va_S (g_A G) s.heap s.heap [] := va_S.rf
  have hl := lv_entry ([.ref (g_stA G i + 4), .ref (g_stA G j + 4)]) (n := 3) (Nat.le_of_ble_eq_true rfl)
  rw [lg_entry_eq]
  generalize (lg_sl ([.ref (g_stA G i + 4), .ref (g_stA G j + 4)]) ++ List.replicate (3 - (lg_sl ([.ref (g_stA G i + 4), .ref (g_stA G j + 4)])).length) Slot.unset).toArray = ls at hl ⊢
  have hl : lv_has ls 3 [(0, .ref (g_stA G i + 4)), (1, .ref (g_stA G j + 4))] := hl
  have in_4 : ∀ w ∈ u_ws RX4 TX4 2, w ∈ wsX4_copyFrom := ifX4_copyFrom_4
  have l_11 := hts (.fieldLink RX4 11 "GlassRacks$Orders" "list" "[LGlassRacks$Order;") (by decide +kernel)
  have l_17 := hts (.fieldLink RX4 17 "GlassRacks$Orders" "taken" "I") (by decide +kernel)
  have hB10 : ∀ (n : Nat) (z0 : gSt) (x2 : Int32) (H : Heap) (locs : List Loc) (ls : Array Slot), f4_copyFrom_10 (μ.1 j) n z0 x2 = some zo → g_R G E (g_setS μ i z0) H → va_S (g_A G) s.heap H locs → lv_has ls 3 [(0, .ref (g_stA G i + 4)), (1, .ref (g_stA G j + 4)), (2, .int x2)] → W p l e (headSpec wsX4_copyFrom ({ frames := 1, cells := 0, slots := 0, locals := 21 } : Room)).room s m ([.ref (g_stA G i + 4), .ref (g_stA G j + 4)] : List Value).toArray below meth c H locs 0 0 (MQ below (g_Q G E (g_setS μ i zo) (fun E' v => E' = E ∧ v = none)) ([.ref (g_stA G i + 4), .ref (g_stA G j + 4)] : List Value).toArray s 0 0 (g_A G)) (F0 m 10 ls []) := by
    intro n
    induction n with
    | zero =>
      intro z0 x2 H locs ls hf
      rw [f4_copyFrom_10] at hf
      cases hf
    | succ n ih =>
      intro z0 x2 H locs ls hf  hR hS hl
      rw [f4_copyFrom_10] at hf
      refine lv_iload_n hx hb dX4_copyFrom_10 rfl (lv_at hl 2 rfl) ?_
      refine lv_aload_n hx hb dX4_copyFrom_11 rfl (lv_at hl 0 rfl) ?_
      refine g_get hx hb hts in_4 hown hK (hR.f hi).2.2.2.2.1 rfl 0 (by decide) l_11 rfl rfl dX4_copyFrom_12 ?_
      refine g_aolen hx hb hK (hR.f hi) dX4_copyFrom_15 ?_
      refine lv_icmp_ge (tgt := 36) hx hb dX4_copyFrom_16 (by decide) (fun c2 => ?_) (fun c2 => ?_)
      · replace hf := g_it hf c2
        obtain rfl := g_s1 hf
        exact g_vret hx hb hlocks hr hS hR g_le.rf ⟨rfl, rfl⟩ (by omega) (by omega) dX4_copyFrom_36
      · replace hf := g_if hf c2
        refine lv_aload_n hx hb dX4_copyFrom_19 rfl (lv_at hl 0 rfl) ?_
        refine g_get hx hb hts in_4 hown hK (hR.f hi).2.2.2.2.1 rfl 0 (by decide) l_11 rfl rfl dX4_copyFrom_20 ?_
        refine lv_iload_n hx hb dX4_copyFrom_23 rfl (lv_at hl 2 rfl) ?_
        refine lv_aload_n hx hb dX4_copyFrom_24 rfl (lv_at hl 1 rfl) ?_
        refine lv_iload_n hx hb dX4_copyFrom_25 rfl (lv_at hl 2 rfl) ?_
        obtain ⟨r3, hc4, hf⟩ := g_b1_e hf
        refine g_call (va_runV (As := [.int x2]) (rest := [.int x2, .ref (g_stA G i + 5)]) ⟨hx, hb, hml, hown, hts⟩ (c4_numbered l G E (g_setS μ i z0) j hj _ _ _ hc4) (cwV 1 hts gX4_copyFrom_X4_numbered rfl rfl rfl (by decide +kernel) ⟨Nat.le_of_ble_eq_true rfl, Nat.le_of_ble_eq_true rfl⟩) (g_preV (ci := 4) (hR.so hne) hK ((hR.o hj hne).2.2.2.2.1) rfl) rfl rfl hl.1 rfl (lv_room (Nat.le_of_ble_eq_true rfl)) dX4_copyFrom_26 ⟨by show _ ≤ 0; omega, by show _ ≤ 0; omega⟩) hS (fun w5 H locs hp hR hS => ?_)
        rw [g_setS_so _ _ hne] at hR
        obtain ⟨w6, rfl, hp⟩ := hp
        rcases r3 with _ | v8
        · replace hf := g_ocn hf rfl
          obtain rfl : w6 = .null := hp
          obtain ⟨hg9, hf⟩ := g_gd hf
          refine g_aostN hx hb hK hS hR hi hg9 dX4_copyFrom_29 (fun H locs hR hS => ?_)
          obtain ⟨z10, ez10, hf⟩ := g_let_e hf
          replace hR : g_R G E (g_setS μ i z10) H := by rw [ez10]; exact hR
          refine lv_iinc (v := x2 + 1) (lv' := [(2, .int (x2 + 1)), (0, .ref (g_stA G i + 4)), (1, .ref (g_stA G j + 4))]) hx hb dX4_copyFrom_30 hl (k := 2) rfl rfl (by decide) rfl (fun ls hl => ?_)
          refine lv_goto (tgt := 10) hx hb dX4_copyFrom_33 (by decide) ?_
          exact ih _ _ _ _ _ hf  hR hS (lv_sub hl [1, 2, 0] rfl)
        · replace hf := g_ocs hf rfl
          obtain ⟨a7, rfl, hE_a7⟩ := hp
          obtain ⟨hg11, hf⟩ := g_gd hf
          refine g_aost hx hb hK hS hR hi hE_a7 hg11 dX4_copyFrom_29 (fun H locs hR hS => ?_)
          obtain ⟨z12, ez12, hf⟩ := g_let_e hf
          replace hR : g_R G E (g_setS μ i z12) H := by rw [ez12]; exact hR
          refine lv_iinc (v := x2 + 1) (lv' := [(2, .int (x2 + 1)), (0, .ref (g_stA G i + 4)), (1, .ref (g_stA G j + 4))]) hx hb dX4_copyFrom_30 hl (k := 2) rfl rfl (by decide) rfl (fun ls hl => ?_)
          refine lv_goto (tgt := 10) hx hb dX4_copyFrom_33 (by decide) ?_
          exact ih _ _ _ _ _ hf  hR hS (lv_sub hl [1, 2, 0] rfl)
  unfold f4_copyFrom at hf
  refine lv_aload_n hx hb dX4_copyFrom_0 rfl (lv_at hl 0 rfl) ?_
  refine lv_aload_n hx hb dX4_copyFrom_1 rfl (lv_at hl 1 rfl) ?_
  refine g_get hx hb hts in_4 hown hK (hR.o hj hne).2.2.2.2.1 rfl 1 (by decide) l_17 rfl rfl dX4_copyFrom_2 ?_
  refine g_p4_1 hx hb hts in_4 hown hK hS hR hi l_17 dX4_copyFrom_5 (fun H locs hR hS => ?_)
  obtain ⟨z1, ez1, hf⟩ := g_let_e hf
  replace hR : g_R G E (g_setS μ i z1) H := by rw [ez1]; exact hR
  refine lv_iconst (v := 0) hx hb dX4_copyFrom_8 (by decide) ?_
  refine lv_istore_n (lv' := [(2, .int (0 : Int32)), (0, .ref (g_stA G i + 4)), (1, .ref (g_stA G j + 4))]) hx hb dX4_copyFrom_9 rfl hl (by decide) rfl (fun ls hl => ?_)
  exact hB10 70 _ _ _ _ _ hf  hR hS (lv_sub hl [1, 2, 0] rfl)
set_option maxHeartbeats 4000000 in
set_option maxRecDepth 100000 in
theorem c5_inSlot (l : Launch) (G : gG) (E : gEn) (μ : gMu) (i : Nat) (hi : i < 7) (z0 : gSt) (p1 : Int32) (ro : Option gSh) (hf : f5_inSlot z0 p1 = some ro) : Met l yX5_inSlot wsX5_inSlot ({ frames := 0, cells := 0, slots := 0, locals := 0 } : Room) (g_Pre G E (g_setS μ i z0) [.ref (g_stA G i + 2), .int p1]) (g_Q G E (g_setS μ i z0) (fun E' v => E' = E ∧ ∃ w : Value, v = some w ∧ g_rv E .inl w ro)) 0 0 (g_A G) := by
  refine Met.ofW (cc := cX5_inSlot) (maxL := 2) (ret := some (.object "GlassRacks$Sheet")) (by decide) rfl ?_
  intro p e s m args below meth c s₁ B hml hv
  obtain ⟨rfl, hR, hK⟩ := hv
  have hx := B.exec
  have hb := B.bytes
  have hr := B.returns
  have hts := atoms_spec (ws := wsX5_inSlot) B.pre
  have hown : s.vm.findClass RX5 = some m.cls := findClass_of_methodNamed B.named
  have hlocks := B.notSynchronized
  have hS : va_S (g_A G) s.heap s.heap [] := va_S.rf
  have hl := lv_entry ([.ref (g_stA G i + 2), .int p1]) (n := 2) (Nat.le_of_ble_eq_true rfl)
  rw [lg_entry_eq]
  generalize (lg_sl ([.ref (g_stA G i + 2), .int p1]) ++ List.replicate (2 - (lg_sl ([.ref (g_stA G i + 2), .int p1])).length) Slot.unset).toArray = ls at hl ⊢
  have hl : lv_has ls 2 [(0, .ref (g_stA G i + 2)), (1, .int p1)] := hl
  have in_5 : ∀ w ∈ u_ws RX5 TX5 2, w ∈ wsX5_inSlot := ifX5_inSlot_5
  have l_11 := hts (.fieldLink RX5 11 "GlassRacks$Racks" "slots" "[LGlassRacks$Sheet;") (by decide +kernel)
  unfold f5_inSlot at hf
  refine lv_iload_n hx hb dX5_inSlot_0 rfl (lv_at hl 1 rfl) ?_
  refine lv_if_lt (tgt := 22) hx hb dX5_inSlot_1 (by decide) (fun c1 => ?_) (fun c1 => ?_)
  · replace hf := g_it hf c1
    refine lv_null hx hb dX5_inSlot_22 ?_
    obtain rfl := g_s1 hf
    exact g_aret hx hb hlocks hr hS hR g_le.rf (Or.inl rfl) ⟨rfl, _, rfl, rfl⟩ (by omega) (by omega) dX5_inSlot_23
  · replace hf := g_if hf c1
    refine lv_iload_n hx hb dX5_inSlot_4 rfl (lv_at hl 1 rfl) ?_
    refine lv_aload_n hx hb dX5_inSlot_5 rfl (lv_at hl 0 rfl) ?_
    refine g_get hx hb hts in_5 hown hK (hR.f hi).2.2.1 rfl 0 (by decide) l_11 rfl rfl dX5_inSlot_6 ?_
    refine g_aslen hx hb hK (hR.f hi) dX5_inSlot_9 ?_
    refine lv_icmp_ge (tgt := 22) hx hb dX5_inSlot_10 (by decide) (fun c2 => ?_) (fun c2 => ?_)
    · replace hf := g_it hf c2
      refine lv_null hx hb dX5_inSlot_22 ?_
      obtain rfl := g_s1 hf
      exact g_aret hx hb hlocks hr hS hR g_le.rf (Or.inl rfl) ⟨rfl, _, rfl, rfl⟩ (by omega) (by omega) dX5_inSlot_23
    · replace hf := g_if hf c2
      refine lv_aload_n hx hb dX5_inSlot_13 rfl (lv_at hl 0 rfl) ?_
      refine g_get hx hb hts in_5 hown hK (hR.f hi).2.2.1 rfl 0 (by decide) l_11 rfl rfl dX5_inSlot_14 ?_
      refine lv_iload_n hx hb dX5_inSlot_17 rfl (lv_at hl 1 rfl) ?_
      obtain ⟨hg3, hf⟩ := g_gd hf
      refine g_asld hx hb hK (hR.f hi) hg3 dX5_inSlot_18 (fun hnn => ?_) (fun v4 a5 hnn hE_a5 => ?_)
      · replace hf := g_ocn hf hnn
        refine lv_goto (tgt := 23) hx hb dX5_inSlot_19 (by decide) ?_
        obtain rfl := g_s1 hf
        exact g_aret hx hb hlocks hr hS hR g_le.rf (Or.inl rfl) ⟨rfl, _, rfl, rfl⟩ (by omega) (by omega) dX5_inSlot_23
      · replace hf := g_ocs hf hnn
        refine lv_goto (tgt := 23) hx hb dX5_inSlot_19 (by decide) ?_
        obtain rfl := g_s1 hf
        exact g_aret hx hb hlocks hr hS hR g_le.rf (Or.inr ⟨_, rfl⟩) ⟨rfl, _, rfl, _, rfl, hE_a5⟩ (by omega) (by omega) dX5_inSlot_23
set_option maxHeartbeats 4000000 in
set_option maxRecDepth 100000 in
theorem c5_copyFrom (l : Launch) (G : gG) (E : gEn) (μ : gMu) (i : Nat) (hi : i < 7) (z0 : gSt) (j : Nat) (hj : j < 7) (hne : j ≠ i) (zo : gSt) (hf : f5_copyFrom z0 (μ.1 j) = some zo) : Met l yX5_copyFrom wsX5_copyFrom ({ frames := 1, cells := 0, slots := 0, locals := 21 } : Room) (g_Pre G E (g_setS μ i z0) [.ref (g_stA G i + 2), .ref (g_stA G j + 2)]) (g_Q G E (g_setS μ i zo) (fun E' v => E' = E ∧ v = none)) 0 0 (g_A G) := by
  refine Met.ofW (cc := cX5_copyFrom) (maxL := 3) (ret := none) (by decide) rfl ?_
  intro p e s m args below meth c s₁ B hml hv
  obtain ⟨rfl, hR, hK⟩ := hv
  have hx := B.exec
  have hb := B.bytes
  have hr := B.returns
  have hts := atoms_spec (ws := wsX5_copyFrom) B.pre
  have hown : s.vm.findClass RX5 = some m.cls := findClass_of_methodNamed B.named
  have hlocks := B.notSynchronized
  have hS : va_S (g_A G) s.heap s.heap [] := va_S.rf
  have hl := lv_entry ([.ref (g_stA G i + 2), .ref (g_stA G j + 2)]) (n := 3) (Nat.le_of_ble_eq_true rfl)
  rw [lg_entry_eq]
  generalize (lg_sl ([.ref (g_stA G i + 2), .ref (g_stA G j + 2)]) ++ List.replicate (3 - (lg_sl ([.ref (g_stA G i + 2), .ref (g_stA G j + 2)])).length) Slot.unset).toArray = ls at hl ⊢
  have hl : lv_has ls 3 [(0, .ref (g_stA G i + 2)), (1, .ref (g_stA G j + 2))] := hl
  have in_5 : ∀ w ∈ u_ws RX5 TX5 2, w ∈ wsX5_copyFrom := ifX5_copyFrom_5
  have l_11 := hts (.fieldLink RX5 11 "GlassRacks$Racks" "slots" "[LGlassRacks$Sheet;") (by decide +kernel)
  have l_17 := hts (.fieldLink RX5 17 "GlassRacks$Racks" "sheetsMade" "I") (by decide +kernel)
  have hB10 : ∀ (n : Nat) (z0 : gSt) (x2 : Int32) (H : Heap) (locs : List Loc) (ls : Array Slot), f5_copyFrom_10 (μ.1 j) n z0 x2 = some zo → g_R G E (g_setS μ i z0) H → va_S (g_A G) s.heap H locs → lv_has ls 3 [(0, .ref (g_stA G i + 2)), (1, .ref (g_stA G j + 2)), (2, .int x2)] → W p l e (headSpec wsX5_copyFrom ({ frames := 1, cells := 0, slots := 0, locals := 21 } : Room)).room s m ([.ref (g_stA G i + 2), .ref (g_stA G j + 2)] : List Value).toArray below meth c H locs 0 0 (MQ below (g_Q G E (g_setS μ i zo) (fun E' v => E' = E ∧ v = none)) ([.ref (g_stA G i + 2), .ref (g_stA G j + 2)] : List Value).toArray s 0 0 (g_A G)) (F0 m 10 ls []) := by
    intro n
    induction n with
    | zero =>
      intro z0 x2 H locs ls hf
      rw [f5_copyFrom_10] at hf
      cases hf
    | succ n ih =>
      intro z0 x2 H locs ls hf  hR hS hl
      rw [f5_copyFrom_10] at hf
      refine lv_iload_n hx hb dX5_copyFrom_10 rfl (lv_at hl 2 rfl) ?_
      refine lv_aload_n hx hb dX5_copyFrom_11 rfl (lv_at hl 0 rfl) ?_
      refine g_get hx hb hts in_5 hown hK (hR.f hi).2.2.1 rfl 0 (by decide) l_11 rfl rfl dX5_copyFrom_12 ?_
      refine g_aslen hx hb hK (hR.f hi) dX5_copyFrom_15 ?_
      refine lv_icmp_ge (tgt := 36) hx hb dX5_copyFrom_16 (by decide) (fun c2 => ?_) (fun c2 => ?_)
      · replace hf := g_it hf c2
        obtain rfl := g_s1 hf
        exact g_vret hx hb hlocks hr hS hR g_le.rf ⟨rfl, rfl⟩ (by omega) (by omega) dX5_copyFrom_36
      · replace hf := g_if hf c2
        refine lv_aload_n hx hb dX5_copyFrom_19 rfl (lv_at hl 0 rfl) ?_
        refine g_get hx hb hts in_5 hown hK (hR.f hi).2.2.1 rfl 0 (by decide) l_11 rfl rfl dX5_copyFrom_20 ?_
        refine lv_iload_n hx hb dX5_copyFrom_23 rfl (lv_at hl 2 rfl) ?_
        refine lv_aload_n hx hb dX5_copyFrom_24 rfl (lv_at hl 1 rfl) ?_
        refine lv_iload_n hx hb dX5_copyFrom_25 rfl (lv_at hl 2 rfl) ?_
        obtain ⟨r3, hc4, hf⟩ := g_b1_e hf
        refine g_call (va_runV (As := [.int x2]) (rest := [.int x2, .ref (g_stA G i + 3)]) ⟨hx, hb, hml, hown, hts⟩ (c5_inSlot l G E (g_setS μ i z0) j hj _ _ _ hc4) (cwV 1 hts gX5_copyFrom_X5_inSlot rfl rfl rfl (by decide +kernel) ⟨Nat.le_of_ble_eq_true rfl, Nat.le_of_ble_eq_true rfl⟩) (g_preV (ci := 5) (hR.so hne) hK ((hR.o hj hne).2.2.1) rfl) rfl rfl hl.1 rfl (lv_room (Nat.le_of_ble_eq_true rfl)) dX5_copyFrom_26 ⟨by show _ ≤ 0; omega, by show _ ≤ 0; omega⟩) hS (fun w5 H locs hp hR hS => ?_)
        rw [g_setS_so _ _ hne] at hR
        obtain ⟨w6, rfl, hp⟩ := hp
        rcases r3 with _ | v8
        · replace hf := g_ocn hf rfl
          obtain rfl : w6 = .null := hp
          obtain ⟨hg9, hf⟩ := g_gd hf
          refine g_asstN hx hb hK hS hR hi hg9 dX5_copyFrom_29 (fun H locs hR hS => ?_)
          obtain ⟨z10, ez10, hf⟩ := g_let_e hf
          replace hR : g_R G E (g_setS μ i z10) H := by rw [ez10]; exact hR
          refine lv_iinc (v := x2 + 1) (lv' := [(2, .int (x2 + 1)), (0, .ref (g_stA G i + 2)), (1, .ref (g_stA G j + 2))]) hx hb dX5_copyFrom_30 hl (k := 2) rfl rfl (by decide) rfl (fun ls hl => ?_)
          refine lv_goto (tgt := 10) hx hb dX5_copyFrom_33 (by decide) ?_
          exact ih _ _ _ _ _ hf  hR hS (lv_sub hl [1, 2, 0] rfl)
        · replace hf := g_ocs hf rfl
          obtain ⟨a7, rfl, hE_a7⟩ := hp
          obtain ⟨hg11, hf⟩ := g_gd hf
          refine g_asst hx hb hK hS hR hi hE_a7 hg11 dX5_copyFrom_29 (fun H locs hR hS => ?_)
          obtain ⟨z12, ez12, hf⟩ := g_let_e hf
          replace hR : g_R G E (g_setS μ i z12) H := by rw [ez12]; exact hR
          refine lv_iinc (v := x2 + 1) (lv' := [(2, .int (x2 + 1)), (0, .ref (g_stA G i + 2)), (1, .ref (g_stA G j + 2))]) hx hb dX5_copyFrom_30 hl (k := 2) rfl rfl (by decide) rfl (fun ls hl => ?_)
          refine lv_goto (tgt := 10) hx hb dX5_copyFrom_33 (by decide) ?_
          exact ih _ _ _ _ _ hf  hR hS (lv_sub hl [1, 2, 0] rfl)
  unfold f5_copyFrom at hf
  refine lv_aload_n hx hb dX5_copyFrom_0 rfl (lv_at hl 0 rfl) ?_
  refine lv_aload_n hx hb dX5_copyFrom_1 rfl (lv_at hl 1 rfl) ?_
  refine g_get hx hb hts in_5 hown hK (hR.o hj hne).2.2.1 rfl 1 (by decide) l_17 rfl rfl dX5_copyFrom_2 ?_
  refine g_p5_1 hx hb hts in_5 hown hK hS hR hi l_17 dX5_copyFrom_5 (fun H locs hR hS => ?_)
  obtain ⟨z1, ez1, hf⟩ := g_let_e hf
  replace hR : g_R G E (g_setS μ i z1) H := by rw [ez1]; exact hR
  refine lv_iconst (v := 0) hx hb dX5_copyFrom_8 (by decide) ?_
  refine lv_istore_n (lv' := [(2, .int (0 : Int32)), (0, .ref (g_stA G i + 2)), (1, .ref (g_stA G j + 2))]) hx hb dX5_copyFrom_9 rfl hl (by decide) rfl (fun ls hl => ?_)
  exact hB10 70 _ _ _ _ _ hf  hR hS (lv_sub hl [1, 2, 0] rfl)
set_option maxHeartbeats 4000000 in
set_option maxRecDepth 100000 in
theorem c6_copyFrom (l : Launch) (G : gG) (E : gEn) (μ : gMu) (i : Nat) (hi : i < 7) (z0 : gSt) (j : Nat) (hj : j < 7) (hne : j ≠ i) (zo : gSt) (hf : f6_copyFrom z0 (μ.1 j) = some zo) : Met l yX6_copyFrom wsX6_copyFrom ({ frames := 0, cells := 0, slots := 0, locals := 0 } : Room) (g_Pre G E (g_setS μ i z0) [.ref (g_stA G i + 1), .ref (g_stA G j + 1)]) (g_Q G E (g_setS μ i zo) (fun E' v => E' = E ∧ v = none)) 0 0 (g_A G) := by
  refine Met.ofW (cc := cX6_copyFrom) (maxL := 2) (ret := none) (by decide) rfl ?_
  intro p e s m args below meth c s₁ B hml hv
  obtain ⟨rfl, hR, hK⟩ := hv
  have hx := B.exec
  have hb := B.bytes
  have hr := B.returns
  have hts := atoms_spec (ws := wsX6_copyFrom) B.pre
  have hown : s.vm.findClass RX6 = some m.cls := findClass_of_methodNamed B.named
  have hlocks := B.notSynchronized
  have hS : va_S (g_A G) s.heap s.heap [] := va_S.rf
  have hl := lv_entry ([.ref (g_stA G i + 1), .ref (g_stA G j + 1)]) (n := 2) (Nat.le_of_ble_eq_true rfl)
  rw [lg_entry_eq]
  generalize (lg_sl ([.ref (g_stA G i + 1), .ref (g_stA G j + 1)]) ++ List.replicate (2 - (lg_sl ([.ref (g_stA G i + 1), .ref (g_stA G j + 1)])).length) Slot.unset).toArray = ls at hl ⊢
  have hl : lv_has ls 2 [(0, .ref (g_stA G i + 1)), (1, .ref (g_stA G j + 1))] := hl
  have in_6 : ∀ w ∈ u_ws RX6 TX6 5, w ∈ wsX6_copyFrom := ifX6_copyFrom_6
  have l_15 := hts (.fieldLink RX6 15 "GlassRacks$Settings" "leastSide" "I") (by decide +kernel)
  have l_18 := hts (.fieldLink RX6 18 "GlassRacks$Settings" "manner" "I") (by decide +kernel)
  have l_21 := hts (.fieldLink RX6 21 "GlassRacks$Settings" "fragility" "I") (by decide +kernel)
  have l_24 := hts (.fieldLink RX6 24 "GlassRacks$Settings" "turning" "I") (by decide +kernel)
  have l_9 := hts (.fieldLink RX6 9 "GlassRacks$Settings" "cutWidth" "I") (by decide +kernel)
  unfold f6_copyFrom at hf
  refine lv_aload_n hx hb dX6_copyFrom_0 rfl (lv_at hl 0 rfl) ?_
  refine lv_aload_n hx hb dX6_copyFrom_1 rfl (lv_at hl 1 rfl) ?_
  refine g_get hx hb hts in_6 hown hK (hR.o hj hne).2.1 rfl 0 (by decide) l_9 rfl rfl dX6_copyFrom_2 ?_
  refine g_p6_0 hx hb hts in_6 hown hK hS hR hi l_9 dX6_copyFrom_5 (fun H locs hR hS => ?_)
  obtain ⟨z1, ez1, hf⟩ := g_let_e hf
  replace hR : g_R G E (g_setS μ i z1) H := by rw [ez1]; exact hR
  refine lv_aload_n hx hb dX6_copyFrom_8 rfl (lv_at hl 0 rfl) ?_
  refine lv_aload_n hx hb dX6_copyFrom_9 rfl (lv_at hl 1 rfl) ?_
  refine g_get hx hb hts in_6 hown hK (hR.o hj hne).2.1 rfl 1 (by decide) l_15 rfl rfl dX6_copyFrom_10 ?_
  refine g_p6_1 hx hb hts in_6 hown hK hS hR hi l_15 dX6_copyFrom_13 (fun H locs hR hS => ?_)
  obtain ⟨z2, ez2, hf⟩ := g_let_e hf
  replace hR : g_R G E (g_setS μ i z2) H := by rw [ez2]; exact hR
  refine lv_aload_n hx hb dX6_copyFrom_16 rfl (lv_at hl 0 rfl) ?_
  refine lv_aload_n hx hb dX6_copyFrom_17 rfl (lv_at hl 1 rfl) ?_
  refine g_get hx hb hts in_6 hown hK (hR.o hj hne).2.1 rfl 2 (by decide) l_18 rfl rfl dX6_copyFrom_18 ?_
  refine g_p6_2 hx hb hts in_6 hown hK hS hR hi l_18 dX6_copyFrom_21 (fun H locs hR hS => ?_)
  obtain ⟨z3, ez3, hf⟩ := g_let_e hf
  replace hR : g_R G E (g_setS μ i z3) H := by rw [ez3]; exact hR
  refine lv_aload_n hx hb dX6_copyFrom_24 rfl (lv_at hl 0 rfl) ?_
  refine lv_aload_n hx hb dX6_copyFrom_25 rfl (lv_at hl 1 rfl) ?_
  refine g_get hx hb hts in_6 hown hK (hR.o hj hne).2.1 rfl 3 (by decide) l_21 rfl rfl dX6_copyFrom_26 ?_
  refine g_p6_3 hx hb hts in_6 hown hK hS hR hi l_21 dX6_copyFrom_29 (fun H locs hR hS => ?_)
  obtain ⟨z4, ez4, hf⟩ := g_let_e hf
  replace hR : g_R G E (g_setS μ i z4) H := by rw [ez4]; exact hR
  refine lv_aload_n hx hb dX6_copyFrom_32 rfl (lv_at hl 0 rfl) ?_
  refine lv_aload_n hx hb dX6_copyFrom_33 rfl (lv_at hl 1 rfl) ?_
  refine g_get hx hb hts in_6 hown hK (hR.o hj hne).2.1 rfl 4 (by decide) l_24 rfl rfl dX6_copyFrom_34 ?_
  refine g_p6_4 hx hb hts in_6 hown hK hS hR hi l_24 dX6_copyFrom_37 (fun H locs hR hS => ?_)
  obtain ⟨z5, ez5, hf⟩ := g_let_e hf
  replace hR : g_R G E (g_setS μ i z5) H := by rw [ez5]; exact hR
  obtain rfl := g_s1 hf
  exact g_vret hx hb hlocks hr hS hR g_le.rf ⟨rfl, rfl⟩ (by omega) (by omega) dX6_copyFrom_40
set_option maxHeartbeats 4000000 in
set_option maxRecDepth 100000 in
theorem c3_init (l : Launch) (G : gG) (E : gEn) (μ : gMu) (a0 : Nat) (ge0 : G.2.2 + 54 ≤ a0) (nn0 : E a0 = none) (p1 : Int32) (p2 : Int32) (p3 : Int32) (p4 : Int32) (p5 : Int32) : Met l yX3_init wsX3_init ({ frames := 1, cells := 0, slots := 0, locals := 16 } : Room) (g_PreR G E μ [.ref a0, .int p1, .int p2, .int p3, .int p4, .int p5] a0 (.inr (3, [.int 0, .int 0, .int 0, .int 0, .int 0, .int 0, .int 0, .int 0]))) (g_QR G E μ a0 (.inr (3, [.int p1, .int p2, .int p3, .int p4, .int p5, .int (0 : Int32), .int (-5 : Int32), .int (-5 : Int32)]))) 0 0 (g_A G) := by
  refine Met.ofW (cc := cX3_init) (maxL := 6) (ret := none) (by decide) rfl ?_
  intro p e s m args below meth c s₁ B hml hv
  obtain ⟨rfl, hR, hq0, hK⟩ := hv
  have hx := B.exec
  have hb := B.bytes
  have hr := B.returns
  have hts := atoms_spec (ws := wsX3_init) B.pre
  have hown : s.vm.findClass RX3 = some m.cls := findClass_of_methodNamed B.named
  have hlocks := B.notSynchronized
  have hin : meth.name = "<init>" := (name_of_methodNamed B.named B.method).1
  have hS : va_S (g_A G) s.heap s.heap [] := va_S.rf
  have hl := lv_entry ([.ref a0, .int p1, .int p2, .int p3, .int p4, .int p5]) (n := 6) (Nat.le_of_ble_eq_true rfl)
  rw [lg_entry_eq]
  generalize (lg_sl ([.ref a0, .int p1, .int p2, .int p3, .int p4, .int p5]) ++ List.replicate (6 - (lg_sl ([.ref a0, .int p1, .int p2, .int p3, .int p4, .int p5])).length) Slot.unset).toArray = ls at hl ⊢
  have hl : lv_has ls 6 [(0, .ref a0), (1, .int p1), (2, .int p2), (3, .int p3), (4, .int p4), (5, .int p5)] := hl
  have in_3 : ∀ w ∈ u_ws RX3 TX3 8, w ∈ wsX3_init := ifX3_init_3
  have l_15 := hts (.fieldLink RX3 15 "GlassRacks$Order" "source" "I") (by decide +kernel)
  have l_18 := hts (.fieldLink RX3 18 "GlassRacks$Order" "cutDay" "I") (by decide +kernel)
  have l_21 := hts (.fieldLink RX3 21 "GlassRacks$Order" "number" "I") (by decide +kernel)
  have l_24 := hts (.fieldLink RX3 24 "GlassRacks$Order" "sort" "I") (by decide +kernel)
  have l_27 := hts (.fieldLink RX3 27 "GlassRacks$Order" "width" "I") (by decide +kernel)
  have l_30 := hts (.fieldLink RX3 30 "GlassRacks$Order" "height" "I") (by decide +kernel)
  have l_33 := hts (.fieldLink RX3 33 "GlassRacks$Order" "day" "I") (by decide +kernel)
  have l_9 := hts (.fieldLink RX3 9 "GlassRacks$Order" "status" "I") (by decide +kernel)
  have o_3 := hts (.methodLink RX3 3 objectInit) (by decide +kernel)
  have o2_3 := hts (.instanceMethod objectInit) (by decide +kernel)
  have o3_3 := hts (.code objectInit ⟨#[0xb1]⟩ 1 none) (by decide +kernel)
  refine lv_aload_n hx hb dX3_init_0 rfl (lv_at hl 0 rfl) ?_
  refine W.objInit hx hb hown o_3 o2_3 o3_3 rfl (by rw [hml]; exact hl.1) rfl dX3_init_1 (Nat.le_of_ble_eq_true rfl) (Nat.le_of_ble_eq_true rfl) ?_
  refine W.eq (g2 := F0 m 4 ls []) rfl ?_
  refine lv_aload_n hx hb dX3_init_4 rfl (lv_at hl 0 rfl) ?_
  refine lv_iconst (v := 0) hx hb dX3_init_5 (by decide) ?_
  refine g_put hx hb hts in_3 tyX3_ok nmX3 hown hK hS hq0 (Nat.le_trans (Nat.le_add_right _ _) ge0) rfl 5 (by decide) l_9 rfl rfl rfl rfl (Nat.le_of_ble_eq_true rfl) dX3_init_6 (fun H locs hq1 oq hS => ?_)
  replace hR := hR.else ge0 nn0 (fun q _ h => oq q h)
  replace hq1 : g_at G a0 (.inr (3, [.int 0, .int 0, .int 0, .int 0, .int 0, .int (0 : Int32), .int 0, .int 0])) H := hq1
  refine lv_aload_n hx hb dX3_init_9 rfl (lv_at hl 0 rfl) ?_
  refine lv_bipush (v := -5) hx hb dX3_init_10 (by decide) ?_
  refine g_put hx hb hts in_3 tyX3_ok nmX3 hown hK hS hq1 (Nat.le_trans (Nat.le_add_right _ _) ge0) rfl 6 (by decide) l_15 rfl rfl rfl rfl (Nat.le_of_ble_eq_true rfl) dX3_init_12 (fun H locs hq2 oq hS => ?_)
  replace hR := hR.else ge0 nn0 (fun q _ h => oq q h)
  replace hq2 : g_at G a0 (.inr (3, [.int 0, .int 0, .int 0, .int 0, .int 0, .int (0 : Int32), .int (-5 : Int32), .int 0])) H := hq2
  refine lv_aload_n hx hb dX3_init_15 rfl (lv_at hl 0 rfl) ?_
  refine lv_bipush (v := -5) hx hb dX3_init_16 (by decide) ?_
  refine g_put hx hb hts in_3 tyX3_ok nmX3 hown hK hS hq2 (Nat.le_trans (Nat.le_add_right _ _) ge0) rfl 7 (by decide) l_18 rfl rfl rfl rfl (Nat.le_of_ble_eq_true rfl) dX3_init_18 (fun H locs hq3 oq hS => ?_)
  replace hR := hR.else ge0 nn0 (fun q _ h => oq q h)
  replace hq3 : g_at G a0 (.inr (3, [.int 0, .int 0, .int 0, .int 0, .int 0, .int (0 : Int32), .int (-5 : Int32), .int (-5 : Int32)])) H := hq3
  refine lv_aload_n hx hb dX3_init_21 rfl (lv_at hl 0 rfl) ?_
  refine lv_iload_n hx hb dX3_init_22 rfl (lv_at hl 1 rfl) ?_
  refine g_putF hx hb hts in_3 tyX3_ok nmX3 hown hK hS hq3 (Nat.le_trans (Nat.le_add_right _ _) ge0) rfl 0 (by decide) l_21 rfl rfl hin rfl rfl rfl (Nat.le_of_ble_eq_true rfl) dX3_init_23 (fun H locs hq4 oq hS => ?_)
  replace hR := hR.else ge0 nn0 (fun q _ h => oq q h)
  replace hq4 : g_at G a0 (.inr (3, [.int p1, .int 0, .int 0, .int 0, .int 0, .int (0 : Int32), .int (-5 : Int32), .int (-5 : Int32)])) H := hq4
  refine lv_aload_n hx hb dX3_init_26 rfl (lv_at hl 0 rfl) ?_
  refine lv_iload_n hx hb dX3_init_27 rfl (lv_at hl 2 rfl) ?_
  refine g_putF hx hb hts in_3 tyX3_ok nmX3 hown hK hS hq4 (Nat.le_trans (Nat.le_add_right _ _) ge0) rfl 1 (by decide) l_24 rfl rfl hin rfl rfl rfl (Nat.le_of_ble_eq_true rfl) dX3_init_28 (fun H locs hq5 oq hS => ?_)
  replace hR := hR.else ge0 nn0 (fun q _ h => oq q h)
  replace hq5 : g_at G a0 (.inr (3, [.int p1, .int p2, .int 0, .int 0, .int 0, .int (0 : Int32), .int (-5 : Int32), .int (-5 : Int32)])) H := hq5
  refine lv_aload_n hx hb dX3_init_31 rfl (lv_at hl 0 rfl) ?_
  refine lv_iload_n hx hb dX3_init_32 rfl (lv_at hl 3 rfl) ?_
  refine g_putF hx hb hts in_3 tyX3_ok nmX3 hown hK hS hq5 (Nat.le_trans (Nat.le_add_right _ _) ge0) rfl 2 (by decide) l_27 rfl rfl hin rfl rfl rfl (Nat.le_of_ble_eq_true rfl) dX3_init_33 (fun H locs hq6 oq hS => ?_)
  replace hR := hR.else ge0 nn0 (fun q _ h => oq q h)
  replace hq6 : g_at G a0 (.inr (3, [.int p1, .int p2, .int p3, .int 0, .int 0, .int (0 : Int32), .int (-5 : Int32), .int (-5 : Int32)])) H := hq6
  refine lv_aload_n hx hb dX3_init_36 rfl (lv_at hl 0 rfl) ?_
  refine lv_iload hx hb dX3_init_37 (lv_at hl 4 rfl) ?_
  refine g_putF hx hb hts in_3 tyX3_ok nmX3 hown hK hS hq6 (Nat.le_trans (Nat.le_add_right _ _) ge0) rfl 3 (by decide) l_30 rfl rfl hin rfl rfl rfl (Nat.le_of_ble_eq_true rfl) dX3_init_39 (fun H locs hq7 oq hS => ?_)
  replace hR := hR.else ge0 nn0 (fun q _ h => oq q h)
  replace hq7 : g_at G a0 (.inr (3, [.int p1, .int p2, .int p3, .int p4, .int 0, .int (0 : Int32), .int (-5 : Int32), .int (-5 : Int32)])) H := hq7
  refine lv_aload_n hx hb dX3_init_42 rfl (lv_at hl 0 rfl) ?_
  refine lv_iload hx hb dX3_init_43 (lv_at hl 5 rfl) ?_
  refine g_putF hx hb hts in_3 tyX3_ok nmX3 hown hK hS hq7 (Nat.le_trans (Nat.le_add_right _ _) ge0) rfl 4 (by decide) l_33 rfl rfl hin rfl rfl rfl (Nat.le_of_ble_eq_true rfl) dX3_init_45 (fun H locs hq8 oq hS => ?_)
  replace hR := hR.else ge0 nn0 (fun q _ h => oq q h)
  replace hq8 : g_at G a0 (.inr (3, [.int p1, .int p2, .int p3, .int p4, .int p5, .int (0 : Int32), .int (-5 : Int32), .int (-5 : Int32)])) H := hq8
  exact g_vretR hx hb hlocks hr hS hR hq8 dX3_init_48
set_option maxHeartbeats 4000000 in
set_option maxRecDepth 100000 in
theorem c3_asCancelled (l : Launch) (G : gG) (E : gEn) (μ : gMu) (a0 : Nat) (v0 : gOd) (hE_a0 : E a0 = some (.inr v0)) (ro : gOd) (hf : f3_asCancelled v0 = some ro) : Met l yX3_asCancelled wsX3_asCancelled ({ frames := 2, cells := 1, slots := 8, locals := 41 } : Room) (g_Pre G E μ [.ref a0]) (g_Q G E μ (fun E' v => ∃ a : Nat, v = some (.ref a) ∧ E' a = some (.inr ro))) 1 8 (g_A G) := by
  refine Met.ofW (cc := cX3_asCancelled) (maxL := 2) (ret := some (.object "GlassRacks$Order")) (by decide) rfl ?_
  intro p e s m args below meth c s₁ B hml hv
  obtain ⟨rfl, hR, hK⟩ := hv
  have hx := B.exec
  have hb := B.bytes
  have hr := B.returns
  have hts := atoms_spec (ws := wsX3_asCancelled) B.pre
  have hown : s.vm.findClass RX3 = some m.cls := findClass_of_methodNamed B.named
  have hlocks := B.notSynchronized
  have hS : va_S (g_A G) s.heap s.heap [] := va_S.rf
  have hl := lv_entry ([.ref a0]) (n := 2) (Nat.le_of_ble_eq_true rfl)
  rw [lg_entry_eq]
  generalize (lg_sl ([.ref a0]) ++ List.replicate (2 - (lg_sl ([.ref a0])).length) Slot.unset).toArray = ls at hl ⊢
  have hl : lv_has ls 2 [(0, .ref a0)] := hl
  have in_3 : ∀ w ∈ u_ws RX3 TX3 8, w ∈ wsX3_asCancelled := ifX3_asCancelled_3
  have l_21 := hts (.fieldLink RX3 21 "GlassRacks$Order" "number" "I") (by decide +kernel)
  have l_24 := hts (.fieldLink RX3 24 "GlassRacks$Order" "sort" "I") (by decide +kernel)
  have l_27 := hts (.fieldLink RX3 27 "GlassRacks$Order" "width" "I") (by decide +kernel)
  have l_30 := hts (.fieldLink RX3 30 "GlassRacks$Order" "height" "I") (by decide +kernel)
  have l_33 := hts (.fieldLink RX3 33 "GlassRacks$Order" "day" "I") (by decide +kernel)
  have l_9 := hts (.fieldLink RX3 9 "GlassRacks$Order" "status" "I") (by decide +kernel)
  have n_10 := hts (.classLink RX3 10 RX3) (by decide +kernel)
  have n2_10 := hts (.instantiable RX3 8) (by decide +kernel)
  have n3_10 := hts (.initialized RX3) (by decide +kernel)
  have i1_36 := hts (.initialized RX3) (by decide +kernel)
  have i2_36 := hts (.methodLink RX3 36 yX3_init) (by decide +kernel)
  have i3_36 := hts (.instanceMethod yX3_init) (by decide +kernel)
  unfold f3_asCancelled at hf
  refine g_new (ci := 3) (fs := [.int 0, .int 0, .int 0, .int 0, .int 0, .int 0, .int 0, .int 0]) hx hb hts in_3 tyX3_ok hown n_10 n2_10 n3_10 hK hR hS rfl (fun j hj => by rcases (show j = 0 ∨ j = 1 ∨ j = 2 ∨ j = 3 ∨ j = 4 ∨ j = 5 ∨ j = 6 ∨ j = 7 by omega) with rfl | rfl | rfl | rfl | rfl | rfl | rfl | rfl <;> rfl) (by show _ ≤ 1; omega) (by show _ ≤ 8; omega) dX3_asCancelled_0 (fun a1 H ge_a1 nn_a1 hq_a1 hR hS => ?_)
  refine lv_dup hx hb dX3_asCancelled_3 rfl ?_
  refine lv_aload_n hx hb dX3_asCancelled_4 rfl (lv_at hl 0 rfl) ?_
  refine g_get hx hb hts in_3 hown hK ((hR.2.2.2.2.2 _ _ hE_a0).2) rfl 0 (by decide) l_21 rfl rfl dX3_asCancelled_5 ?_
  refine lv_aload_n hx hb dX3_asCancelled_8 rfl (lv_at hl 0 rfl) ?_
  refine g_get hx hb hts in_3 hown hK ((hR.2.2.2.2.2 _ _ hE_a0).2) rfl 1 (by decide) l_24 rfl rfl dX3_asCancelled_9 ?_
  refine lv_aload_n hx hb dX3_asCancelled_12 rfl (lv_at hl 0 rfl) ?_
  refine g_get hx hb hts in_3 hown hK ((hR.2.2.2.2.2 _ _ hE_a0).2) rfl 2 (by decide) l_27 rfl rfl dX3_asCancelled_13 ?_
  refine lv_aload_n hx hb dX3_asCancelled_16 rfl (lv_at hl 0 rfl) ?_
  refine g_get hx hb hts in_3 hown hK ((hR.2.2.2.2.2 _ _ hE_a0).2) rfl 3 (by decide) l_30 rfl rfl dX3_asCancelled_17 ?_
  refine lv_aload_n hx hb dX3_asCancelled_20 rfl (lv_at hl 0 rfl) ?_
  refine g_get hx hb hts in_3 hown hK ((hR.2.2.2.2.2 _ _ hE_a0).2) rfl 4 (by decide) l_33 rfl rfl dX3_asCancelled_21 ?_
  refine g_calli (va_runI (As := [.int v0.1, .int v0.2.1, .int v0.2.2.1, .int v0.2.2.2.1, .int v0.2.2.2.2.1]) (rest := [.ref a1]) ⟨hx, hb, hml, hown, hts⟩ (c3_init l G E μ a1 ge_a1 nn_a1 v0.1 v0.2.1 v0.2.2.1 v0.2.2.2.1 v0.2.2.2.2.1) (cwI 5 hts gX3_asCancelled_X3_init rfl rfl rfl i1_36 i2_36 i3_36 rfl (by decide +kernel) ⟨Nat.le_of_ble_eq_true rfl, Nat.le_of_ble_eq_true rfl⟩) (g_preR hR hK hq_a1) rfl rfl hl.1 rfl (lv_room (Nat.le_of_ble_eq_true rfl)) dX3_asCancelled_24 ⟨by show _ ≤ 1; omega, by show _ ≤ 8; omega⟩) hS (fun w3 H locs hp hq2 hR hS => ?_)
  subst hp
  refine lv_astore_n (lv' := [(1, .ref a1), (0, .ref a0)]) hx hb dX3_asCancelled_27 rfl hl (by decide) rfl (fun ls hl => ?_)
  refine lv_aload_n hx hb dX3_asCancelled_28 rfl (lv_at hl 0 rfl) ?_
  refine lv_iconst (v := 2) hx hb dX3_asCancelled_29 (by decide) ?_
  refine g_put hx hb hts in_3 tyX3_ok nmX3 hown hK hS hq2 (Nat.le_trans (Nat.le_add_right _ _) ge_a1) rfl 5 (by decide) l_9 rfl rfl rfl rfl (Nat.le_of_ble_eq_true rfl) dX3_asCancelled_30 (fun H locs hq4 oq hS => ?_)
  replace hR := hR.else ge_a1 nn_a1 (fun q _ h => oq q h)
  replace hq4 : g_at G a1 (.inr (3, [.int v0.1, .int v0.2.1, .int v0.2.2.1, .int v0.2.2.2.1, .int v0.2.2.2.2.1, .int (2 : Int32), .int (-5 : Int32), .int (-5 : Int32)])) H := hq4
  refine lv_aload_n hx hb dX3_asCancelled_33 rfl (lv_at hl 0 rfl) ?_
  obtain ⟨hle7, hE_a1, hR⟩ := hR.join ge_a1 nn_a1 (o := .inr (v0.1, v0.2.1, v0.2.2.1, v0.2.2.2.1, v0.2.2.2.2.1, (2 : Int32), (-5 : Int32), (-5 : Int32))) hq4
  generalize hee : va_up E a1 (some (.inr (v0.1, v0.2.1, v0.2.2.1, v0.2.2.2.1, v0.2.2.2.2.1, (2 : Int32), (-5 : Int32), (-5 : Int32)))) = E6 at hle7 hE_a1 hR
  clear hee
  have hE_a0 := hle7 _ _ hE_a0
  obtain rfl := g_s1 hf
  exact g_aret hx hb hlocks hr hS hR ((g_le.rf).tr hle7) (Or.inr ⟨_, rfl⟩) ⟨_, rfl, hE_a1⟩ (by omega) (by omega) dX3_asCancelled_34
set_option maxHeartbeats 4000000 in
set_option maxRecDepth 100000 in
theorem c3_asCut (l : Launch) (G : gG) (E : gEn) (μ : gMu) (a0 : Nat) (v0 : gOd) (hE_a0 : E a0 = some (.inr v0)) (p1 : Int32) (p2 : Int32) (ro : gOd) (hf : f3_asCut v0 p1 p2 = some ro) : Met l yX3_asCut wsX3_asCut ({ frames := 2, cells := 1, slots := 8, locals := 41 } : Room) (g_Pre G E μ [.ref a0, .int p1, .int p2]) (g_Q G E μ (fun E' v => ∃ a : Nat, v = some (.ref a) ∧ E' a = some (.inr ro))) 1 8 (g_A G) := by
  refine Met.ofW (cc := cX3_asCut) (maxL := 4) (ret := some (.object "GlassRacks$Order")) (by decide) rfl ?_
  intro p e s m args below meth c s₁ B hml hv
  obtain ⟨rfl, hR, hK⟩ := hv
  have hx := B.exec
  have hb := B.bytes
  have hr := B.returns
  have hts := atoms_spec (ws := wsX3_asCut) B.pre
  have hown : s.vm.findClass RX3 = some m.cls := findClass_of_methodNamed B.named
  have hlocks := B.notSynchronized
  have hS : va_S (g_A G) s.heap s.heap [] := va_S.rf
  have hl := lv_entry ([.ref a0, .int p1, .int p2]) (n := 4) (Nat.le_of_ble_eq_true rfl)
  rw [lg_entry_eq]
  generalize (lg_sl ([.ref a0, .int p1, .int p2]) ++ List.replicate (4 - (lg_sl ([.ref a0, .int p1, .int p2])).length) Slot.unset).toArray = ls at hl ⊢
  have hl : lv_has ls 4 [(0, .ref a0), (1, .int p1), (2, .int p2)] := hl
  have in_3 : ∀ w ∈ u_ws RX3 TX3 8, w ∈ wsX3_asCut := ifX3_asCut_3
  have l_15 := hts (.fieldLink RX3 15 "GlassRacks$Order" "source" "I") (by decide +kernel)
  have l_18 := hts (.fieldLink RX3 18 "GlassRacks$Order" "cutDay" "I") (by decide +kernel)
  have l_21 := hts (.fieldLink RX3 21 "GlassRacks$Order" "number" "I") (by decide +kernel)
  have l_24 := hts (.fieldLink RX3 24 "GlassRacks$Order" "sort" "I") (by decide +kernel)
  have l_27 := hts (.fieldLink RX3 27 "GlassRacks$Order" "width" "I") (by decide +kernel)
  have l_30 := hts (.fieldLink RX3 30 "GlassRacks$Order" "height" "I") (by decide +kernel)
  have l_33 := hts (.fieldLink RX3 33 "GlassRacks$Order" "day" "I") (by decide +kernel)
  have l_9 := hts (.fieldLink RX3 9 "GlassRacks$Order" "status" "I") (by decide +kernel)
  have n_10 := hts (.classLink RX3 10 RX3) (by decide +kernel)
  have n2_10 := hts (.instantiable RX3 8) (by decide +kernel)
  have n3_10 := hts (.initialized RX3) (by decide +kernel)
  have i1_36 := hts (.initialized RX3) (by decide +kernel)
  have i2_36 := hts (.methodLink RX3 36 yX3_init) (by decide +kernel)
  have i3_36 := hts (.instanceMethod yX3_init) (by decide +kernel)
  unfold f3_asCut at hf
  refine g_new (ci := 3) (fs := [.int 0, .int 0, .int 0, .int 0, .int 0, .int 0, .int 0, .int 0]) hx hb hts in_3 tyX3_ok hown n_10 n2_10 n3_10 hK hR hS rfl (fun j hj => by rcases (show j = 0 ∨ j = 1 ∨ j = 2 ∨ j = 3 ∨ j = 4 ∨ j = 5 ∨ j = 6 ∨ j = 7 by omega) with rfl | rfl | rfl | rfl | rfl | rfl | rfl | rfl <;> rfl) (by show _ ≤ 1; omega) (by show _ ≤ 8; omega) dX3_asCut_0 (fun a1 H ge_a1 nn_a1 hq_a1 hR hS => ?_)
  refine lv_dup hx hb dX3_asCut_3 rfl ?_
  refine lv_aload_n hx hb dX3_asCut_4 rfl (lv_at hl 0 rfl) ?_
  refine g_get hx hb hts in_3 hown hK ((hR.2.2.2.2.2 _ _ hE_a0).2) rfl 0 (by decide) l_21 rfl rfl dX3_asCut_5 ?_
  refine lv_aload_n hx hb dX3_asCut_8 rfl (lv_at hl 0 rfl) ?_
  refine g_get hx hb hts in_3 hown hK ((hR.2.2.2.2.2 _ _ hE_a0).2) rfl 1 (by decide) l_24 rfl rfl dX3_asCut_9 ?_
  refine lv_aload_n hx hb dX3_asCut_12 rfl (lv_at hl 0 rfl) ?_
  refine g_get hx hb hts in_3 hown hK ((hR.2.2.2.2.2 _ _ hE_a0).2) rfl 2 (by decide) l_27 rfl rfl dX3_asCut_13 ?_
  refine lv_aload_n hx hb dX3_asCut_16 rfl (lv_at hl 0 rfl) ?_
  refine g_get hx hb hts in_3 hown hK ((hR.2.2.2.2.2 _ _ hE_a0).2) rfl 3 (by decide) l_30 rfl rfl dX3_asCut_17 ?_
  refine lv_aload_n hx hb dX3_asCut_20 rfl (lv_at hl 0 rfl) ?_
  refine g_get hx hb hts in_3 hown hK ((hR.2.2.2.2.2 _ _ hE_a0).2) rfl 4 (by decide) l_33 rfl rfl dX3_asCut_21 ?_
  refine g_calli (va_runI (As := [.int v0.1, .int v0.2.1, .int v0.2.2.1, .int v0.2.2.2.1, .int v0.2.2.2.2.1]) (rest := [.ref a1]) ⟨hx, hb, hml, hown, hts⟩ (c3_init l G E μ a1 ge_a1 nn_a1 v0.1 v0.2.1 v0.2.2.1 v0.2.2.2.1 v0.2.2.2.2.1) (cwI 5 hts gX3_asCut_X3_init rfl rfl rfl i1_36 i2_36 i3_36 rfl (by decide +kernel) ⟨Nat.le_of_ble_eq_true rfl, Nat.le_of_ble_eq_true rfl⟩) (g_preR hR hK hq_a1) rfl rfl hl.1 rfl (lv_room (Nat.le_of_ble_eq_true rfl)) dX3_asCut_24 ⟨by show _ ≤ 1; omega, by show _ ≤ 8; omega⟩) hS (fun w3 H locs hp hq2 hR hS => ?_)
  subst hp
  refine lv_astore_n (lv' := [(3, .ref a1), (0, .ref a0), (1, .int p1), (2, .int p2)]) hx hb dX3_asCut_27 rfl hl (by decide) rfl (fun ls hl => ?_)
  refine lv_aload_n hx hb dX3_asCut_28 rfl (lv_at hl 0 rfl) ?_
  refine lv_iconst (v := 1) hx hb dX3_asCut_29 (by decide) ?_
  refine g_put hx hb hts in_3 tyX3_ok nmX3 hown hK hS hq2 (Nat.le_trans (Nat.le_add_right _ _) ge_a1) rfl 5 (by decide) l_9 rfl rfl rfl rfl (Nat.le_of_ble_eq_true rfl) dX3_asCut_30 (fun H locs hq4 oq hS => ?_)
  replace hR := hR.else ge_a1 nn_a1 (fun q _ h => oq q h)
  replace hq4 : g_at G a1 (.inr (3, [.int v0.1, .int v0.2.1, .int v0.2.2.1, .int v0.2.2.2.1, .int v0.2.2.2.2.1, .int (1 : Int32), .int (-5 : Int32), .int (-5 : Int32)])) H := hq4
  refine lv_aload_n hx hb dX3_asCut_33 rfl (lv_at hl 0 rfl) ?_
  refine lv_iload_n hx hb dX3_asCut_34 rfl (lv_at hl 2 rfl) ?_
  refine g_put hx hb hts in_3 tyX3_ok nmX3 hown hK hS hq4 (Nat.le_trans (Nat.le_add_right _ _) ge_a1) rfl 6 (by decide) l_15 rfl rfl rfl rfl (Nat.le_of_ble_eq_true rfl) dX3_asCut_35 (fun H locs hq5 oq hS => ?_)
  replace hR := hR.else ge_a1 nn_a1 (fun q _ h => oq q h)
  replace hq5 : g_at G a1 (.inr (3, [.int v0.1, .int v0.2.1, .int v0.2.2.1, .int v0.2.2.2.1, .int v0.2.2.2.2.1, .int (1 : Int32), .int p1, .int (-5 : Int32)])) H := hq5
  refine lv_aload_n hx hb dX3_asCut_38 rfl (lv_at hl 0 rfl) ?_
  refine lv_iload_n hx hb dX3_asCut_39 rfl (lv_at hl 3 rfl) ?_
  refine g_put hx hb hts in_3 tyX3_ok nmX3 hown hK hS hq5 (Nat.le_trans (Nat.le_add_right _ _) ge_a1) rfl 7 (by decide) l_18 rfl rfl rfl rfl (Nat.le_of_ble_eq_true rfl) dX3_asCut_40 (fun H locs hq6 oq hS => ?_)
  replace hR := hR.else ge_a1 nn_a1 (fun q _ h => oq q h)
  replace hq6 : g_at G a1 (.inr (3, [.int v0.1, .int v0.2.1, .int v0.2.2.1, .int v0.2.2.2.1, .int v0.2.2.2.2.1, .int (1 : Int32), .int p1, .int p2])) H := hq6
  refine lv_aload_n hx hb dX3_asCut_43 rfl (lv_at hl 0 rfl) ?_
  obtain ⟨hle9, hE_a1, hR⟩ := hR.join ge_a1 nn_a1 (o := .inr (v0.1, v0.2.1, v0.2.2.1, v0.2.2.2.1, v0.2.2.2.2.1, (1 : Int32), p1, p2)) hq6
  generalize hee : va_up E a1 (some (.inr (v0.1, v0.2.1, v0.2.2.1, v0.2.2.2.1, v0.2.2.2.2.1, (1 : Int32), p1, p2))) = E8 at hle9 hE_a1 hR
  clear hee
  have hE_a0 := hle9 _ _ hE_a0
  obtain rfl := g_s1 hf
  exact g_aret hx hb hlocks hr hS hR ((g_le.rf).tr hle9) (Or.inr ⟨_, rfl⟩) ⟨_, rfl, hE_a1⟩ (by omega) (by omega) dX3_asCut_44
set_option maxHeartbeats 4000000 in
set_option maxRecDepth 100000 in
theorem c3_goesBefore (l : Launch) (G : gG) (E : gEn) (μ : gMu) (a0 : Nat) (v0 : gOd) (hE_a0 : E a0 = some (.inr v0)) (a1 : Nat) (v1 : gOd) (hE_a1 : E a1 = some (.inr v1)) (ro : Int32) (hf : f3_goesBefore v0 v1 = some ro) : Met l yX3_goesBefore wsX3_goesBefore ({ frames := 1, cells := 0, slots := 0, locals := 20 } : Room) (g_Pre G E μ [.ref a0, .ref a1]) (g_Q G E μ (fun E' v => E' = E ∧ v = some (.int ro))) 0 0 (g_A G) := by
  refine Met.ofW (cc := cX3_goesBefore) (maxL := 2) (ret := some .boolean) (by decide) rfl ?_
  intro p e s m args below meth c s₁ B hml hv
  obtain ⟨rfl, hR, hK⟩ := hv
  have hx := B.exec
  have hb := B.bytes
  have hr := B.returns
  have hts := atoms_spec (ws := wsX3_goesBefore) B.pre
  have hown : s.vm.findClass RX3 = some m.cls := findClass_of_methodNamed B.named
  have hlocks := B.notSynchronized
  have hS : va_S (g_A G) s.heap s.heap [] := va_S.rf
  have hl := lv_entry ([.ref a0, .ref a1]) (n := 2) (Nat.le_of_ble_eq_true rfl)
  rw [lg_entry_eq]
  generalize (lg_sl ([.ref a0, .ref a1]) ++ List.replicate (2 - (lg_sl ([.ref a0, .ref a1])).length) Slot.unset).toArray = ls at hl ⊢
  have hl : lv_has ls 2 [(0, .ref a0), (1, .ref a1)] := hl
  have in_3 : ∀ w ∈ u_ws RX3 TX3 8, w ∈ wsX3_goesBefore := ifX3_goesBefore_3
  have l_21 := hts (.fieldLink RX3 21 "GlassRacks$Order" "number" "I") (by decide +kernel)
  have l_33 := hts (.fieldLink RX3 33 "GlassRacks$Order" "day" "I") (by decide +kernel)
  unfold f3_goesBefore at hf
  refine lv_aload_n hx hb dX3_goesBefore_0 rfl (lv_at hl 0 rfl) ?_
  refine g_get hx hb hts in_3 hown hK ((hR.2.2.2.2.2 _ _ hE_a0).2) rfl 4 (by decide) l_33 rfl rfl dX3_goesBefore_1 ?_
  refine lv_aload_n hx hb dX3_goesBefore_4 rfl (lv_at hl 1 rfl) ?_
  refine g_get hx hb hts in_3 hown hK ((hR.2.2.2.2.2 _ _ hE_a1).2) rfl 4 (by decide) l_33 rfl rfl dX3_goesBefore_5 ?_
  refine lv_icmp_eq (tgt := 28) hx hb dX3_goesBefore_8 (by decide) (fun c1 => ?_) (fun c1 => ?_)
  · replace hf := g_it hf c1
    refine lv_aload_n hx hb dX3_goesBefore_28 rfl (lv_at hl 0 rfl) ?_
    obtain ⟨r2, hc3, hf⟩ := g_b1_e hf
    refine g_call (va_runV (As := []) (rest := []) ⟨hx, hb, hml, hown, hts⟩ (c3_area l G E μ _ _ hE_a0 _ hc3) (cwV 0 hts gX3_goesBefore_X3_area rfl rfl rfl (by decide +kernel) ⟨Nat.le_of_ble_eq_true rfl, Nat.le_of_ble_eq_true rfl⟩) (g_preV (ci := 3) hR hK ((hR.2.2.2.2.2 _ _ hE_a0).2) rfl) rfl rfl hl.1 rfl (lv_room (Nat.le_of_ble_eq_true rfl)) dX3_goesBefore_29 ⟨by show _ ≤ 0; omega, by show _ ≤ 0; omega⟩) hS (fun w4 H locs hp hR hS => ?_)
    subst hp
    refine lv_aload_n hx hb dX3_goesBefore_32 rfl (lv_at hl 1 rfl) ?_
    obtain ⟨r5, hc6, hf⟩ := g_b1_e hf
    refine g_call (va_runV (As := []) (rest := [.int r2]) ⟨hx, hb, hml, hown, hts⟩ (c3_area l G E μ _ _ hE_a1 _ hc6) (cwV 0 hts gX3_goesBefore_X3_area rfl rfl rfl (by decide +kernel) ⟨Nat.le_of_ble_eq_true rfl, Nat.le_of_ble_eq_true rfl⟩) (g_preV (ci := 3) hR hK ((hR.2.2.2.2.2 _ _ hE_a1).2) rfl) rfl rfl hl.1 rfl (lv_room (Nat.le_of_ble_eq_true rfl)) dX3_goesBefore_33 ⟨by show _ ≤ 0; omega, by show _ ≤ 0; omega⟩) hS (fun w7 H locs hp hR hS => ?_)
    subst hp
    refine lv_icmp_eq (tgt := 56) hx hb dX3_goesBefore_36 (by decide) (fun c8 => ?_) (fun c8 => ?_)
    · replace hf := g_it hf c8
      refine lv_aload_n hx hb dX3_goesBefore_56 rfl (lv_at hl 0 rfl) ?_
      refine g_get hx hb hts in_3 hown hK ((hR.2.2.2.2.2 _ _ hE_a0).2) rfl 0 (by decide) l_21 rfl rfl dX3_goesBefore_57 ?_
      refine lv_aload_n hx hb dX3_goesBefore_60 rfl (lv_at hl 1 rfl) ?_
      refine g_get hx hb hts in_3 hown hK ((hR.2.2.2.2.2 _ _ hE_a1).2) rfl 0 (by decide) l_21 rfl rfl dX3_goesBefore_61 ?_
      refine lv_icmp_ge (tgt := 71) hx hb dX3_goesBefore_64 (by decide) (fun c9 => ?_) (fun c9 => ?_)
      · replace hf := g_it hf c9
        refine lv_iconst (v := 0) hx hb dX3_goesBefore_71 (by decide) ?_
        obtain rfl := g_s1 hf
        exact g_zret hx hb hlocks hr hS hR g_le.rf (by decide) ⟨rfl, rfl⟩ (by omega) (by omega) dX3_goesBefore_72
      · replace hf := g_if hf c9
        refine lv_iconst (v := 1) hx hb dX3_goesBefore_67 (by decide) ?_
        refine lv_goto (tgt := 72) hx hb dX3_goesBefore_68 (by decide) ?_
        obtain rfl := g_s1 hf
        exact g_zret hx hb hlocks hr hS hR g_le.rf (by decide) ⟨rfl, rfl⟩ (by omega) (by omega) dX3_goesBefore_72
    · replace hf := g_if hf c8
      refine lv_aload_n hx hb dX3_goesBefore_39 rfl (lv_at hl 0 rfl) ?_
      obtain ⟨r10, hc11, hf⟩ := g_b1_e hf
      refine g_call (va_runV (As := []) (rest := []) ⟨hx, hb, hml, hown, hts⟩ (c3_area l G E μ _ _ hE_a0 _ hc11) (cwV 0 hts gX3_goesBefore_X3_area rfl rfl rfl (by decide +kernel) ⟨Nat.le_of_ble_eq_true rfl, Nat.le_of_ble_eq_true rfl⟩) (g_preV (ci := 3) hR hK ((hR.2.2.2.2.2 _ _ hE_a0).2) rfl) rfl rfl hl.1 rfl (lv_room (Nat.le_of_ble_eq_true rfl)) dX3_goesBefore_40 ⟨by show _ ≤ 0; omega, by show _ ≤ 0; omega⟩) hS (fun w12 H locs hp hR hS => ?_)
      subst hp
      refine lv_aload_n hx hb dX3_goesBefore_43 rfl (lv_at hl 1 rfl) ?_
      obtain ⟨r13, hc14, hf⟩ := g_b1_e hf
      refine g_call (va_runV (As := []) (rest := [.int r10]) ⟨hx, hb, hml, hown, hts⟩ (c3_area l G E μ _ _ hE_a1 _ hc14) (cwV 0 hts gX3_goesBefore_X3_area rfl rfl rfl (by decide +kernel) ⟨Nat.le_of_ble_eq_true rfl, Nat.le_of_ble_eq_true rfl⟩) (g_preV (ci := 3) hR hK ((hR.2.2.2.2.2 _ _ hE_a1).2) rfl) rfl rfl hl.1 rfl (lv_room (Nat.le_of_ble_eq_true rfl)) dX3_goesBefore_44 ⟨by show _ ≤ 0; omega, by show _ ≤ 0; omega⟩) hS (fun w15 H locs hp hR hS => ?_)
      subst hp
      refine lv_icmp_le (tgt := 54) hx hb dX3_goesBefore_47 (by decide) (fun c16 => ?_) (fun c16 => ?_)
      · replace hf := g_it hf c16
        refine lv_iconst (v := 0) hx hb dX3_goesBefore_54 (by decide) ?_
        obtain rfl := g_s1 hf
        exact g_zret hx hb hlocks hr hS hR g_le.rf (by decide) ⟨rfl, rfl⟩ (by omega) (by omega) dX3_goesBefore_55
      · replace hf := g_if hf c16
        refine lv_iconst (v := 1) hx hb dX3_goesBefore_50 (by decide) ?_
        refine lv_goto (tgt := 55) hx hb dX3_goesBefore_51 (by decide) ?_
        obtain rfl := g_s1 hf
        exact g_zret hx hb hlocks hr hS hR g_le.rf (by decide) ⟨rfl, rfl⟩ (by omega) (by omega) dX3_goesBefore_55
  · replace hf := g_if hf c1
    refine lv_aload_n hx hb dX3_goesBefore_11 rfl (lv_at hl 0 rfl) ?_
    refine g_get hx hb hts in_3 hown hK ((hR.2.2.2.2.2 _ _ hE_a0).2) rfl 4 (by decide) l_33 rfl rfl dX3_goesBefore_12 ?_
    refine lv_aload_n hx hb dX3_goesBefore_15 rfl (lv_at hl 1 rfl) ?_
    refine g_get hx hb hts in_3 hown hK ((hR.2.2.2.2.2 _ _ hE_a1).2) rfl 4 (by decide) l_33 rfl rfl dX3_goesBefore_16 ?_
    refine lv_icmp_ge (tgt := 26) hx hb dX3_goesBefore_19 (by decide) (fun c17 => ?_) (fun c17 => ?_)
    · replace hf := g_it hf c17
      refine lv_iconst (v := 0) hx hb dX3_goesBefore_26 (by decide) ?_
      obtain rfl := g_s1 hf
      exact g_zret hx hb hlocks hr hS hR g_le.rf (by decide) ⟨rfl, rfl⟩ (by omega) (by omega) dX3_goesBefore_27
    · replace hf := g_if hf c17
      refine lv_iconst (v := 1) hx hb dX3_goesBefore_22 (by decide) ?_
      refine lv_goto (tgt := 27) hx hb dX3_goesBefore_23 (by decide) ?_
      obtain rfl := g_s1 hf
      exact g_zret hx hb hlocks hr hS hR g_le.rf (by decide) ⟨rfl, rfl⟩ (by omega) (by omega) dX3_goesBefore_27
set_option maxHeartbeats 4000000 in
set_option maxRecDepth 100000 in
theorem c3_isLate (l : Launch) (G : gG) (E : gEn) (μ : gMu) (a0 : Nat) (v0 : gOd) (hE_a0 : E a0 = some (.inr v0)) (p1 : Int32) (ro : Int32) (hf : f3_isLate v0 p1 = some ro) : Met l yX3_isLate wsX3_isLate ({ frames := 0, cells := 0, slots := 0, locals := 0 } : Room) (g_Pre G E μ [.ref a0, .int p1]) (g_Q G E μ (fun E' v => E' = E ∧ v = some (.int ro))) 0 0 (g_A G) := by
  refine Met.ofW (cc := cX3_isLate) (maxL := 2) (ret := some .boolean) (by decide) rfl ?_
  intro p e s m args below meth c s₁ B hml hv
  obtain ⟨rfl, hR, hK⟩ := hv
  have hx := B.exec
  have hb := B.bytes
  have hr := B.returns
  have hts := atoms_spec (ws := wsX3_isLate) B.pre
  have hown : s.vm.findClass RX3 = some m.cls := findClass_of_methodNamed B.named
  have hlocks := B.notSynchronized
  have hS : va_S (g_A G) s.heap s.heap [] := va_S.rf
  have hl := lv_entry ([.ref a0, .int p1]) (n := 2) (Nat.le_of_ble_eq_true rfl)
  rw [lg_entry_eq]
  generalize (lg_sl ([.ref a0, .int p1]) ++ List.replicate (2 - (lg_sl ([.ref a0, .int p1])).length) Slot.unset).toArray = ls at hl ⊢
  have hl : lv_has ls 2 [(0, .ref a0), (1, .int p1)] := hl
  have in_3 : ∀ w ∈ u_ws RX3 TX3 8, w ∈ wsX3_isLate := ifX3_isLate_3
  have l_18 := hts (.fieldLink RX3 18 "GlassRacks$Order" "cutDay" "I") (by decide +kernel)
  have l_33 := hts (.fieldLink RX3 33 "GlassRacks$Order" "day" "I") (by decide +kernel)
  have l_9 := hts (.fieldLink RX3 9 "GlassRacks$Order" "status" "I") (by decide +kernel)
  have hB19 : ∀ (ax0 : Nat) (vx0 : gOd) (x1 : Int32) (H : Heap) (locs : List Loc) (ls : Array Slot), f3_isLate_19 vx0 x1 = some ro → E ax0 = some (.inr vx0) → g_R G E μ H → va_S (g_A G) s.heap H locs → lv_has ls 2 [(0, .ref ax0), (1, .int x1)] → W p l e (headSpec wsX3_isLate ({ frames := 0, cells := 0, slots := 0, locals := 0 } : Room)).room s m ([.ref a0, .int p1] : List Value).toArray below meth c H locs 0 0 (MQ below (g_Q G E μ (fun E' v => E' = E ∧ v = some (.int ro))) ([.ref a0, .int p1] : List Value).toArray s 0 0 (g_A G)) (F0 m 19 ls []) := by
    intro ax0 vx0 x1 H locs ls hf hE_ax0 hR hS hl
    unfold f3_isLate_19 at hf
    refine lv_aload_n hx hb dX3_isLate_19 rfl (lv_at hl 0 rfl) ?_
    refine g_get hx hb hts in_3 hown hK ((hR.2.2.2.2.2 _ _ hE_ax0).2) rfl 5 (by decide) l_9 rfl rfl dX3_isLate_20 ?_
    refine lv_if_ne (tgt := 38) hx hb dX3_isLate_23 (by decide) (fun c2 => ?_) (fun c2 => ?_)
    · replace hf := g_it hf c2
      refine lv_iconst (v := 0) hx hb dX3_isLate_38 (by decide) ?_
      obtain rfl := g_s1 hf
      exact g_zret hx hb hlocks hr hS hR g_le.rf (by decide) ⟨rfl, rfl⟩ (by omega) (by omega) dX3_isLate_39
    · replace hf := g_if hf (fun q => q c2)
      refine lv_iload_n hx hb dX3_isLate_26 rfl (lv_at hl 1 rfl) ?_
      refine lv_aload_n hx hb dX3_isLate_27 rfl (lv_at hl 0 rfl) ?_
      refine g_get hx hb hts in_3 hown hK ((hR.2.2.2.2.2 _ _ hE_ax0).2) rfl 4 (by decide) l_33 rfl rfl dX3_isLate_28 ?_
      refine lv_icmp_le (tgt := 38) hx hb dX3_isLate_31 (by decide) (fun c3 => ?_) (fun c3 => ?_)
      · replace hf := g_it hf c3
        refine lv_iconst (v := 0) hx hb dX3_isLate_38 (by decide) ?_
        obtain rfl := g_s1 hf
        exact g_zret hx hb hlocks hr hS hR g_le.rf (by decide) ⟨rfl, rfl⟩ (by omega) (by omega) dX3_isLate_39
      · replace hf := g_if hf c3
        refine lv_iconst (v := 1) hx hb dX3_isLate_34 (by decide) ?_
        refine lv_goto (tgt := 39) hx hb dX3_isLate_35 (by decide) ?_
        obtain rfl := g_s1 hf
        exact g_zret hx hb hlocks hr hS hR g_le.rf (by decide) ⟨rfl, rfl⟩ (by omega) (by omega) dX3_isLate_39
  unfold f3_isLate at hf
  refine lv_aload_n hx hb dX3_isLate_0 rfl (lv_at hl 0 rfl) ?_
  refine g_get hx hb hts in_3 hown hK ((hR.2.2.2.2.2 _ _ hE_a0).2) rfl 5 (by decide) l_9 rfl rfl dX3_isLate_1 ?_
  refine lv_iconst (v := 1) hx hb dX3_isLate_4 (by decide) ?_
  refine lv_icmp_ne (tgt := 19) hx hb dX3_isLate_5 (by decide) (fun c1 => ?_) (fun c1 => ?_)
  · replace hf := g_it hf c1
    exact hB19 _ _ _ _ _ _ hf hE_a0 hR hS (lv_sub hl [0, 1] rfl)
  · replace hf := g_if hf (fun q => q c1)
    refine lv_aload_n hx hb dX3_isLate_8 rfl (lv_at hl 0 rfl) ?_
    refine g_get hx hb hts in_3 hown hK ((hR.2.2.2.2.2 _ _ hE_a0).2) rfl 7 (by decide) l_18 rfl rfl dX3_isLate_9 ?_
    refine lv_aload_n hx hb dX3_isLate_12 rfl (lv_at hl 0 rfl) ?_
    refine g_get hx hb hts in_3 hown hK ((hR.2.2.2.2.2 _ _ hE_a0).2) rfl 4 (by decide) l_33 rfl rfl dX3_isLate_13 ?_
    refine lv_icmp_gt (tgt := 34) hx hb dX3_isLate_16 (by decide) (fun c4 => ?_) (fun c4 => ?_)
    · replace hf := g_it hf c4
      refine lv_iconst (v := 1) hx hb dX3_isLate_34 (by decide) ?_
      refine lv_goto (tgt := 39) hx hb dX3_isLate_35 (by decide) ?_
      obtain rfl := g_s1 hf
      exact g_zret hx hb hlocks hr hS hR g_le.rf (by decide) ⟨rfl, rfl⟩ (by omega) (by omega) dX3_isLate_39
    · replace hf := g_if hf c4
      exact hB19 _ _ _ _ _ _ hf hE_a0 hR hS (lv_sub hl [0, 1] rfl)
set_option maxHeartbeats 4000000 in
set_option maxRecDepth 100000 in
theorem c3_isOpen (l : Launch) (G : gG) (E : gEn) (μ : gMu) (a0 : Nat) (v0 : gOd) (hE_a0 : E a0 = some (.inr v0)) (ro : Int32) (hf : f3_isOpen v0 = some ro) : Met l yX3_isOpen wsX3_isOpen ({ frames := 0, cells := 0, slots := 0, locals := 0 } : Room) (g_Pre G E μ [.ref a0]) (g_Q G E μ (fun E' v => E' = E ∧ v = some (.int ro))) 0 0 (g_A G) := by
  refine Met.ofW (cc := cX3_isOpen) (maxL := 1) (ret := some .boolean) (by decide) rfl ?_
  intro p e s m args below meth c s₁ B hml hv
  obtain ⟨rfl, hR, hK⟩ := hv
  have hx := B.exec
  have hb := B.bytes
  have hr := B.returns
  have hts := atoms_spec (ws := wsX3_isOpen) B.pre
  have hown : s.vm.findClass RX3 = some m.cls := findClass_of_methodNamed B.named
  have hlocks := B.notSynchronized
  have hS : va_S (g_A G) s.heap s.heap [] := va_S.rf
  have hl := lv_entry ([.ref a0]) (n := 1) (Nat.le_of_ble_eq_true rfl)
  rw [lg_entry_eq]
  generalize (lg_sl ([.ref a0]) ++ List.replicate (1 - (lg_sl ([.ref a0])).length) Slot.unset).toArray = ls at hl ⊢
  have hl : lv_has ls 1 [(0, .ref a0)] := hl
  have in_3 : ∀ w ∈ u_ws RX3 TX3 8, w ∈ wsX3_isOpen := ifX3_isOpen_3
  have l_9 := hts (.fieldLink RX3 9 "GlassRacks$Order" "status" "I") (by decide +kernel)
  unfold f3_isOpen at hf
  refine lv_aload_n hx hb dX3_isOpen_0 rfl (lv_at hl 0 rfl) ?_
  refine g_get hx hb hts in_3 hown hK ((hR.2.2.2.2.2 _ _ hE_a0).2) rfl 5 (by decide) l_9 rfl rfl dX3_isOpen_1 ?_
  refine lv_if_ne (tgt := 11) hx hb dX3_isOpen_4 (by decide) (fun c1 => ?_) (fun c1 => ?_)
  · replace hf := g_it hf c1
    refine lv_iconst (v := 0) hx hb dX3_isOpen_11 (by decide) ?_
    obtain rfl := g_s1 hf
    exact g_zret hx hb hlocks hr hS hR g_le.rf (by decide) ⟨rfl, rfl⟩ (by omega) (by omega) dX3_isOpen_12
  · replace hf := g_if hf (fun q => q c1)
    refine lv_iconst (v := 1) hx hb dX3_isOpen_7 (by decide) ?_
    refine lv_goto (tgt := 12) hx hb dX3_isOpen_8 (by decide) ?_
    obtain rfl := g_s1 hf
    exact g_zret hx hb hlocks hr hS hR g_le.rf (by decide) ⟨rfl, rfl⟩ (by omega) (by omega) dX3_isOpen_12
set_option maxHeartbeats 4000000 in
set_option maxRecDepth 100000 in
theorem c4_replace (l : Launch) (G : gG) (E : gEn) (μ : gMu) (i : Nat) (hi : i < 7) (z0 : gSt) (a1 : Nat) (v1 : gOd) (hE_a1 : E a1 = some (.inr v1)) (zo : gSt) (hf : f4_replace z0 v1 = some zo) : Met l yX4_replace wsX4_replace ({ frames := 0, cells := 0, slots := 0, locals := 0 } : Room) (g_Pre G E (g_setS μ i z0) [.ref (g_stA G i + 4), .ref a1]) (g_Q G E (g_setS μ i zo) (fun E' v => E' = E ∧ v = none)) 0 0 (g_A G) := by
  refine Met.ofW (cc := cX4_replace) (maxL := 2) (ret := none) (by decide) rfl ?_
  intro p e s m args below meth c s₁ B hml hv
  obtain ⟨rfl, hR, hK⟩ := hv
  have hx := B.exec
  have hb := B.bytes
  have hr := B.returns
  have hts := atoms_spec (ws := wsX4_replace) B.pre
  have hown : s.vm.findClass RX4 = some m.cls := findClass_of_methodNamed B.named
  have hlocks := B.notSynchronized
  have hS : va_S (g_A G) s.heap s.heap [] := va_S.rf
  have hl := lv_entry ([.ref (g_stA G i + 4), .ref a1]) (n := 2) (Nat.le_of_ble_eq_true rfl)
  rw [lg_entry_eq]
  generalize (lg_sl ([.ref (g_stA G i + 4), .ref a1]) ++ List.replicate (2 - (lg_sl ([.ref (g_stA G i + 4), .ref a1])).length) Slot.unset).toArray = ls at hl ⊢
  have hl : lv_has ls 2 [(0, .ref (g_stA G i + 4)), (1, .ref a1)] := hl
  have in_3 : ∀ w ∈ u_ws RX3 TX3 8, w ∈ wsX4_replace := ifX4_replace_3
  have in_4 : ∀ w ∈ u_ws RX4 TX4 2, w ∈ wsX4_replace := ifX4_replace_4
  have l_11 := hts (.fieldLink RX4 11 "GlassRacks$Orders" "list" "[LGlassRacks$Order;") (by decide +kernel)
  have l_32 := hts (.fieldLink RX4 32 "GlassRacks$Order" "number" "I") (by decide +kernel)
  unfold f4_replace at hf
  refine lv_aload_n hx hb dX4_replace_0 rfl (lv_at hl 1 rfl) ?_
  refine g_get hx hb hts in_3 hown hK ((hR.2.2.2.2.2 _ _ hE_a1).2) rfl 0 (by decide) l_32 rfl rfl dX4_replace_1 ?_
  refine lv_if_lt (tgt := 29) hx hb dX4_replace_4 (by decide) (fun c1 => ?_) (fun c1 => ?_)
  · replace hf := g_it hf c1
    obtain rfl := g_s1 hf
    exact g_vret hx hb hlocks hr hS hR g_le.rf ⟨rfl, rfl⟩ (by omega) (by omega) dX4_replace_29
  · replace hf := g_if hf c1
    refine lv_aload_n hx hb dX4_replace_7 rfl (lv_at hl 1 rfl) ?_
    refine g_get hx hb hts in_3 hown hK ((hR.2.2.2.2.2 _ _ hE_a1).2) rfl 0 (by decide) l_32 rfl rfl dX4_replace_8 ?_
    refine lv_aload_n hx hb dX4_replace_11 rfl (lv_at hl 0 rfl) ?_
    refine g_get hx hb hts in_4 hown hK (hR.f hi).2.2.2.2.1 rfl 0 (by decide) l_11 rfl rfl dX4_replace_12 ?_
    refine g_aolen hx hb hK (hR.f hi) dX4_replace_15 ?_
    refine lv_icmp_ge (tgt := 29) hx hb dX4_replace_16 (by decide) (fun c2 => ?_) (fun c2 => ?_)
    · replace hf := g_it hf c2
      obtain rfl := g_s1 hf
      exact g_vret hx hb hlocks hr hS hR g_le.rf ⟨rfl, rfl⟩ (by omega) (by omega) dX4_replace_29
    · replace hf := g_if hf c2
      refine lv_aload_n hx hb dX4_replace_19 rfl (lv_at hl 0 rfl) ?_
      refine g_get hx hb hts in_4 hown hK (hR.f hi).2.2.2.2.1 rfl 0 (by decide) l_11 rfl rfl dX4_replace_20 ?_
      refine lv_aload_n hx hb dX4_replace_23 rfl (lv_at hl 1 rfl) ?_
      refine g_get hx hb hts in_3 hown hK ((hR.2.2.2.2.2 _ _ hE_a1).2) rfl 0 (by decide) l_32 rfl rfl dX4_replace_24 ?_
      refine lv_aload_n hx hb dX4_replace_27 rfl (lv_at hl 1 rfl) ?_
      obtain ⟨hg3, hf⟩ := g_gd hf
      refine g_aost hx hb hK hS hR hi hE_a1 hg3 dX4_replace_28 (fun H locs hR hS => ?_)
      obtain ⟨z4, ez4, hf⟩ := g_let_e hf
      replace hR : g_R G E (g_setS μ i z4) H := by rw [ez4]; exact hR
      obtain rfl := g_s1 hf
      exact g_vret hx hb hlocks hr hS hR g_le.rf ⟨rfl, rfl⟩ (by omega) (by omega) dX4_replace_29
set_option maxHeartbeats 4000000 in
set_option maxRecDepth 100000 in
theorem c4_addNew (l : Launch) (G : gG) (E : gEn) (μ : gMu) (i : Nat) (hi : i < 7) (z0 : gSt) (p1 : Int32) (p2 : Int32) (p3 : Int32) (p4 : Int32) (ro : Int32) (zo : gSt) (hf : f4_addNew z0 p1 p2 p3 p4 = some (ro, zo)) : Met l yX4_addNew wsX4_addNew ({ frames := 2, cells := 1, slots := 8, locals := 41 } : Room) (g_Pre G E (g_setS μ i z0) [.ref (g_stA G i + 4), .int p1, .int p2, .int p3, .int p4]) (g_Q G E (g_setS μ i zo) (fun E' v => v = some (.int ro))) 1 8 (g_A G) := by
  refine Met.ofW (cc := cX4_addNew) (maxL := 6) (ret := some .int) (by decide) rfl ?_
  intro p e s m args below meth c s₁ B hml hv
  obtain ⟨rfl, hR, hK⟩ := hv
  have hx := B.exec
  have hb := B.bytes
  have hr := B.returns
  have hts := atoms_spec (ws := wsX4_addNew) B.pre
  have hown : s.vm.findClass RX4 = some m.cls := findClass_of_methodNamed B.named
  have hlocks := B.notSynchronized
  have hS : va_S (g_A G) s.heap s.heap [] := va_S.rf
  have hl := lv_entry ([.ref (g_stA G i + 4), .int p1, .int p2, .int p3, .int p4]) (n := 6) (Nat.le_of_ble_eq_true rfl)
  rw [lg_entry_eq]
  generalize (lg_sl ([.ref (g_stA G i + 4), .int p1, .int p2, .int p3, .int p4]) ++ List.replicate (6 - (lg_sl ([.ref (g_stA G i + 4), .int p1, .int p2, .int p3, .int p4])).length) Slot.unset).toArray = ls at hl ⊢
  have hl : lv_has ls 6 [(0, .ref (g_stA G i + 4)), (1, .int p1), (2, .int p2), (3, .int p3), (4, .int p4)] := hl
  have in_3 : ∀ w ∈ u_ws RX3 TX3 8, w ∈ wsX4_addNew := ifX4_addNew_3
  have in_4 : ∀ w ∈ u_ws RX4 TX4 2, w ∈ wsX4_addNew := ifX4_addNew_4
  have l_17 := hts (.fieldLink RX4 17 "GlassRacks$Orders" "taken" "I") (by decide +kernel)
  have n_9 := hts (.classLink RX4 9 RX3) (by decide +kernel)
  have n2_9 := hts (.instantiable RX3 8) (by decide +kernel)
  have n3_9 := hts (.initialized RX3) (by decide +kernel)
  have i1_25 := hts (.initialized RX3) (by decide +kernel)
  have i2_25 := hts (.methodLink RX4 25 yX3_init) (by decide +kernel)
  have i3_25 := hts (.instanceMethod yX3_init) (by decide +kernel)
  unfold f4_addNew at hf
  refine lv_aload_n hx hb dX4_addNew_0 rfl (lv_at hl 0 rfl) ?_
  refine g_get hx hb hts in_4 hown hK (hR.f hi).2.2.2.2.1 rfl 1 (by decide) l_17 rfl rfl dX4_addNew_1 ?_
  refine lv_topi (fun t1 et1 => ?_)
  replace hf := g_let_at hf et1
  refine lv_istore (lv' := [(5, .int t1), (0, .ref (g_stA G i + 4)), (1, .int p1), (2, .int p2), (3, .int p3), (4, .int p4)]) hx hb dX4_addNew_4 hl (by decide) rfl (fun ls hl => ?_)
  refine lv_aload_n hx hb dX4_addNew_6 rfl (lv_at hl 1 rfl) ?_
  refine lv_dup hx hb dX4_addNew_7 rfl ?_
  refine g_get hx hb hts in_4 hown hK (hR.f hi).2.2.2.2.1 rfl 1 (by decide) l_17 rfl rfl dX4_addNew_8 ?_
  refine lv_iconst (v := 1) hx hb dX4_addNew_11 (by decide) ?_
  refine lv_iadd hx hb dX4_addNew_12 ?_
  refine g_p4_1 hx hb hts in_4 hown hK hS hR hi l_17 dX4_addNew_13 (fun H locs hR hS => ?_)
  obtain ⟨z2, ez2, hf⟩ := g_let_e hf
  replace hR : g_R G E (g_setS μ i z2) H := by rw [ez2]; exact hR
  refine lv_aload_n hx hb dX4_addNew_16 rfl (lv_at hl 1 rfl) ?_
  refine g_new (ci := 3) (fs := [.int 0, .int 0, .int 0, .int 0, .int 0, .int 0, .int 0, .int 0]) hx hb hts in_3 tyX3_ok hown n_9 n2_9 n3_9 hK hR hS rfl (fun j hj => by rcases (show j = 0 ∨ j = 1 ∨ j = 2 ∨ j = 3 ∨ j = 4 ∨ j = 5 ∨ j = 6 ∨ j = 7 by omega) with rfl | rfl | rfl | rfl | rfl | rfl | rfl | rfl <;> rfl) (by show _ ≤ 1; omega) (by show _ ≤ 8; omega) dX4_addNew_17 (fun a3 H ge_a3 nn_a3 hq_a3 hR hS => ?_)
  refine lv_dup hx hb dX4_addNew_20 rfl ?_
  refine lv_iload hx hb dX4_addNew_21 (lv_at hl 0 rfl) ?_
  refine lv_iload_n hx hb dX4_addNew_23 rfl (lv_at hl 2 rfl) ?_
  refine lv_iload_n hx hb dX4_addNew_24 rfl (lv_at hl 3 rfl) ?_
  refine lv_iload_n hx hb dX4_addNew_25 rfl (lv_at hl 4 rfl) ?_
  refine lv_iload hx hb dX4_addNew_26 (lv_at hl 5 rfl) ?_
  refine g_calli (va_runI (As := [.int t1, .int p1, .int p2, .int p3, .int p4]) (rest := [.ref a3, .ref (g_stA G i + 4)]) ⟨hx, hb, hml, hown, hts⟩ (c3_init l G E (g_setS μ i z2) a3 ge_a3 nn_a3 t1 p1 p2 p3 p4) (cwI 5 hts gX4_addNew_X3_init rfl rfl rfl i1_25 i2_25 i3_25 rfl (by decide +kernel) ⟨Nat.le_of_ble_eq_true rfl, Nat.le_of_ble_eq_true rfl⟩) (g_preR hR hK hq_a3) rfl rfl hl.1 rfl (lv_room (Nat.le_of_ble_eq_true rfl)) dX4_addNew_28 ⟨by show _ ≤ 1; omega, by show _ ≤ 8; omega⟩) hS (fun w5 H locs hp hq4 hR hS => ?_)
  subst hp
  obtain ⟨hle8, hE_a3, hR⟩ := hR.join ge_a3 nn_a3 (o := .inr (t1, p1, p2, p3, p4, (0 : Int32), (-5 : Int32), (-5 : Int32))) hq4
  generalize hee : va_up E a3 (some (.inr (t1, p1, p2, p3, p4, (0 : Int32), (-5 : Int32), (-5 : Int32)))) = E7 at hle8 hE_a3 hR
  clear hee
  obtain ⟨z9, hc10, hf⟩ := g_b1_e hf
  refine g_call (va_runV (As := [.ref a3]) (rest := []) ⟨hx, hb, hml, hown, hts⟩ (c4_replace l G E7 μ i hi _ _ _ hE_a3 _ hc10) (cwV 1 hts gX4_addNew_X4_replace rfl rfl rfl (by decide +kernel) ⟨Nat.le_of_ble_eq_true rfl, Nat.le_of_ble_eq_true rfl⟩) (g_preV (ci := 4) hR hK ((hR.f hi).2.2.2.2.1) rfl) rfl rfl hl.1 rfl (lv_room (Nat.le_of_ble_eq_true rfl)) dX4_addNew_31 ⟨by show _ ≤ 1; omega, by show _ ≤ 8; omega⟩) hS (fun w11 H locs hp hR hS => ?_)
  subst hp
  refine lv_iload hx hb dX4_addNew_34 (lv_at hl 0 rfl) ?_
  obtain ⟨rfl, rfl⟩ := g_sp hf
  exact g_iret hx hb hlocks hr hS hR ((g_le.rf).tr hle8) rfl (by omega) (by omega) dX4_addNew_36
set_option maxHeartbeats 4000000 in
set_option maxRecDepth 100000 in
theorem c4_isFull (l : Launch) (G : gG) (E : gEn) (μ : gMu) (i : Nat) (hi : i < 7) (z0 : gSt)  (ro : Int32) (hf : f4_isFull z0 = some ro) : Met l yX4_isFull wsX4_isFull ({ frames := 0, cells := 0, slots := 0, locals := 0 } : Room) (g_Pre G E (g_setS μ i z0) [.ref (g_stA G i + 4)]) (g_Q G E (g_setS μ i z0) (fun E' v => E' = E ∧ v = some (.int ro))) 0 0 (g_A G) := by
  refine Met.ofW (cc := cX4_isFull) (maxL := 1) (ret := some .boolean) (by decide) rfl ?_
  intro p e s m args below meth c s₁ B hml hv
  obtain ⟨rfl, hR, hK⟩ := hv
  have hx := B.exec
  have hb := B.bytes
  have hr := B.returns
  have hts := atoms_spec (ws := wsX4_isFull) B.pre
  have hown : s.vm.findClass RX4 = some m.cls := findClass_of_methodNamed B.named
  have hlocks := B.notSynchronized
  have hS : va_S (g_A G) s.heap s.heap [] := va_S.rf
  have hl := lv_entry ([.ref (g_stA G i + 4)]) (n := 1) (Nat.le_of_ble_eq_true rfl)
  rw [lg_entry_eq]
  generalize (lg_sl ([.ref (g_stA G i + 4)]) ++ List.replicate (1 - (lg_sl ([.ref (g_stA G i + 4)])).length) Slot.unset).toArray = ls at hl ⊢
  have hl : lv_has ls 1 [(0, .ref (g_stA G i + 4))] := hl
  have in_4 : ∀ w ∈ u_ws RX4 TX4 2, w ∈ wsX4_isFull := ifX4_isFull_4
  have l_17 := hts (.fieldLink RX4 17 "GlassRacks$Orders" "taken" "I") (by decide +kernel)
  unfold f4_isFull at hf
  refine lv_aload_n hx hb dX4_isFull_0 rfl (lv_at hl 0 rfl) ?_
  refine g_get hx hb hts in_4 hown hK (hR.f hi).2.2.2.2.1 rfl 1 (by decide) l_17 rfl rfl dX4_isFull_1 ?_
  refine lv_bipush (v := 12) hx hb dX4_isFull_4 (by decide) ?_
  refine lv_icmp_lt (tgt := 13) hx hb dX4_isFull_6 (by decide) (fun c1 => ?_) (fun c1 => ?_)
  · replace hf := g_it hf c1
    refine lv_iconst (v := 0) hx hb dX4_isFull_13 (by decide) ?_
    obtain rfl := g_s1 hf
    exact g_zret hx hb hlocks hr hS hR g_le.rf (by decide) ⟨rfl, rfl⟩ (by omega) (by omega) dX4_isFull_14
  · replace hf := g_if hf c1
    refine lv_iconst (v := 1) hx hb dX4_isFull_9 (by decide) ?_
    refine lv_goto (tgt := 14) hx hb dX4_isFull_10 (by decide) ?_
    obtain rfl := g_s1 hf
    exact g_zret hx hb hlocks hr hS hR g_le.rf (by decide) ⟨rfl, rfl⟩ (by omega) (by omega) dX4_isFull_14
set_option maxHeartbeats 4000000 in
set_option maxRecDepth 100000 in
theorem c4_lateOnes (l : Launch) (G : gG) (E : gEn) (μ : gMu) (i : Nat) (hi : i < 7) (z0 : gSt) (p1 : Int32) (ro : Int32) (hf : f4_lateOnes z0 p1 = some ro) : Met l yX4_lateOnes wsX4_lateOnes ({ frames := 1, cells := 0, slots := 0, locals := 21 } : Room) (g_Pre G E (g_setS μ i z0) [.ref (g_stA G i + 4), .int p1]) (g_Q G E (g_setS μ i z0) (fun E' v => E' = E ∧ v = some (.int ro))) 0 0 (g_A G) := by
  refine Met.ofW (cc := cX4_lateOnes) (maxL := 5) (ret := some .int) (by decide) rfl ?_
  intro p e s m args below meth c s₁ B hml hv
  obtain ⟨rfl, hR, hK⟩ := hv
  have hx := B.exec
  have hb := B.bytes
  have hr := B.returns
  have hts := atoms_spec (ws := wsX4_lateOnes) B.pre
  have hown : s.vm.findClass RX4 = some m.cls := findClass_of_methodNamed B.named
  have hlocks := B.notSynchronized
  have hS : va_S (g_A G) s.heap s.heap [] := va_S.rf
  have hl := lv_entry ([.ref (g_stA G i + 4), .int p1]) (n := 5) (Nat.le_of_ble_eq_true rfl)
  rw [lg_entry_eq]
  generalize (lg_sl ([.ref (g_stA G i + 4), .int p1]) ++ List.replicate (5 - (lg_sl ([.ref (g_stA G i + 4), .int p1])).length) Slot.unset).toArray = ls at hl ⊢
  have hl : lv_has ls 5 [(0, .ref (g_stA G i + 4)), (1, .int p1)] := hl
  have in_4 : ∀ w ∈ u_ws RX4 TX4 2, w ∈ wsX4_lateOnes := ifX4_lateOnes_4
  have l_11 := hts (.fieldLink RX4 11 "GlassRacks$Orders" "list" "[LGlassRacks$Order;") (by decide +kernel)
  have hB4 : ∀ (n : Nat) (z0 : gSt) (x1 : Int32) (x2 : Int32) (x3 : Int32) (H : Heap) (locs : List Loc) (ls : Array Slot), f4_lateOnes_4 n z0 x1 x2 x3 = some ro → g_R G E (g_setS μ i z0) H → va_S (g_A G) s.heap H locs → lv_has ls 5 [(0, .ref (g_stA G i + 4)), (1, .int x1), (2, .int x2), (3, .int x3)] → W p l e (headSpec wsX4_lateOnes ({ frames := 1, cells := 0, slots := 0, locals := 21 } : Room)).room s m ([.ref (g_stA G i + 4), .int p1] : List Value).toArray below meth c H locs 0 0 (MQ below (g_Q G E (g_setS μ i z0) (fun E' v => E' = E ∧ v = some (.int ro))) ([.ref (g_stA G i + 4), .int p1] : List Value).toArray s 0 0 (g_A G)) (F0 m 4 ls []) := by
    intro n
    induction n with
    | zero =>
      intro z0 x1 x2 x3 H locs ls hf
      rw [f4_lateOnes_4] at hf
      cases hf
    | succ n ih =>
      intro z0 x1 x2 x3 H locs ls hf  hR hS hl
      rw [f4_lateOnes_4] at hf
      refine lv_iload_n hx hb dX4_lateOnes_4 rfl (lv_at hl 3 rfl) ?_
      refine lv_aload_n hx hb dX4_lateOnes_5 rfl (lv_at hl 0 rfl) ?_
      refine g_get hx hb hts in_4 hown hK (hR.f hi).2.2.2.2.1 rfl 0 (by decide) l_11 rfl rfl dX4_lateOnes_6 ?_
      refine g_aolen hx hb hK (hR.f hi) dX4_lateOnes_9 ?_
      refine lv_icmp_ge (tgt := 44) hx hb dX4_lateOnes_10 (by decide) (fun c1 => ?_) (fun c1 => ?_)
      · replace hf := g_it hf c1
        refine lv_iload_n hx hb dX4_lateOnes_44 rfl (lv_at hl 2 rfl) ?_
        obtain rfl := g_s1 hf
        exact g_iret hx hb hlocks hr hS hR g_le.rf ⟨rfl, rfl⟩ (by omega) (by omega) dX4_lateOnes_45
      · replace hf := g_if hf c1
        refine lv_aload_n hx hb dX4_lateOnes_13 rfl (lv_at hl 0 rfl) ?_
        refine g_get hx hb hts in_4 hown hK (hR.f hi).2.2.2.2.1 rfl 0 (by decide) l_11 rfl rfl dX4_lateOnes_14 ?_
        refine lv_iload_n hx hb dX4_lateOnes_17 rfl (lv_at hl 3 rfl) ?_
        obtain ⟨hg2, hf⟩ := g_gd hf
        refine g_aold hx hb hK (hR.f hi) hg2 dX4_lateOnes_18 (fun hnn => ?_) (fun v3 a4 hnn hE_a4 => ?_)
        · replace hf := g_ocn hf hnn
          refine lv_astoreN (lv' := [(4, .null), (0, .ref (g_stA G i + 4)), (1, .int x1), (2, .int x2), (3, .int x3)]) hx hb dX4_lateOnes_19 hl (by decide) rfl (fun ls hl => ?_)
          refine lv_aloadN hx hb dX4_lateOnes_21 (lv_at hl 0 rfl) ?_
          refine lv_ifnullN (tgt := 38) hx hb dX4_lateOnes_23 (by decide) ?_
          refine lv_iinc (v := x3 + 1) (lv' := [(3, .int (x3 + 1)), (4, .null), (0, .ref (g_stA G i + 4)), (1, .int x1), (2, .int x2)]) hx hb dX4_lateOnes_38 hl (k := 4) rfl rfl (by decide) rfl (fun ls hl => ?_)
          refine lv_goto (tgt := 4) hx hb dX4_lateOnes_41 (by decide) ?_
          exact ih _ _ _ _ _ _ _ hf  hR hS (lv_sub hl [2, 3, 4, 0] rfl)
        · replace hf := g_ocs hf hnn
          refine lv_astore (lv' := [(4, .ref a4), (0, .ref (g_stA G i + 4)), (1, .int x1), (2, .int x2), (3, .int x3)]) hx hb dX4_lateOnes_19 hl (by decide) rfl (fun ls hl => ?_)
          refine lv_aload hx hb dX4_lateOnes_21 (lv_at hl 0 rfl) ?_
          refine lv_ifnull hx hb dX4_lateOnes_23 ?_
          refine lv_aload hx hb dX4_lateOnes_26 (lv_at hl 0 rfl) ?_
          refine lv_iload_n hx hb dX4_lateOnes_28 rfl (lv_at hl 2 rfl) ?_
          obtain ⟨r5, hc6, hf⟩ := g_b1_e hf
          refine g_call (va_runV (As := [.int x1]) (rest := []) ⟨hx, hb, hml, hown, hts⟩ (c3_isLate l G E (g_setS μ i z0) _ _ hE_a4 _ _ hc6) (cwV 1 hts gX4_lateOnes_X3_isLate rfl rfl rfl (by decide +kernel) ⟨Nat.le_of_ble_eq_true rfl, Nat.le_of_ble_eq_true rfl⟩) (g_preV (ci := 3) hR hK ((hR.2.2.2.2.2 _ _ hE_a4).2) rfl) rfl rfl hl.1 rfl (lv_room (Nat.le_of_ble_eq_true rfl)) dX4_lateOnes_29 ⟨by show _ ≤ 0; omega, by show _ ≤ 0; omega⟩) hS (fun w7 H locs hp hR hS => ?_)
          subst hp
          refine lv_if_eq (tgt := 38) hx hb dX4_lateOnes_32 (by decide) (fun c8 => ?_) (fun c8 => ?_)
          · replace hf := g_it hf c8
            refine lv_iinc (v := x3 + 1) (lv' := [(3, .int (x3 + 1)), (4, .ref a4), (0, .ref (g_stA G i + 4)), (1, .int x1), (2, .int x2)]) hx hb dX4_lateOnes_38 hl (k := 4) rfl rfl (by decide) rfl (fun ls hl => ?_)
            refine lv_goto (tgt := 4) hx hb dX4_lateOnes_41 (by decide) ?_
            exact ih _ _ _ _ _ _ _ hf  hR hS (lv_sub hl [2, 3, 4, 0] rfl)
          · replace hf := g_if hf c8
            refine lv_iinc (v := x2 + 1) (lv' := [(2, .int (x2 + 1)), (4, .ref a4), (0, .ref (g_stA G i + 4)), (1, .int x1), (3, .int x3)]) hx hb dX4_lateOnes_35 hl (k := 3) rfl rfl (by decide) rfl (fun ls hl => ?_)
            refine lv_iinc (v := x3 + 1) (lv' := [(3, .int (x3 + 1)), (2, .int (x2 + 1)), (4, .ref a4), (0, .ref (g_stA G i + 4)), (1, .int x1)]) hx hb dX4_lateOnes_38 hl (k := 4) rfl rfl (by decide) rfl (fun ls hl => ?_)
            refine lv_goto (tgt := 4) hx hb dX4_lateOnes_41 (by decide) ?_
            exact ih _ _ _ _ _ _ _ hf  hR hS (lv_sub hl [3, 4, 1, 0] rfl)
  unfold f4_lateOnes at hf
  refine lv_iconst (v := 0) hx hb dX4_lateOnes_0 (by decide) ?_
  refine lv_istore_n (lv' := [(2, .int (0 : Int32)), (0, .ref (g_stA G i + 4)), (1, .int p1)]) hx hb dX4_lateOnes_1 rfl hl (by decide) rfl (fun ls hl => ?_)
  refine lv_iconst (v := 0) hx hb dX4_lateOnes_2 (by decide) ?_
  refine lv_istore_n (lv' := [(3, .int (0 : Int32)), (2, .int (0 : Int32)), (0, .ref (g_stA G i + 4)), (1, .int p1)]) hx hb dX4_lateOnes_3 rfl hl (by decide) rfl (fun ls hl => ?_)
  exact hB4 70 _ _ _ _ _ _ _ hf  hR hS (lv_sub hl [2, 3, 1, 0] rfl)
set_option maxHeartbeats 4000000 in
set_option maxRecDepth 100000 in
theorem c4_nextOpen (l : Launch) (G : gG) (E : gEn) (μ : gMu) (i : Nat) (hi : i < 7) (z0 : gSt) (w1 : Value) (v1 : Option gOd) (hw_w1 : g_rv E .inr w1 v1) (ro : Option gOd) (hf : f4_nextOpen z0 v1 = some ro) : Met l yX4_nextOpen wsX4_nextOpen ({ frames := 2, cells := 0, slots := 0, locals := 41 } : Room) (g_Pre G E (g_setS μ i z0) [.ref (g_stA G i + 4), w1]) (g_Q G E (g_setS μ i z0) (fun E' v => E' = E ∧ ∃ w : Value, v = some w ∧ g_rv E .inr w ro)) 0 0 (g_A G) := by
  refine Met.ofW (cc := cX4_nextOpen) (maxL := 5) (ret := some (.object "GlassRacks$Order")) (by decide) rfl ?_
  intro p e s m args below meth c s₁ B hml hv
  obtain ⟨rfl, hR, hK⟩ := hv
  have hx := B.exec
  have hb := B.bytes
  have hr := B.returns
  have hts := atoms_spec (ws := wsX4_nextOpen) B.pre
  have hown : s.vm.findClass RX4 = some m.cls := findClass_of_methodNamed B.named
  have hlocks := B.notSynchronized
  have hS : va_S (g_A G) s.heap s.heap [] := va_S.rf
  have hl : lv_has ((lg_sl ([.ref (g_stA G i + 4), w1]) ++ List.replicate (5 - (lg_sl ([.ref (g_stA G i + 4), w1])).length) Slot.unset).toArray) 5 [(0, .ref (g_stA G i + 4)), (1, w1)] := by
    rcases v1 with _ | _
    · obtain rfl : w1 = .null := hw_w1
      exact lv_entry (n := 5) _ (Nat.le_of_ble_eq_true rfl)
    · obtain ⟨_, rfl, -⟩ := hw_w1
      exact lv_entry (n := 5) _ (Nat.le_of_ble_eq_true rfl)
  rw [lg_entry_eq]
  generalize (lg_sl ([.ref (g_stA G i + 4), w1]) ++ List.replicate (5 - (lg_sl ([.ref (g_stA G i + 4), w1])).length) Slot.unset).toArray = ls at hl ⊢
  have hl : lv_has ls 5 [(0, .ref (g_stA G i + 4)), (1, w1)] := hl
  have in_4 : ∀ w ∈ u_ws RX4 TX4 2, w ∈ wsX4_nextOpen := ifX4_nextOpen_4
  have l_11 := hts (.fieldLink RX4 11 "GlassRacks$Orders" "list" "[LGlassRacks$Order;") (by decide +kernel)
  have hB4 : ∀ (n : Nat) (z0 : gSt) (wx1 : Value) (vx1 : Option gOd) (wx2 : Value) (vx2 : Option gOd) (x3 : Int32) (H : Heap) (locs : List Loc) (ls : Array Slot), f4_nextOpen_4 n z0 vx1 vx2 x3 = some ro → g_rv E .inr wx1 vx1 → g_rv E .inr wx2 vx2 → g_R G E (g_setS μ i z0) H → va_S (g_A G) s.heap H locs → lv_has ls 5 [(0, .ref (g_stA G i + 4)), (1, wx1), (2, wx2), (3, .int x3)] → W p l e (headSpec wsX4_nextOpen ({ frames := 2, cells := 0, slots := 0, locals := 41 } : Room)).room s m ([.ref (g_stA G i + 4), w1] : List Value).toArray below meth c H locs 0 0 (MQ below (g_Q G E (g_setS μ i z0) (fun E' v => E' = E ∧ ∃ w : Value, v = some w ∧ g_rv E .inr w ro)) ([.ref (g_stA G i + 4), w1] : List Value).toArray s 0 0 (g_A G)) (F0 m 4 ls []) := by
    intro n
    induction n with
    | zero =>
      intro z0 wx1 vx1 wx2 vx2 x3 H locs ls hf
      rw [f4_nextOpen_4] at hf
      cases hf
    | succ n ih =>
      intro z0 wx1 vx1 wx2 vx2 x3 H locs ls hf hw_wx1 hw_wx2 hR hS hl
      rw [f4_nextOpen_4] at hf
      rcases hzz : vx1 with _ | v4
      · replace hf := g_ocn hf hzz
        rw [hzz] at hw_wx1
        obtain rfl : wx1 = .null := hw_wx1
        rcases hzz : vx2 with _ | v6
        · replace hf := g_ocn hf hzz
          rw [hzz] at hw_wx2
          obtain rfl : wx2 = .null := hw_wx2
          refine lv_iload_n hx hb dX4_nextOpen_4 rfl (lv_at hl 3 rfl) ?_
          refine lv_aload_n hx hb dX4_nextOpen_5 rfl (lv_at hl 0 rfl) ?_
          refine g_get hx hb hts in_4 hown hK (hR.f hi).2.2.2.2.1 rfl 0 (by decide) l_11 rfl rfl dX4_nextOpen_6 ?_
          refine g_aolen hx hb hK (hR.f hi) dX4_nextOpen_9 ?_
          refine lv_icmp_ge (tgt := 69) hx hb dX4_nextOpen_10 (by decide) (fun c7 => ?_) (fun c7 => ?_)
          · replace hf := g_it hf c7
            refine lv_aload_nN hx hb dX4_nextOpen_69 rfl (lv_at hl 2 rfl) ?_
            obtain rfl := g_s1 hf
            exact g_aret hx hb hlocks hr hS hR g_le.rf (Or.inl rfl) ⟨rfl, _, rfl, rfl⟩ (by omega) (by omega) dX4_nextOpen_70
          · replace hf := g_if hf c7
            refine lv_aload_n hx hb dX4_nextOpen_13 rfl (lv_at hl 0 rfl) ?_
            refine g_get hx hb hts in_4 hown hK (hR.f hi).2.2.2.2.1 rfl 0 (by decide) l_11 rfl rfl dX4_nextOpen_14 ?_
            refine lv_iload_n hx hb dX4_nextOpen_17 rfl (lv_at hl 3 rfl) ?_
            obtain ⟨hg8, hf⟩ := g_gd hf
            refine g_aold hx hb hK (hR.f hi) hg8 dX4_nextOpen_18 (fun hnn => ?_) (fun v9 a10 hnn hE_a10 => ?_)
            · replace hf := g_ocn hf hnn
              refine lv_astoreN (lv' := [(4, .null), (0, .ref (g_stA G i + 4)), (1, .null), (2, .null), (3, .int x3)]) hx hb dX4_nextOpen_19 hl (by decide) rfl (fun ls hl => ?_)
              refine lv_aloadN hx hb dX4_nextOpen_21 (lv_at hl 0 rfl) ?_
              refine lv_ifnullN (tgt := 63) hx hb dX4_nextOpen_23 (by decide) ?_
              refine lv_iinc (v := x3 + 1) (lv' := [(3, .int (x3 + 1)), (4, .null), (0, .ref (g_stA G i + 4)), (1, .null), (2, .null)]) hx hb dX4_nextOpen_63 hl (k := 4) rfl rfl (by decide) rfl (fun ls hl => ?_)
              refine lv_goto (tgt := 4) hx hb dX4_nextOpen_66 (by decide) ?_
              exact ih _ _ _ _ _ _ _ _ _ hf (show g_rv _ _ .null none from rfl) (show g_rv _ _ .null none from rfl) hR hS (lv_sub hl [2, 3, 4, 0] rfl)
            · replace hf := g_ocs hf hnn
              refine lv_astore (lv' := [(4, .ref a10), (0, .ref (g_stA G i + 4)), (1, .null), (2, .null), (3, .int x3)]) hx hb dX4_nextOpen_19 hl (by decide) rfl (fun ls hl => ?_)
              refine lv_aload hx hb dX4_nextOpen_21 (lv_at hl 0 rfl) ?_
              refine lv_ifnull hx hb dX4_nextOpen_23 ?_
              refine lv_aload hx hb dX4_nextOpen_26 (lv_at hl 0 rfl) ?_
              obtain ⟨r11, hc12, hf⟩ := g_b1_e hf
              refine g_call (va_runV (As := []) (rest := []) ⟨hx, hb, hml, hown, hts⟩ (c3_isOpen l G E (g_setS μ i z0) _ _ hE_a10 _ hc12) (cwV 0 hts gX4_nextOpen_X3_isOpen rfl rfl rfl (by decide +kernel) ⟨Nat.le_of_ble_eq_true rfl, Nat.le_of_ble_eq_true rfl⟩) (g_preV (ci := 3) hR hK ((hR.2.2.2.2.2 _ _ hE_a10).2) rfl) rfl rfl hl.1 rfl (lv_room (Nat.le_of_ble_eq_true rfl)) dX4_nextOpen_28 ⟨by show _ ≤ 0; omega, by show _ ≤ 0; omega⟩) hS (fun w13 H locs hp hR hS => ?_)
              subst hp
              refine lv_if_eq (tgt := 63) hx hb dX4_nextOpen_31 (by decide) (fun c14 => ?_) (fun c14 => ?_)
              · replace hf := g_it hf c14
                refine lv_iinc (v := x3 + 1) (lv' := [(3, .int (x3 + 1)), (4, .ref a10), (0, .ref (g_stA G i + 4)), (1, .null), (2, .null)]) hx hb dX4_nextOpen_63 hl (k := 4) rfl rfl (by decide) rfl (fun ls hl => ?_)
                refine lv_goto (tgt := 4) hx hb dX4_nextOpen_66 (by decide) ?_
                exact ih _ _ _ _ _ _ _ _ _ hf (show g_rv _ _ .null none from rfl) (show g_rv _ _ .null none from rfl) hR hS (lv_sub hl [2, 3, 4, 0] rfl)
              · replace hf := g_if hf c14
                refine lv_aload_nN hx hb dX4_nextOpen_34 rfl (lv_at hl 2 rfl) ?_
                refine lv_ifnullN (tgt := 47) hx hb dX4_nextOpen_35 (by decide) ?_
                refine lv_aload_nN hx hb dX4_nextOpen_47 rfl (lv_at hl 3 rfl) ?_
                refine lv_ifnullN (tgt := 60) hx hb dX4_nextOpen_48 (by decide) ?_
                refine lv_aload hx hb dX4_nextOpen_60 (lv_at hl 0 rfl) ?_
                refine lv_astore_n (lv' := [(2, .ref a10), (4, .ref a10), (0, .ref (g_stA G i + 4)), (1, .null), (3, .int x3)]) hx hb dX4_nextOpen_62 rfl hl (by decide) rfl (fun ls hl => ?_)
                refine lv_iinc (v := x3 + 1) (lv' := [(3, .int (x3 + 1)), (2, .ref a10), (4, .ref a10), (0, .ref (g_stA G i + 4)), (1, .null)]) hx hb dX4_nextOpen_63 hl (k := 4) rfl rfl (by decide) rfl (fun ls hl => ?_)
                refine lv_goto (tgt := 4) hx hb dX4_nextOpen_66 (by decide) ?_
                exact ih _ _ _ _ _ _ _ _ _ hf (show g_rv _ _ .null none from rfl) (show g_rv _ _ (.ref a10) (some v9) from ⟨_, rfl, hE_a10⟩) hR hS (lv_sub hl [3, 4, 1, 0] rfl)
        · replace hf := g_ocs hf hzz
          rw [hzz] at hw_wx2
          obtain ⟨a5, rfl, hE_a5⟩ : ∃ q : Nat, wx2 = .ref q ∧ E q = some (.inr v6) := hw_wx2
          refine lv_iload_n hx hb dX4_nextOpen_4 rfl (lv_at hl 3 rfl) ?_
          refine lv_aload_n hx hb dX4_nextOpen_5 rfl (lv_at hl 0 rfl) ?_
          refine g_get hx hb hts in_4 hown hK (hR.f hi).2.2.2.2.1 rfl 0 (by decide) l_11 rfl rfl dX4_nextOpen_6 ?_
          refine g_aolen hx hb hK (hR.f hi) dX4_nextOpen_9 ?_
          refine lv_icmp_ge (tgt := 69) hx hb dX4_nextOpen_10 (by decide) (fun c15 => ?_) (fun c15 => ?_)
          · replace hf := g_it hf c15
            refine lv_aload_n hx hb dX4_nextOpen_69 rfl (lv_at hl 2 rfl) ?_
            obtain rfl := g_s1 hf
            exact g_aret hx hb hlocks hr hS hR g_le.rf (Or.inr ⟨_, rfl⟩) ⟨rfl, _, rfl, _, rfl, hE_a5⟩ (by omega) (by omega) dX4_nextOpen_70
          · replace hf := g_if hf c15
            refine lv_aload_n hx hb dX4_nextOpen_13 rfl (lv_at hl 0 rfl) ?_
            refine g_get hx hb hts in_4 hown hK (hR.f hi).2.2.2.2.1 rfl 0 (by decide) l_11 rfl rfl dX4_nextOpen_14 ?_
            refine lv_iload_n hx hb dX4_nextOpen_17 rfl (lv_at hl 3 rfl) ?_
            obtain ⟨hg16, hf⟩ := g_gd hf
            refine g_aold hx hb hK (hR.f hi) hg16 dX4_nextOpen_18 (fun hnn => ?_) (fun v17 a18 hnn hE_a18 => ?_)
            · replace hf := g_ocn hf hnn
              refine lv_astoreN (lv' := [(4, .null), (0, .ref (g_stA G i + 4)), (1, .null), (2, .ref a5), (3, .int x3)]) hx hb dX4_nextOpen_19 hl (by decide) rfl (fun ls hl => ?_)
              refine lv_aloadN hx hb dX4_nextOpen_21 (lv_at hl 0 rfl) ?_
              refine lv_ifnullN (tgt := 63) hx hb dX4_nextOpen_23 (by decide) ?_
              refine lv_iinc (v := x3 + 1) (lv' := [(3, .int (x3 + 1)), (4, .null), (0, .ref (g_stA G i + 4)), (1, .null), (2, .ref a5)]) hx hb dX4_nextOpen_63 hl (k := 4) rfl rfl (by decide) rfl (fun ls hl => ?_)
              refine lv_goto (tgt := 4) hx hb dX4_nextOpen_66 (by decide) ?_
              exact ih _ _ _ _ _ _ _ _ _ hf (show g_rv _ _ .null none from rfl) (show g_rv _ _ (.ref a5) (some v6) from ⟨_, rfl, hE_a5⟩) hR hS (lv_sub hl [2, 3, 4, 0] rfl)
            · replace hf := g_ocs hf hnn
              refine lv_astore (lv' := [(4, .ref a18), (0, .ref (g_stA G i + 4)), (1, .null), (2, .ref a5), (3, .int x3)]) hx hb dX4_nextOpen_19 hl (by decide) rfl (fun ls hl => ?_)
              refine lv_aload hx hb dX4_nextOpen_21 (lv_at hl 0 rfl) ?_
              refine lv_ifnull hx hb dX4_nextOpen_23 ?_
              refine lv_aload hx hb dX4_nextOpen_26 (lv_at hl 0 rfl) ?_
              obtain ⟨r19, hc20, hf⟩ := g_b1_e hf
              refine g_call (va_runV (As := []) (rest := []) ⟨hx, hb, hml, hown, hts⟩ (c3_isOpen l G E (g_setS μ i z0) _ _ hE_a18 _ hc20) (cwV 0 hts gX4_nextOpen_X3_isOpen rfl rfl rfl (by decide +kernel) ⟨Nat.le_of_ble_eq_true rfl, Nat.le_of_ble_eq_true rfl⟩) (g_preV (ci := 3) hR hK ((hR.2.2.2.2.2 _ _ hE_a18).2) rfl) rfl rfl hl.1 rfl (lv_room (Nat.le_of_ble_eq_true rfl)) dX4_nextOpen_28 ⟨by show _ ≤ 0; omega, by show _ ≤ 0; omega⟩) hS (fun w21 H locs hp hR hS => ?_)
              subst hp
              refine lv_if_eq (tgt := 63) hx hb dX4_nextOpen_31 (by decide) (fun c22 => ?_) (fun c22 => ?_)
              · replace hf := g_it hf c22
                refine lv_iinc (v := x3 + 1) (lv' := [(3, .int (x3 + 1)), (4, .ref a18), (0, .ref (g_stA G i + 4)), (1, .null), (2, .ref a5)]) hx hb dX4_nextOpen_63 hl (k := 4) rfl rfl (by decide) rfl (fun ls hl => ?_)
                refine lv_goto (tgt := 4) hx hb dX4_nextOpen_66 (by decide) ?_
                exact ih _ _ _ _ _ _ _ _ _ hf (show g_rv _ _ .null none from rfl) (show g_rv _ _ (.ref a5) (some v6) from ⟨_, rfl, hE_a5⟩) hR hS (lv_sub hl [2, 3, 4, 0] rfl)
              · replace hf := g_if hf c22
                refine lv_aload_nN hx hb dX4_nextOpen_34 rfl (lv_at hl 2 rfl) ?_
                refine lv_ifnullN (tgt := 47) hx hb dX4_nextOpen_35 (by decide) ?_
                refine lv_aload_n hx hb dX4_nextOpen_47 rfl (lv_at hl 3 rfl) ?_
                refine lv_ifnull hx hb dX4_nextOpen_48 ?_
                refine lv_aload hx hb dX4_nextOpen_51 (lv_at hl 0 rfl) ?_
                refine lv_aload_n hx hb dX4_nextOpen_53 rfl (lv_at hl 3 rfl) ?_
                obtain ⟨r23, hc24, hf⟩ := g_b1_e hf
                refine g_call (va_runV (As := [.ref a5]) (rest := []) ⟨hx, hb, hml, hown, hts⟩ (c3_goesBefore l G E (g_setS μ i z0) _ _ hE_a18 _ _ hE_a5 _ hc24) (cwV 1 hts gX4_nextOpen_X3_goesBefore rfl rfl rfl (by decide +kernel) ⟨Nat.le_of_ble_eq_true rfl, Nat.le_of_ble_eq_true rfl⟩) (g_preV (ci := 3) hR hK ((hR.2.2.2.2.2 _ _ hE_a18).2) rfl) rfl rfl hl.1 rfl (lv_room (Nat.le_of_ble_eq_true rfl)) dX4_nextOpen_54 ⟨by show _ ≤ 0; omega, by show _ ≤ 0; omega⟩) hS (fun w25 H locs hp hR hS => ?_)
                subst hp
                refine lv_if_eq (tgt := 63) hx hb dX4_nextOpen_57 (by decide) (fun c26 => ?_) (fun c26 => ?_)
                · replace hf := g_it hf c26
                  refine lv_iinc (v := x3 + 1) (lv' := [(3, .int (x3 + 1)), (4, .ref a18), (0, .ref (g_stA G i + 4)), (1, .null), (2, .ref a5)]) hx hb dX4_nextOpen_63 hl (k := 4) rfl rfl (by decide) rfl (fun ls hl => ?_)
                  refine lv_goto (tgt := 4) hx hb dX4_nextOpen_66 (by decide) ?_
                  exact ih _ _ _ _ _ _ _ _ _ hf (show g_rv _ _ .null none from rfl) (show g_rv _ _ (.ref a5) (some v6) from ⟨_, rfl, hE_a5⟩) hR hS (lv_sub hl [2, 3, 4, 0] rfl)
                · replace hf := g_if hf c26
                  refine lv_aload hx hb dX4_nextOpen_60 (lv_at hl 0 rfl) ?_
                  refine lv_astore_n (lv' := [(2, .ref a18), (4, .ref a18), (0, .ref (g_stA G i + 4)), (1, .null), (3, .int x3)]) hx hb dX4_nextOpen_62 rfl hl (by decide) rfl (fun ls hl => ?_)
                  refine lv_iinc (v := x3 + 1) (lv' := [(3, .int (x3 + 1)), (2, .ref a18), (4, .ref a18), (0, .ref (g_stA G i + 4)), (1, .null)]) hx hb dX4_nextOpen_63 hl (k := 4) rfl rfl (by decide) rfl (fun ls hl => ?_)
                  refine lv_goto (tgt := 4) hx hb dX4_nextOpen_66 (by decide) ?_
                  exact ih _ _ _ _ _ _ _ _ _ hf (show g_rv _ _ .null none from rfl) (show g_rv _ _ (.ref a18) (some v17) from ⟨_, rfl, hE_a18⟩) hR hS (lv_sub hl [3, 4, 1, 0] rfl)
      · replace hf := g_ocs hf hzz
        rw [hzz] at hw_wx1
        obtain ⟨a3, rfl, hE_a3⟩ : ∃ q : Nat, wx1 = .ref q ∧ E q = some (.inr v4) := hw_wx1
        rcases hzz : vx2 with _ | v28
        · replace hf := g_ocn hf hzz
          rw [hzz] at hw_wx2
          obtain rfl : wx2 = .null := hw_wx2
          refine lv_iload_n hx hb dX4_nextOpen_4 rfl (lv_at hl 3 rfl) ?_
          refine lv_aload_n hx hb dX4_nextOpen_5 rfl (lv_at hl 0 rfl) ?_
          refine g_get hx hb hts in_4 hown hK (hR.f hi).2.2.2.2.1 rfl 0 (by decide) l_11 rfl rfl dX4_nextOpen_6 ?_
          refine g_aolen hx hb hK (hR.f hi) dX4_nextOpen_9 ?_
          refine lv_icmp_ge (tgt := 69) hx hb dX4_nextOpen_10 (by decide) (fun c29 => ?_) (fun c29 => ?_)
          · replace hf := g_it hf c29
            refine lv_aload_nN hx hb dX4_nextOpen_69 rfl (lv_at hl 2 rfl) ?_
            obtain rfl := g_s1 hf
            exact g_aret hx hb hlocks hr hS hR g_le.rf (Or.inl rfl) ⟨rfl, _, rfl, rfl⟩ (by omega) (by omega) dX4_nextOpen_70
          · replace hf := g_if hf c29
            refine lv_aload_n hx hb dX4_nextOpen_13 rfl (lv_at hl 0 rfl) ?_
            refine g_get hx hb hts in_4 hown hK (hR.f hi).2.2.2.2.1 rfl 0 (by decide) l_11 rfl rfl dX4_nextOpen_14 ?_
            refine lv_iload_n hx hb dX4_nextOpen_17 rfl (lv_at hl 3 rfl) ?_
            obtain ⟨hg30, hf⟩ := g_gd hf
            refine g_aold hx hb hK (hR.f hi) hg30 dX4_nextOpen_18 (fun hnn => ?_) (fun v31 a32 hnn hE_a32 => ?_)
            · replace hf := g_ocn hf hnn
              refine lv_astoreN (lv' := [(4, .null), (0, .ref (g_stA G i + 4)), (1, .ref a3), (2, .null), (3, .int x3)]) hx hb dX4_nextOpen_19 hl (by decide) rfl (fun ls hl => ?_)
              refine lv_aloadN hx hb dX4_nextOpen_21 (lv_at hl 0 rfl) ?_
              refine lv_ifnullN (tgt := 63) hx hb dX4_nextOpen_23 (by decide) ?_
              refine lv_iinc (v := x3 + 1) (lv' := [(3, .int (x3 + 1)), (4, .null), (0, .ref (g_stA G i + 4)), (1, .ref a3), (2, .null)]) hx hb dX4_nextOpen_63 hl (k := 4) rfl rfl (by decide) rfl (fun ls hl => ?_)
              refine lv_goto (tgt := 4) hx hb dX4_nextOpen_66 (by decide) ?_
              exact ih _ _ _ _ _ _ _ _ _ hf (show g_rv _ _ (.ref a3) (some v4) from ⟨_, rfl, hE_a3⟩) (show g_rv _ _ .null none from rfl) hR hS (lv_sub hl [2, 3, 4, 0] rfl)
            · replace hf := g_ocs hf hnn
              refine lv_astore (lv' := [(4, .ref a32), (0, .ref (g_stA G i + 4)), (1, .ref a3), (2, .null), (3, .int x3)]) hx hb dX4_nextOpen_19 hl (by decide) rfl (fun ls hl => ?_)
              refine lv_aload hx hb dX4_nextOpen_21 (lv_at hl 0 rfl) ?_
              refine lv_ifnull hx hb dX4_nextOpen_23 ?_
              refine lv_aload hx hb dX4_nextOpen_26 (lv_at hl 0 rfl) ?_
              obtain ⟨r33, hc34, hf⟩ := g_b1_e hf
              refine g_call (va_runV (As := []) (rest := []) ⟨hx, hb, hml, hown, hts⟩ (c3_isOpen l G E (g_setS μ i z0) _ _ hE_a32 _ hc34) (cwV 0 hts gX4_nextOpen_X3_isOpen rfl rfl rfl (by decide +kernel) ⟨Nat.le_of_ble_eq_true rfl, Nat.le_of_ble_eq_true rfl⟩) (g_preV (ci := 3) hR hK ((hR.2.2.2.2.2 _ _ hE_a32).2) rfl) rfl rfl hl.1 rfl (lv_room (Nat.le_of_ble_eq_true rfl)) dX4_nextOpen_28 ⟨by show _ ≤ 0; omega, by show _ ≤ 0; omega⟩) hS (fun w35 H locs hp hR hS => ?_)
              subst hp
              refine lv_if_eq (tgt := 63) hx hb dX4_nextOpen_31 (by decide) (fun c36 => ?_) (fun c36 => ?_)
              · replace hf := g_it hf c36
                refine lv_iinc (v := x3 + 1) (lv' := [(3, .int (x3 + 1)), (4, .ref a32), (0, .ref (g_stA G i + 4)), (1, .ref a3), (2, .null)]) hx hb dX4_nextOpen_63 hl (k := 4) rfl rfl (by decide) rfl (fun ls hl => ?_)
                refine lv_goto (tgt := 4) hx hb dX4_nextOpen_66 (by decide) ?_
                exact ih _ _ _ _ _ _ _ _ _ hf (show g_rv _ _ (.ref a3) (some v4) from ⟨_, rfl, hE_a3⟩) (show g_rv _ _ .null none from rfl) hR hS (lv_sub hl [2, 3, 4, 0] rfl)
              · replace hf := g_if hf c36
                refine lv_aload_n hx hb dX4_nextOpen_34 rfl (lv_at hl 2 rfl) ?_
                refine lv_ifnull hx hb dX4_nextOpen_35 ?_
                refine lv_aload_n hx hb dX4_nextOpen_38 rfl (lv_at hl 2 rfl) ?_
                refine lv_aload hx hb dX4_nextOpen_39 (lv_at hl 0 rfl) ?_
                obtain ⟨r37, hc38, hf⟩ := g_b1_e hf
                refine g_call (va_runV (As := [.ref a32]) (rest := []) ⟨hx, hb, hml, hown, hts⟩ (c3_goesBefore l G E (g_setS μ i z0) _ _ hE_a3 _ _ hE_a32 _ hc38) (cwV 1 hts gX4_nextOpen_X3_goesBefore rfl rfl rfl (by decide +kernel) ⟨Nat.le_of_ble_eq_true rfl, Nat.le_of_ble_eq_true rfl⟩) (g_preV (ci := 3) hR hK ((hR.2.2.2.2.2 _ _ hE_a3).2) rfl) rfl rfl hl.1 rfl (lv_room (Nat.le_of_ble_eq_true rfl)) dX4_nextOpen_41 ⟨by show _ ≤ 0; omega, by show _ ≤ 0; omega⟩) hS (fun w39 H locs hp hR hS => ?_)
                subst hp
                refine lv_if_eq (tgt := 63) hx hb dX4_nextOpen_44 (by decide) (fun c40 => ?_) (fun c40 => ?_)
                · replace hf := g_it hf c40
                  refine lv_iinc (v := x3 + 1) (lv' := [(3, .int (x3 + 1)), (4, .ref a32), (0, .ref (g_stA G i + 4)), (1, .ref a3), (2, .null)]) hx hb dX4_nextOpen_63 hl (k := 4) rfl rfl (by decide) rfl (fun ls hl => ?_)
                  refine lv_goto (tgt := 4) hx hb dX4_nextOpen_66 (by decide) ?_
                  exact ih _ _ _ _ _ _ _ _ _ hf (show g_rv _ _ (.ref a3) (some v4) from ⟨_, rfl, hE_a3⟩) (show g_rv _ _ .null none from rfl) hR hS (lv_sub hl [2, 3, 4, 0] rfl)
                · replace hf := g_if hf c40
                  refine lv_aload_nN hx hb dX4_nextOpen_47 rfl (lv_at hl 3 rfl) ?_
                  refine lv_ifnullN (tgt := 60) hx hb dX4_nextOpen_48 (by decide) ?_
                  refine lv_aload hx hb dX4_nextOpen_60 (lv_at hl 0 rfl) ?_
                  refine lv_astore_n (lv' := [(2, .ref a32), (4, .ref a32), (0, .ref (g_stA G i + 4)), (1, .ref a3), (3, .int x3)]) hx hb dX4_nextOpen_62 rfl hl (by decide) rfl (fun ls hl => ?_)
                  refine lv_iinc (v := x3 + 1) (lv' := [(3, .int (x3 + 1)), (2, .ref a32), (4, .ref a32), (0, .ref (g_stA G i + 4)), (1, .ref a3)]) hx hb dX4_nextOpen_63 hl (k := 4) rfl rfl (by decide) rfl (fun ls hl => ?_)
                  refine lv_goto (tgt := 4) hx hb dX4_nextOpen_66 (by decide) ?_
                  exact ih _ _ _ _ _ _ _ _ _ hf (show g_rv _ _ (.ref a3) (some v4) from ⟨_, rfl, hE_a3⟩) (show g_rv _ _ (.ref a32) (some v31) from ⟨_, rfl, hE_a32⟩) hR hS (lv_sub hl [3, 4, 1, 0] rfl)
        · replace hf := g_ocs hf hzz
          rw [hzz] at hw_wx2
          obtain ⟨a27, rfl, hE_a27⟩ : ∃ q : Nat, wx2 = .ref q ∧ E q = some (.inr v28) := hw_wx2
          refine lv_iload_n hx hb dX4_nextOpen_4 rfl (lv_at hl 3 rfl) ?_
          refine lv_aload_n hx hb dX4_nextOpen_5 rfl (lv_at hl 0 rfl) ?_
          refine g_get hx hb hts in_4 hown hK (hR.f hi).2.2.2.2.1 rfl 0 (by decide) l_11 rfl rfl dX4_nextOpen_6 ?_
          refine g_aolen hx hb hK (hR.f hi) dX4_nextOpen_9 ?_
          refine lv_icmp_ge (tgt := 69) hx hb dX4_nextOpen_10 (by decide) (fun c41 => ?_) (fun c41 => ?_)
          · replace hf := g_it hf c41
            refine lv_aload_n hx hb dX4_nextOpen_69 rfl (lv_at hl 2 rfl) ?_
            obtain rfl := g_s1 hf
            exact g_aret hx hb hlocks hr hS hR g_le.rf (Or.inr ⟨_, rfl⟩) ⟨rfl, _, rfl, _, rfl, hE_a27⟩ (by omega) (by omega) dX4_nextOpen_70
          · replace hf := g_if hf c41
            refine lv_aload_n hx hb dX4_nextOpen_13 rfl (lv_at hl 0 rfl) ?_
            refine g_get hx hb hts in_4 hown hK (hR.f hi).2.2.2.2.1 rfl 0 (by decide) l_11 rfl rfl dX4_nextOpen_14 ?_
            refine lv_iload_n hx hb dX4_nextOpen_17 rfl (lv_at hl 3 rfl) ?_
            obtain ⟨hg42, hf⟩ := g_gd hf
            refine g_aold hx hb hK (hR.f hi) hg42 dX4_nextOpen_18 (fun hnn => ?_) (fun v43 a44 hnn hE_a44 => ?_)
            · replace hf := g_ocn hf hnn
              refine lv_astoreN (lv' := [(4, .null), (0, .ref (g_stA G i + 4)), (1, .ref a3), (2, .ref a27), (3, .int x3)]) hx hb dX4_nextOpen_19 hl (by decide) rfl (fun ls hl => ?_)
              refine lv_aloadN hx hb dX4_nextOpen_21 (lv_at hl 0 rfl) ?_
              refine lv_ifnullN (tgt := 63) hx hb dX4_nextOpen_23 (by decide) ?_
              refine lv_iinc (v := x3 + 1) (lv' := [(3, .int (x3 + 1)), (4, .null), (0, .ref (g_stA G i + 4)), (1, .ref a3), (2, .ref a27)]) hx hb dX4_nextOpen_63 hl (k := 4) rfl rfl (by decide) rfl (fun ls hl => ?_)
              refine lv_goto (tgt := 4) hx hb dX4_nextOpen_66 (by decide) ?_
              exact ih _ _ _ _ _ _ _ _ _ hf (show g_rv _ _ (.ref a3) (some v4) from ⟨_, rfl, hE_a3⟩) (show g_rv _ _ (.ref a27) (some v28) from ⟨_, rfl, hE_a27⟩) hR hS (lv_sub hl [2, 3, 4, 0] rfl)
            · replace hf := g_ocs hf hnn
              refine lv_astore (lv' := [(4, .ref a44), (0, .ref (g_stA G i + 4)), (1, .ref a3), (2, .ref a27), (3, .int x3)]) hx hb dX4_nextOpen_19 hl (by decide) rfl (fun ls hl => ?_)
              refine lv_aload hx hb dX4_nextOpen_21 (lv_at hl 0 rfl) ?_
              refine lv_ifnull hx hb dX4_nextOpen_23 ?_
              refine lv_aload hx hb dX4_nextOpen_26 (lv_at hl 0 rfl) ?_
              obtain ⟨r45, hc46, hf⟩ := g_b1_e hf
              refine g_call (va_runV (As := []) (rest := []) ⟨hx, hb, hml, hown, hts⟩ (c3_isOpen l G E (g_setS μ i z0) _ _ hE_a44 _ hc46) (cwV 0 hts gX4_nextOpen_X3_isOpen rfl rfl rfl (by decide +kernel) ⟨Nat.le_of_ble_eq_true rfl, Nat.le_of_ble_eq_true rfl⟩) (g_preV (ci := 3) hR hK ((hR.2.2.2.2.2 _ _ hE_a44).2) rfl) rfl rfl hl.1 rfl (lv_room (Nat.le_of_ble_eq_true rfl)) dX4_nextOpen_28 ⟨by show _ ≤ 0; omega, by show _ ≤ 0; omega⟩) hS (fun w47 H locs hp hR hS => ?_)
              subst hp
              refine lv_if_eq (tgt := 63) hx hb dX4_nextOpen_31 (by decide) (fun c48 => ?_) (fun c48 => ?_)
              · replace hf := g_it hf c48
                refine lv_iinc (v := x3 + 1) (lv' := [(3, .int (x3 + 1)), (4, .ref a44), (0, .ref (g_stA G i + 4)), (1, .ref a3), (2, .ref a27)]) hx hb dX4_nextOpen_63 hl (k := 4) rfl rfl (by decide) rfl (fun ls hl => ?_)
                refine lv_goto (tgt := 4) hx hb dX4_nextOpen_66 (by decide) ?_
                exact ih _ _ _ _ _ _ _ _ _ hf (show g_rv _ _ (.ref a3) (some v4) from ⟨_, rfl, hE_a3⟩) (show g_rv _ _ (.ref a27) (some v28) from ⟨_, rfl, hE_a27⟩) hR hS (lv_sub hl [2, 3, 4, 0] rfl)
              · replace hf := g_if hf c48
                refine lv_aload_n hx hb dX4_nextOpen_34 rfl (lv_at hl 2 rfl) ?_
                refine lv_ifnull hx hb dX4_nextOpen_35 ?_
                refine lv_aload_n hx hb dX4_nextOpen_38 rfl (lv_at hl 2 rfl) ?_
                refine lv_aload hx hb dX4_nextOpen_39 (lv_at hl 0 rfl) ?_
                obtain ⟨r49, hc50, hf⟩ := g_b1_e hf
                refine g_call (va_runV (As := [.ref a44]) (rest := []) ⟨hx, hb, hml, hown, hts⟩ (c3_goesBefore l G E (g_setS μ i z0) _ _ hE_a3 _ _ hE_a44 _ hc50) (cwV 1 hts gX4_nextOpen_X3_goesBefore rfl rfl rfl (by decide +kernel) ⟨Nat.le_of_ble_eq_true rfl, Nat.le_of_ble_eq_true rfl⟩) (g_preV (ci := 3) hR hK ((hR.2.2.2.2.2 _ _ hE_a3).2) rfl) rfl rfl hl.1 rfl (lv_room (Nat.le_of_ble_eq_true rfl)) dX4_nextOpen_41 ⟨by show _ ≤ 0; omega, by show _ ≤ 0; omega⟩) hS (fun w51 H locs hp hR hS => ?_)
                subst hp
                refine lv_if_eq (tgt := 63) hx hb dX4_nextOpen_44 (by decide) (fun c52 => ?_) (fun c52 => ?_)
                · replace hf := g_it hf c52
                  refine lv_iinc (v := x3 + 1) (lv' := [(3, .int (x3 + 1)), (4, .ref a44), (0, .ref (g_stA G i + 4)), (1, .ref a3), (2, .ref a27)]) hx hb dX4_nextOpen_63 hl (k := 4) rfl rfl (by decide) rfl (fun ls hl => ?_)
                  refine lv_goto (tgt := 4) hx hb dX4_nextOpen_66 (by decide) ?_
                  exact ih _ _ _ _ _ _ _ _ _ hf (show g_rv _ _ (.ref a3) (some v4) from ⟨_, rfl, hE_a3⟩) (show g_rv _ _ (.ref a27) (some v28) from ⟨_, rfl, hE_a27⟩) hR hS (lv_sub hl [2, 3, 4, 0] rfl)
                · replace hf := g_if hf c52
                  refine lv_aload_n hx hb dX4_nextOpen_47 rfl (lv_at hl 3 rfl) ?_
                  refine lv_ifnull hx hb dX4_nextOpen_48 ?_
                  refine lv_aload hx hb dX4_nextOpen_51 (lv_at hl 0 rfl) ?_
                  refine lv_aload_n hx hb dX4_nextOpen_53 rfl (lv_at hl 3 rfl) ?_
                  obtain ⟨r53, hc54, hf⟩ := g_b1_e hf
                  refine g_call (va_runV (As := [.ref a27]) (rest := []) ⟨hx, hb, hml, hown, hts⟩ (c3_goesBefore l G E (g_setS μ i z0) _ _ hE_a44 _ _ hE_a27 _ hc54) (cwV 1 hts gX4_nextOpen_X3_goesBefore rfl rfl rfl (by decide +kernel) ⟨Nat.le_of_ble_eq_true rfl, Nat.le_of_ble_eq_true rfl⟩) (g_preV (ci := 3) hR hK ((hR.2.2.2.2.2 _ _ hE_a44).2) rfl) rfl rfl hl.1 rfl (lv_room (Nat.le_of_ble_eq_true rfl)) dX4_nextOpen_54 ⟨by show _ ≤ 0; omega, by show _ ≤ 0; omega⟩) hS (fun w55 H locs hp hR hS => ?_)
                  subst hp
                  refine lv_if_eq (tgt := 63) hx hb dX4_nextOpen_57 (by decide) (fun c56 => ?_) (fun c56 => ?_)
                  · replace hf := g_it hf c56
                    refine lv_iinc (v := x3 + 1) (lv' := [(3, .int (x3 + 1)), (4, .ref a44), (0, .ref (g_stA G i + 4)), (1, .ref a3), (2, .ref a27)]) hx hb dX4_nextOpen_63 hl (k := 4) rfl rfl (by decide) rfl (fun ls hl => ?_)
                    refine lv_goto (tgt := 4) hx hb dX4_nextOpen_66 (by decide) ?_
                    exact ih _ _ _ _ _ _ _ _ _ hf (show g_rv _ _ (.ref a3) (some v4) from ⟨_, rfl, hE_a3⟩) (show g_rv _ _ (.ref a27) (some v28) from ⟨_, rfl, hE_a27⟩) hR hS (lv_sub hl [2, 3, 4, 0] rfl)
                  · replace hf := g_if hf c56
                    refine lv_aload hx hb dX4_nextOpen_60 (lv_at hl 0 rfl) ?_
                    refine lv_astore_n (lv' := [(2, .ref a44), (4, .ref a44), (0, .ref (g_stA G i + 4)), (1, .ref a3), (3, .int x3)]) hx hb dX4_nextOpen_62 rfl hl (by decide) rfl (fun ls hl => ?_)
                    refine lv_iinc (v := x3 + 1) (lv' := [(3, .int (x3 + 1)), (2, .ref a44), (4, .ref a44), (0, .ref (g_stA G i + 4)), (1, .ref a3)]) hx hb dX4_nextOpen_63 hl (k := 4) rfl rfl (by decide) rfl (fun ls hl => ?_)
                    refine lv_goto (tgt := 4) hx hb dX4_nextOpen_66 (by decide) ?_
                    exact ih _ _ _ _ _ _ _ _ _ hf (show g_rv _ _ (.ref a3) (some v4) from ⟨_, rfl, hE_a3⟩) (show g_rv _ _ (.ref a44) (some v43) from ⟨_, rfl, hE_a44⟩) hR hS (lv_sub hl [3, 4, 1, 0] rfl)
  unfold f4_nextOpen at hf
  rcases hzz : v1 with _ | v2
  · replace hf := g_ocn hf hzz
    rw [hzz] at hw_w1
    obtain rfl : w1 = .null := hw_w1
    refine lv_null hx hb dX4_nextOpen_0 ?_
    refine lv_astore_nN (lv' := [(2, .null), (0, .ref (g_stA G i + 4)), (1, .null)]) hx hb dX4_nextOpen_1 rfl hl (by decide) rfl (fun ls hl => ?_)
    refine lv_iconst (v := 0) hx hb dX4_nextOpen_2 (by decide) ?_
    refine lv_istore_n (lv' := [(3, .int (0 : Int32)), (2, .null), (0, .ref (g_stA G i + 4)), (1, .null)]) hx hb dX4_nextOpen_3 rfl hl (by decide) rfl (fun ls hl => ?_)
    exact hB4 70 _ _ _ _ _ _ _ _ _ hf (show g_rv _ _ .null none from rfl) (show g_rv _ _ .null none from rfl) hR hS (lv_sub hl [2, 3, 1, 0] rfl)
  · replace hf := g_ocs hf hzz
    rw [hzz] at hw_w1
    obtain ⟨a1, rfl, hE_a1⟩ : ∃ q : Nat, w1 = .ref q ∧ E q = some (.inr v2) := hw_w1
    refine lv_null hx hb dX4_nextOpen_0 ?_
    refine lv_astore_nN (lv' := [(2, .null), (0, .ref (g_stA G i + 4)), (1, .ref a1)]) hx hb dX4_nextOpen_1 rfl hl (by decide) rfl (fun ls hl => ?_)
    refine lv_iconst (v := 0) hx hb dX4_nextOpen_2 (by decide) ?_
    refine lv_istore_n (lv' := [(3, .int (0 : Int32)), (2, .null), (0, .ref (g_stA G i + 4)), (1, .ref a1)]) hx hb dX4_nextOpen_3 rfl hl (by decide) rfl (fun ls hl => ?_)
    exact hB4 70 _ _ _ _ _ _ _ _ _ hf (show g_rv _ _ (.ref a1) (some v2) from ⟨_, rfl, hE_a1⟩) (show g_rv _ _ .null none from rfl) hR hS (lv_sub hl [2, 3, 1, 0] rfl)
set_option maxHeartbeats 4000000 in
set_option maxRecDepth 100000 in
theorem c4_openAtRank (l : Launch) (G : gG) (E : gEn) (μ : gMu) (i : Nat) (hi : i < 7) (z0 : gSt) (p1 : Int32) (ro : Option gOd) (hf : f4_openAtRank z0 p1 = some ro) : Met l yX4_openAtRank wsX4_openAtRank ({ frames := 3, cells := 0, slots := 0, locals := 65 } : Room) (g_Pre G E (g_setS μ i z0) [.ref (g_stA G i + 4), .int p1]) (g_Q G E (g_setS μ i z0) (fun E' v => E' = E ∧ ∃ w : Value, v = some w ∧ g_rv E .inr w ro)) 0 0 (g_A G) := by
  refine Met.ofW (cc := cX4_openAtRank) (maxL := 4) (ret := some (.object "GlassRacks$Order")) (by decide) rfl ?_
  intro p e s m args below meth c s₁ B hml hv
  obtain ⟨rfl, hR, hK⟩ := hv
  have hx := B.exec
  have hb := B.bytes
  have hr := B.returns
  have hts := atoms_spec (ws := wsX4_openAtRank) B.pre
  have hown : s.vm.findClass RX4 = some m.cls := findClass_of_methodNamed B.named
  have hlocks := B.notSynchronized
  have hS : va_S (g_A G) s.heap s.heap [] := va_S.rf
  have hl := lv_entry ([.ref (g_stA G i + 4), .int p1]) (n := 4) (Nat.le_of_ble_eq_true rfl)
  rw [lg_entry_eq]
  generalize (lg_sl ([.ref (g_stA G i + 4), .int p1]) ++ List.replicate (4 - (lg_sl ([.ref (g_stA G i + 4), .int p1])).length) Slot.unset).toArray = ls at hl ⊢
  have hl : lv_has ls 4 [(0, .ref (g_stA G i + 4)), (1, .int p1)] := hl
  have hB16 : ∀ (n : Nat) (z0 : gSt) (x1 : Int32) (wx2 : Value) (vx2 : Option gOd) (x3 : Int32) (H : Heap) (locs : List Loc) (ls : Array Slot), f4_openAtRank_16 n z0 x1 vx2 x3 = some ro → g_rv E .inr wx2 vx2 → g_R G E (g_setS μ i z0) H → va_S (g_A G) s.heap H locs → lv_has ls 4 [(0, .ref (g_stA G i + 4)), (1, .int x1), (2, wx2), (3, .int x3)] → W p l e (headSpec wsX4_openAtRank ({ frames := 3, cells := 0, slots := 0, locals := 65 } : Room)).room s m ([.ref (g_stA G i + 4), .int p1] : List Value).toArray below meth c H locs 0 0 (MQ below (g_Q G E (g_setS μ i z0) (fun E' v => E' = E ∧ ∃ w : Value, v = some w ∧ g_rv E .inr w ro)) ([.ref (g_stA G i + 4), .int p1] : List Value).toArray s 0 0 (g_A G)) (F0 m 16 ls []) := by
    intro n
    induction n with
    | zero =>
      intro z0 x1 wx2 vx2 x3 H locs ls hf
      rw [f4_openAtRank_16] at hf
      cases hf
    | succ n ih =>
      intro z0 x1 wx2 vx2 x3 H locs ls hf hw_wx2 hR hS hl
      rw [f4_openAtRank_16] at hf
      rcases hzz : vx2 with _ | v9
      · replace hf := g_ocn hf hzz
        rw [hzz] at hw_wx2
        obtain rfl : wx2 = .null := hw_wx2
        refine lv_iload_n hx hb dX4_openAtRank_16 rfl (lv_at hl 3 rfl) ?_
        refine lv_iload_n hx hb dX4_openAtRank_17 rfl (lv_at hl 1 rfl) ?_
        refine lv_icmp_ge (tgt := 37) hx hb dX4_openAtRank_18 (by decide) (fun c10 => ?_) (fun c10 => ?_)
        · replace hf := g_it hf c10
          refine lv_aload_nN hx hb dX4_openAtRank_37 rfl (lv_at hl 2 rfl) ?_
          obtain rfl := g_s1 hf
          exact g_aret hx hb hlocks hr hS hR g_le.rf (Or.inl rfl) ⟨rfl, _, rfl, rfl⟩ (by omega) (by omega) dX4_openAtRank_38
        · replace hf := g_if hf c10
          refine lv_aload_nN hx hb dX4_openAtRank_21 rfl (lv_at hl 2 rfl) ?_
          refine lv_ifnullN (tgt := 37) hx hb dX4_openAtRank_22 (by decide) ?_
          refine lv_aload_nN hx hb dX4_openAtRank_37 rfl (lv_at hl 2 rfl) ?_
          obtain rfl := g_s1 hf
          exact g_aret hx hb hlocks hr hS hR g_le.rf (Or.inl rfl) ⟨rfl, _, rfl, rfl⟩ (by omega) (by omega) dX4_openAtRank_38
      · replace hf := g_ocs hf hzz
        rw [hzz] at hw_wx2
        obtain ⟨a8, rfl, hE_a8⟩ : ∃ q : Nat, wx2 = .ref q ∧ E q = some (.inr v9) := hw_wx2
        refine lv_iload_n hx hb dX4_openAtRank_16 rfl (lv_at hl 3 rfl) ?_
        refine lv_iload_n hx hb dX4_openAtRank_17 rfl (lv_at hl 1 rfl) ?_
        refine lv_icmp_ge (tgt := 37) hx hb dX4_openAtRank_18 (by decide) (fun c11 => ?_) (fun c11 => ?_)
        · replace hf := g_it hf c11
          refine lv_aload_n hx hb dX4_openAtRank_37 rfl (lv_at hl 2 rfl) ?_
          obtain rfl := g_s1 hf
          exact g_aret hx hb hlocks hr hS hR g_le.rf (Or.inr ⟨_, rfl⟩) ⟨rfl, _, rfl, _, rfl, hE_a8⟩ (by omega) (by omega) dX4_openAtRank_38
        · replace hf := g_if hf c11
          refine lv_aload_n hx hb dX4_openAtRank_21 rfl (lv_at hl 2 rfl) ?_
          refine lv_ifnull hx hb dX4_openAtRank_22 ?_
          refine lv_aload_n hx hb dX4_openAtRank_25 rfl (lv_at hl 0 rfl) ?_
          refine lv_aload_n hx hb dX4_openAtRank_26 rfl (lv_at hl 2 rfl) ?_
          obtain ⟨r12, hc13, hf⟩ := g_b1_e hf
          refine g_call (va_runV (As := [.ref a8]) (rest := []) ⟨hx, hb, hml, hown, hts⟩ (c4_nextOpen l G E μ i hi _ _ _ (show g_rv _ _ (.ref a8) (some v9) from ⟨_, rfl, hE_a8⟩) _ hc13) (cwV 1 hts gX4_openAtRank_X4_nextOpen rfl rfl rfl (by decide +kernel) ⟨Nat.le_of_ble_eq_true rfl, Nat.le_of_ble_eq_true rfl⟩) (g_preV (ci := 4) hR hK ((hR.f hi).2.2.2.2.1) rfl) rfl rfl hl.1 rfl (lv_room (Nat.le_of_ble_eq_true rfl)) dX4_openAtRank_27 ⟨by show _ ≤ 0; omega, by show _ ≤ 0; omega⟩) hS (fun w14 H locs hp hR hS => ?_)
          obtain ⟨w15, rfl, hp⟩ := hp
          rcases r12 with _ | v17
          · replace hf := g_ocn hf rfl
            obtain rfl : w15 = .null := hp
            refine lv_astore_nN (lv' := [(2, .null), (0, .ref (g_stA G i + 4)), (1, .int x1), (3, .int x3)]) hx hb dX4_openAtRank_30 rfl hl (by decide) rfl (fun ls hl => ?_)
            refine lv_iinc (v := x3 + 1) (lv' := [(3, .int (x3 + 1)), (2, .null), (0, .ref (g_stA G i + 4)), (1, .int x1)]) hx hb dX4_openAtRank_31 hl (k := 3) rfl rfl (by decide) rfl (fun ls hl => ?_)
            refine lv_goto (tgt := 16) hx hb dX4_openAtRank_34 (by decide) ?_
            exact ih _ _ _ _ _ _ _ _ hf (show g_rv _ _ .null none from rfl) hR hS (lv_sub hl [2, 3, 1, 0] rfl)
          · replace hf := g_ocs hf rfl
            obtain ⟨a16, rfl, hE_a16⟩ := hp
            refine lv_astore_n (lv' := [(2, .ref a16), (0, .ref (g_stA G i + 4)), (1, .int x1), (3, .int x3)]) hx hb dX4_openAtRank_30 rfl hl (by decide) rfl (fun ls hl => ?_)
            refine lv_iinc (v := x3 + 1) (lv' := [(3, .int (x3 + 1)), (2, .ref a16), (0, .ref (g_stA G i + 4)), (1, .int x1)]) hx hb dX4_openAtRank_31 hl (k := 3) rfl rfl (by decide) rfl (fun ls hl => ?_)
            refine lv_goto (tgt := 16) hx hb dX4_openAtRank_34 (by decide) ?_
            exact ih _ _ _ _ _ _ _ _ hf (show g_rv _ _ (.ref a16) (some v17) from ⟨_, rfl, hE_a16⟩) hR hS (lv_sub hl [2, 3, 1, 0] rfl)
  unfold f4_openAtRank at hf
  refine lv_iload_n hx hb dX4_openAtRank_0 rfl (lv_at hl 1 rfl) ?_
  refine lv_bipush (v := 12) hx hb dX4_openAtRank_1 (by decide) ?_
  refine lv_icmp_lt (tgt := 8) hx hb dX4_openAtRank_3 (by decide) (fun c1 => ?_) (fun c1 => ?_)
  · replace hf := g_it hf c1
    refine lv_aload_n hx hb dX4_openAtRank_8 rfl (lv_at hl 0 rfl) ?_
    refine lv_null hx hb dX4_openAtRank_9 ?_
    obtain ⟨r2, hc3, hf⟩ := g_b1_e hf
    refine g_call (va_runV (As := [.null]) (rest := []) ⟨hx, hb, hml, hown, hts⟩ (c4_nextOpen l G E μ i hi _ _ _ (show g_rv _ _ .null none from rfl) _ hc3) (cwV 1 hts gX4_openAtRank_X4_nextOpen rfl rfl rfl (by decide +kernel) ⟨Nat.le_of_ble_eq_true rfl, Nat.le_of_ble_eq_true rfl⟩) (g_preV (ci := 4) hR hK ((hR.f hi).2.2.2.2.1) rfl) rfl rfl hl.1 rfl (lv_room (Nat.le_of_ble_eq_true rfl)) dX4_openAtRank_10 ⟨by show _ ≤ 0; omega, by show _ ≤ 0; omega⟩) hS (fun w4 H locs hp hR hS => ?_)
    obtain ⟨w5, rfl, hp⟩ := hp
    rcases r2 with _ | v7
    · replace hf := g_ocn hf rfl
      obtain rfl : w5 = .null := hp
      refine lv_astore_nN (lv' := [(2, .null), (0, .ref (g_stA G i + 4)), (1, .int p1)]) hx hb dX4_openAtRank_13 rfl hl (by decide) rfl (fun ls hl => ?_)
      refine lv_iconst (v := 0) hx hb dX4_openAtRank_14 (by decide) ?_
      refine lv_istore_n (lv' := [(3, .int (0 : Int32)), (2, .null), (0, .ref (g_stA G i + 4)), (1, .int p1)]) hx hb dX4_openAtRank_15 rfl hl (by decide) rfl (fun ls hl => ?_)
      exact hB16 70 _ _ _ _ _ _ _ _ hf (show g_rv _ _ .null none from rfl) hR hS (lv_sub hl [2, 3, 1, 0] rfl)
    · replace hf := g_ocs hf rfl
      obtain ⟨a6, rfl, hE_a6⟩ := hp
      refine lv_astore_n (lv' := [(2, .ref a6), (0, .ref (g_stA G i + 4)), (1, .int p1)]) hx hb dX4_openAtRank_13 rfl hl (by decide) rfl (fun ls hl => ?_)
      refine lv_iconst (v := 0) hx hb dX4_openAtRank_14 (by decide) ?_
      refine lv_istore_n (lv' := [(3, .int (0 : Int32)), (2, .ref a6), (0, .ref (g_stA G i + 4)), (1, .int p1)]) hx hb dX4_openAtRank_15 rfl hl (by decide) rfl (fun ls hl => ?_)
      exact hB16 70 _ _ _ _ _ _ _ _ hf (show g_rv _ _ (.ref a6) (some v7) from ⟨_, rfl, hE_a6⟩) hR hS (lv_sub hl [2, 3, 1, 0] rfl)
  · replace hf := g_if hf c1
    refine lv_null hx hb dX4_openAtRank_6 ?_
    obtain rfl := g_s1 hf
    exact g_aret hx hb hlocks hr hS hR g_le.rf (Or.inl rfl) ⟨rfl, _, rfl, rfl⟩ (by omega) (by omega) dX4_openAtRank_7
set_option maxHeartbeats 4000000 in
set_option maxRecDepth 100000 in
theorem c4_openOnes (l : Launch) (G : gG) (E : gEn) (μ : gMu) (i : Nat) (hi : i < 7) (z0 : gSt)  (ro : Int32) (hf : f4_openOnes z0 = some ro) : Met l yX4_openOnes wsX4_openOnes ({ frames := 1, cells := 0, slots := 0, locals := 20 } : Room) (g_Pre G E (g_setS μ i z0) [.ref (g_stA G i + 4)]) (g_Q G E (g_setS μ i z0) (fun E' v => E' = E ∧ v = some (.int ro))) 0 0 (g_A G) := by
  refine Met.ofW (cc := cX4_openOnes) (maxL := 4) (ret := some .int) (by decide) rfl ?_
  intro p e s m args below meth c s₁ B hml hv
  obtain ⟨rfl, hR, hK⟩ := hv
  have hx := B.exec
  have hb := B.bytes
  have hr := B.returns
  have hts := atoms_spec (ws := wsX4_openOnes) B.pre
  have hown : s.vm.findClass RX4 = some m.cls := findClass_of_methodNamed B.named
  have hlocks := B.notSynchronized
  have hS : va_S (g_A G) s.heap s.heap [] := va_S.rf
  have hl := lv_entry ([.ref (g_stA G i + 4)]) (n := 4) (Nat.le_of_ble_eq_true rfl)
  rw [lg_entry_eq]
  generalize (lg_sl ([.ref (g_stA G i + 4)]) ++ List.replicate (4 - (lg_sl ([.ref (g_stA G i + 4)])).length) Slot.unset).toArray = ls at hl ⊢
  have hl : lv_has ls 4 [(0, .ref (g_stA G i + 4))] := hl
  have in_4 : ∀ w ∈ u_ws RX4 TX4 2, w ∈ wsX4_openOnes := ifX4_openOnes_4
  have l_11 := hts (.fieldLink RX4 11 "GlassRacks$Orders" "list" "[LGlassRacks$Order;") (by decide +kernel)
  have hB4 : ∀ (n : Nat) (z0 : gSt) (x1 : Int32) (x2 : Int32) (H : Heap) (locs : List Loc) (ls : Array Slot), f4_openOnes_4 n z0 x1 x2 = some ro → g_R G E (g_setS μ i z0) H → va_S (g_A G) s.heap H locs → lv_has ls 4 [(0, .ref (g_stA G i + 4)), (1, .int x1), (2, .int x2)] → W p l e (headSpec wsX4_openOnes ({ frames := 1, cells := 0, slots := 0, locals := 20 } : Room)).room s m ([.ref (g_stA G i + 4)] : List Value).toArray below meth c H locs 0 0 (MQ below (g_Q G E (g_setS μ i z0) (fun E' v => E' = E ∧ v = some (.int ro))) ([.ref (g_stA G i + 4)] : List Value).toArray s 0 0 (g_A G)) (F0 m 4 ls []) := by
    intro n
    induction n with
    | zero =>
      intro z0 x1 x2 H locs ls hf
      rw [f4_openOnes_4] at hf
      cases hf
    | succ n ih =>
      intro z0 x1 x2 H locs ls hf  hR hS hl
      rw [f4_openOnes_4] at hf
      refine lv_iload_n hx hb dX4_openOnes_4 rfl (lv_at hl 2 rfl) ?_
      refine lv_aload_n hx hb dX4_openOnes_5 rfl (lv_at hl 0 rfl) ?_
      refine g_get hx hb hts in_4 hown hK (hR.f hi).2.2.2.2.1 rfl 0 (by decide) l_11 rfl rfl dX4_openOnes_6 ?_
      refine g_aolen hx hb hK (hR.f hi) dX4_openOnes_9 ?_
      refine lv_icmp_ge (tgt := 40) hx hb dX4_openOnes_10 (by decide) (fun c1 => ?_) (fun c1 => ?_)
      · replace hf := g_it hf c1
        refine lv_iload_n hx hb dX4_openOnes_40 rfl (lv_at hl 1 rfl) ?_
        obtain rfl := g_s1 hf
        exact g_iret hx hb hlocks hr hS hR g_le.rf ⟨rfl, rfl⟩ (by omega) (by omega) dX4_openOnes_41
      · replace hf := g_if hf c1
        refine lv_aload_n hx hb dX4_openOnes_13 rfl (lv_at hl 0 rfl) ?_
        refine g_get hx hb hts in_4 hown hK (hR.f hi).2.2.2.2.1 rfl 0 (by decide) l_11 rfl rfl dX4_openOnes_14 ?_
        refine lv_iload_n hx hb dX4_openOnes_17 rfl (lv_at hl 2 rfl) ?_
        obtain ⟨hg2, hf⟩ := g_gd hf
        refine g_aold hx hb hK (hR.f hi) hg2 dX4_openOnes_18 (fun hnn => ?_) (fun v3 a4 hnn hE_a4 => ?_)
        · replace hf := g_ocn hf hnn
          refine lv_astore_nN (lv' := [(3, .null), (0, .ref (g_stA G i + 4)), (1, .int x1), (2, .int x2)]) hx hb dX4_openOnes_19 rfl hl (by decide) rfl (fun ls hl => ?_)
          refine lv_aload_nN hx hb dX4_openOnes_20 rfl (lv_at hl 0 rfl) ?_
          refine lv_ifnullN (tgt := 34) hx hb dX4_openOnes_21 (by decide) ?_
          refine lv_iinc (v := x2 + 1) (lv' := [(2, .int (x2 + 1)), (3, .null), (0, .ref (g_stA G i + 4)), (1, .int x1)]) hx hb dX4_openOnes_34 hl (k := 3) rfl rfl (by decide) rfl (fun ls hl => ?_)
          refine lv_goto (tgt := 4) hx hb dX4_openOnes_37 (by decide) ?_
          exact ih _ _ _ _ _ _ hf  hR hS (lv_sub hl [2, 3, 0] rfl)
        · replace hf := g_ocs hf hnn
          refine lv_astore_n (lv' := [(3, .ref a4), (0, .ref (g_stA G i + 4)), (1, .int x1), (2, .int x2)]) hx hb dX4_openOnes_19 rfl hl (by decide) rfl (fun ls hl => ?_)
          refine lv_aload_n hx hb dX4_openOnes_20 rfl (lv_at hl 0 rfl) ?_
          refine lv_ifnull hx hb dX4_openOnes_21 ?_
          refine lv_aload_n hx hb dX4_openOnes_24 rfl (lv_at hl 0 rfl) ?_
          obtain ⟨r5, hc6, hf⟩ := g_b1_e hf
          refine g_call (va_runV (As := []) (rest := []) ⟨hx, hb, hml, hown, hts⟩ (c3_isOpen l G E (g_setS μ i z0) _ _ hE_a4 _ hc6) (cwV 0 hts gX4_openOnes_X3_isOpen rfl rfl rfl (by decide +kernel) ⟨Nat.le_of_ble_eq_true rfl, Nat.le_of_ble_eq_true rfl⟩) (g_preV (ci := 3) hR hK ((hR.2.2.2.2.2 _ _ hE_a4).2) rfl) rfl rfl hl.1 rfl (lv_room (Nat.le_of_ble_eq_true rfl)) dX4_openOnes_25 ⟨by show _ ≤ 0; omega, by show _ ≤ 0; omega⟩) hS (fun w7 H locs hp hR hS => ?_)
          subst hp
          refine lv_if_eq (tgt := 34) hx hb dX4_openOnes_28 (by decide) (fun c8 => ?_) (fun c8 => ?_)
          · replace hf := g_it hf c8
            refine lv_iinc (v := x2 + 1) (lv' := [(2, .int (x2 + 1)), (3, .ref a4), (0, .ref (g_stA G i + 4)), (1, .int x1)]) hx hb dX4_openOnes_34 hl (k := 3) rfl rfl (by decide) rfl (fun ls hl => ?_)
            refine lv_goto (tgt := 4) hx hb dX4_openOnes_37 (by decide) ?_
            exact ih _ _ _ _ _ _ hf  hR hS (lv_sub hl [2, 3, 0] rfl)
          · replace hf := g_if hf c8
            refine lv_iinc (v := x1 + 1) (lv' := [(1, .int (x1 + 1)), (3, .ref a4), (0, .ref (g_stA G i + 4)), (2, .int x2)]) hx hb dX4_openOnes_31 hl (k := 2) rfl rfl (by decide) rfl (fun ls hl => ?_)
            refine lv_iinc (v := x2 + 1) (lv' := [(2, .int (x2 + 1)), (1, .int (x1 + 1)), (3, .ref a4), (0, .ref (g_stA G i + 4))]) hx hb dX4_openOnes_34 hl (k := 3) rfl rfl (by decide) rfl (fun ls hl => ?_)
            refine lv_goto (tgt := 4) hx hb dX4_openOnes_37 (by decide) ?_
            exact ih _ _ _ _ _ _ hf  hR hS (lv_sub hl [3, 1, 0] rfl)
  unfold f4_openOnes at hf
  refine lv_iconst (v := 0) hx hb dX4_openOnes_0 (by decide) ?_
  refine lv_istore_n (lv' := [(1, .int (0 : Int32)), (0, .ref (g_stA G i + 4))]) hx hb dX4_openOnes_1 rfl hl (by decide) rfl (fun ls hl => ?_)
  refine lv_iconst (v := 0) hx hb dX4_openOnes_2 (by decide) ?_
  refine lv_istore_n (lv' := [(2, .int (0 : Int32)), (1, .int (0 : Int32)), (0, .ref (g_stA G i + 4))]) hx hb dX4_openOnes_3 rfl hl (by decide) rfl (fun ls hl => ?_)
  exact hB4 70 _ _ _ _ _ _ hf  hR hS (lv_sub hl [2, 1, 0] rfl)
set_option maxHeartbeats 4000000 in
set_option maxRecDepth 100000 in
theorem c5_putInFront (l : Launch) (G : gG) (E : gEn) (μ : gMu) (i : Nat) (hi : i < 7) (z0 : gSt) (a1 : Nat) (v1 : gSh) (hE_a1 : E a1 = some (.inl v1)) (p2 : Int32) (zo : gSt) (hf : f5_putInFront z0 v1 p2 = some zo) : Met l yX5_putInFront wsX5_putInFront ({ frames := 0, cells := 0, slots := 0, locals := 0 } : Room) (g_Pre G E (g_setS μ i z0) [.ref (g_stA G i + 2), .ref a1, .int p2]) (g_Q G E (g_setS μ i zo) (fun E' v => E' = E ∧ v = none)) 0 0 (g_A G) := by
  refine Met.ofW (cc := cX5_putInFront) (maxL := 4) (ret := none) (by decide) rfl ?_
  intro p e s m args below meth c s₁ B hml hv
  obtain ⟨rfl, hR, hK⟩ := hv
  have hx := B.exec
  have hb := B.bytes
  have hr := B.returns
  have hts := atoms_spec (ws := wsX5_putInFront) B.pre
  have hown : s.vm.findClass RX5 = some m.cls := findClass_of_methodNamed B.named
  have hlocks := B.notSynchronized
  have hS : va_S (g_A G) s.heap s.heap [] := va_S.rf
  have hl := lv_entry ([.ref (g_stA G i + 2), .ref a1, .int p2]) (n := 4) (Nat.le_of_ble_eq_true rfl)
  rw [lg_entry_eq]
  generalize (lg_sl ([.ref (g_stA G i + 2), .ref a1, .int p2]) ++ List.replicate (4 - (lg_sl ([.ref (g_stA G i + 2), .ref a1, .int p2])).length) Slot.unset).toArray = ls at hl ⊢
  have hl : lv_has ls 4 [(0, .ref (g_stA G i + 2)), (1, .ref a1), (2, .int p2)] := hl
  have in_5 : ∀ w ∈ u_ws RX5 TX5 2, w ∈ wsX5_putInFront := ifX5_putInFront_5
  have l_11 := hts (.fieldLink RX5 11 "GlassRacks$Racks" "slots" "[LGlassRacks$Sheet;") (by decide +kernel)
  have hB2 : ∀ (n : Nat) (z0 : gSt) (ax1 : Nat) (vx1 : gSh) (x2 : Int32) (x3 : Int32) (H : Heap) (locs : List Loc) (ls : Array Slot), f5_putInFront_2 n z0 vx1 x2 x3 = some zo → E ax1 = some (.inl vx1) → g_R G E (g_setS μ i z0) H → va_S (g_A G) s.heap H locs → lv_has ls 4 [(0, .ref (g_stA G i + 2)), (1, .ref ax1), (2, .int x2), (3, .int x3)] → W p l e (headSpec wsX5_putInFront ({ frames := 0, cells := 0, slots := 0, locals := 0 } : Room)).room s m ([.ref (g_stA G i + 2), .ref a1, .int p2] : List Value).toArray below meth c H locs 0 0 (MQ below (g_Q G E (g_setS μ i zo) (fun E' v => E' = E ∧ v = none)) ([.ref (g_stA G i + 2), .ref a1, .int p2] : List Value).toArray s 0 0 (g_A G)) (F0 m 2 ls []) := by
    intro n
    induction n with
    | zero =>
      intro z0 ax1 vx1 x2 x3 H locs ls hf
      rw [f5_putInFront_2] at hf
      cases hf
    | succ n ih =>
      intro z0 ax1 vx1 x2 x3 H locs ls hf hE_ax1 hR hS hl
      rw [f5_putInFront_2] at hf
      refine lv_iload_n hx hb dX5_putInFront_2 rfl (lv_at hl 3 rfl) ?_
      refine lv_aload_n hx hb dX5_putInFront_3 rfl (lv_at hl 0 rfl) ?_
      refine g_get hx hb hts in_5 hown hK (hR.f hi).2.2.1 rfl 0 (by decide) l_11 rfl rfl dX5_putInFront_4 ?_
      refine g_aslen hx hb hK (hR.f hi) dX5_putInFront_7 ?_
      refine lv_icmp_ge (tgt := 42) hx hb dX5_putInFront_8 (by decide) (fun c1 => ?_) (fun c1 => ?_)
      · replace hf := g_it hf c1
        obtain rfl := g_s1 hf
        exact g_vret hx hb hlocks hr hS hR g_le.rf ⟨rfl, rfl⟩ (by omega) (by omega) dX5_putInFront_42
      · replace hf := g_if hf c1
        refine lv_iload_n hx hb dX5_putInFront_11 rfl (lv_at hl 3 rfl) ?_
        refine lv_bipush (v := 8) hx hb dX5_putInFront_12 (by decide) ?_
        refine lv_idiv hx hb dX5_putInFront_14 (by decide) ?_
        refine lv_iload_n hx hb dX5_putInFront_15 rfl (lv_at hl 2 rfl) ?_
        refine lv_icmp_ne (tgt := 36) hx hb dX5_putInFront_16 (by decide) (fun c2 => ?_) (fun c2 => ?_)
        · replace hf := g_it hf c2
          refine lv_iinc (v := x3 + 1) (lv' := [(3, .int (x3 + 1)), (0, .ref (g_stA G i + 2)), (1, .ref ax1), (2, .int x2)]) hx hb dX5_putInFront_36 hl (k := 3) rfl rfl (by decide) rfl (fun ls hl => ?_)
          refine lv_goto (tgt := 2) hx hb dX5_putInFront_39 (by decide) ?_
          exact ih _ _ _ _ _ _ _ _ hf hE_ax1 hR hS (lv_sub hl [1, 2, 3, 0] rfl)
        · replace hf := g_if hf (fun q => q c2)
          refine lv_aload_n hx hb dX5_putInFront_19 rfl (lv_at hl 0 rfl) ?_
          refine g_get hx hb hts in_5 hown hK (hR.f hi).2.2.1 rfl 0 (by decide) l_11 rfl rfl dX5_putInFront_20 ?_
          refine lv_iload_n hx hb dX5_putInFront_23 rfl (lv_at hl 3 rfl) ?_
          obtain ⟨hg3, hf⟩ := g_gd hf
          refine g_asld hx hb hK (hR.f hi) hg3 dX5_putInFront_24 (fun hnn => ?_) (fun v4 a5 hnn hE_a5 => ?_)
          · replace hf := g_ocn hf hnn
            refine lv_ifnonnullN hx hb dX5_putInFront_25 ?_
            refine lv_aload_n hx hb dX5_putInFront_28 rfl (lv_at hl 0 rfl) ?_
            refine g_get hx hb hts in_5 hown hK (hR.f hi).2.2.1 rfl 0 (by decide) l_11 rfl rfl dX5_putInFront_29 ?_
            refine lv_iload_n hx hb dX5_putInFront_32 rfl (lv_at hl 3 rfl) ?_
            refine lv_aload_n hx hb dX5_putInFront_33 rfl (lv_at hl 1 rfl) ?_
            obtain ⟨hg6, hf⟩ := g_gd hf
            refine g_asst hx hb hK hS hR hi hE_ax1 hg6 dX5_putInFront_34 (fun H locs hR hS => ?_)
            obtain ⟨z7, ez7, hf⟩ := g_let_e hf
            replace hR : g_R G E (g_setS μ i z7) H := by rw [ez7]; exact hR
            obtain rfl := g_s1 hf
            exact g_vret hx hb hlocks hr hS hR g_le.rf ⟨rfl, rfl⟩ (by omega) (by omega) dX5_putInFront_35
          · replace hf := g_ocs hf hnn
            refine lv_ifnonnull (tgt := 36) hx hb dX5_putInFront_25 (by decide) ?_
            refine lv_iinc (v := x3 + 1) (lv' := [(3, .int (x3 + 1)), (0, .ref (g_stA G i + 2)), (1, .ref ax1), (2, .int x2)]) hx hb dX5_putInFront_36 hl (k := 3) rfl rfl (by decide) rfl (fun ls hl => ?_)
            refine lv_goto (tgt := 2) hx hb dX5_putInFront_39 (by decide) ?_
            exact ih _ _ _ _ _ _ _ _ hf hE_ax1 hR hS (lv_sub hl [1, 2, 3, 0] rfl)
  unfold f5_putInFront at hf
  refine lv_iconst (v := 0) hx hb dX5_putInFront_0 (by decide) ?_
  refine lv_istore_n (lv' := [(3, .int (0 : Int32)), (0, .ref (g_stA G i + 2)), (1, .ref a1), (2, .int p2)]) hx hb dX5_putInFront_1 rfl hl (by decide) rfl (fun ls hl => ?_)
  exact hB2 70 _ _ _ _ _ _ _ _ hf hE_a1 hR hS (lv_sub hl [1, 2, 3, 0] rfl)
set_option maxHeartbeats 4000000 in
set_option maxRecDepth 100000 in
theorem c7_init (l : Launch) (G : gG) (E : gEn) (μ : gMu) (a0 : Nat) (ge0 : G.2.2 + 54 ≤ a0) (nn0 : E a0 = none) (p1 : Int32) (p2 : Int32) (p3 : Int32) (p4 : Int32) (p5 : Int32) : Met l yX7_init wsX7_init ({ frames := 1, cells := 0, slots := 0, locals := 16 } : Room) (g_PreR G E μ [.ref a0, .int p1, .int p2, .int p3, .int p4, .int p5] a0 (.inr (7, [.int 0, .int 0, .int 0, .int 0, .int 0]))) (g_QR G E μ a0 (.inr (7, [.int p1, .int p2, .int p3, .int p4, .int p5]))) 0 0 (g_A G) := by
  refine Met.ofW (cc := cX7_init) (maxL := 6) (ret := none) (by decide) rfl ?_
  intro p e s m args below meth c s₁ B hml hv
  obtain ⟨rfl, hR, hq0, hK⟩ := hv
  have hx := B.exec
  have hb := B.bytes
  have hr := B.returns
  have hts := atoms_spec (ws := wsX7_init) B.pre
  have hown : s.vm.findClass RX7 = some m.cls := findClass_of_methodNamed B.named
  have hlocks := B.notSynchronized
  have hin : meth.name = "<init>" := (name_of_methodNamed B.named B.method).1
  have hS : va_S (g_A G) s.heap s.heap [] := va_S.rf
  have hl := lv_entry ([.ref a0, .int p1, .int p2, .int p3, .int p4, .int p5]) (n := 6) (Nat.le_of_ble_eq_true rfl)
  rw [lg_entry_eq]
  generalize (lg_sl ([.ref a0, .int p1, .int p2, .int p3, .int p4, .int p5]) ++ List.replicate (6 - (lg_sl ([.ref a0, .int p1, .int p2, .int p3, .int p4, .int p5])).length) Slot.unset).toArray = ls at hl ⊢
  have hl : lv_has ls 6 [(0, .ref a0), (1, .int p1), (2, .int p2), (3, .int p3), (4, .int p4), (5, .int p5)] := hl
  have in_7 : ∀ w ∈ u_ws RX7 TX7 5, w ∈ wsX7_init := ifX7_init_7
  have l_13 := hts (.fieldLink RX7 13 "GlassRacks$Sheet" "sort" "I") (by decide +kernel)
  have l_16 := hts (.fieldLink RX7 16 "GlassRacks$Sheet" "width" "I") (by decide +kernel)
  have l_19 := hts (.fieldLink RX7 19 "GlassRacks$Sheet" "height" "I") (by decide +kernel)
  have l_22 := hts (.fieldLink RX7 22 "GlassRacks$Sheet" "source" "I") (by decide +kernel)
  have l_7 := hts (.fieldLink RX7 7 "GlassRacks$Sheet" "number" "I") (by decide +kernel)
  have o_1 := hts (.methodLink RX7 1 objectInit) (by decide +kernel)
  have o2_1 := hts (.instanceMethod objectInit) (by decide +kernel)
  have o3_1 := hts (.code objectInit ⟨#[0xb1]⟩ 1 none) (by decide +kernel)
  refine lv_aload_n hx hb dX7_init_0 rfl (lv_at hl 0 rfl) ?_
  refine W.objInit hx hb hown o_1 o2_1 o3_1 rfl (by rw [hml]; exact hl.1) rfl dX7_init_1 (Nat.le_of_ble_eq_true rfl) (Nat.le_of_ble_eq_true rfl) ?_
  refine W.eq (g2 := F0 m 4 ls []) rfl ?_
  refine lv_aload_n hx hb dX7_init_4 rfl (lv_at hl 0 rfl) ?_
  refine lv_iload_n hx hb dX7_init_5 rfl (lv_at hl 1 rfl) ?_
  refine g_putF hx hb hts in_7 tyX7_ok nmX7 hown hK hS hq0 (Nat.le_trans (Nat.le_add_right _ _) ge0) rfl 0 (by decide) l_7 rfl rfl hin rfl rfl rfl (Nat.le_of_ble_eq_true rfl) dX7_init_6 (fun H locs hq1 oq hS => ?_)
  replace hR := hR.else ge0 nn0 (fun q _ h => oq q h)
  replace hq1 : g_at G a0 (.inr (7, [.int p1, .int 0, .int 0, .int 0, .int 0])) H := hq1
  refine lv_aload_n hx hb dX7_init_9 rfl (lv_at hl 0 rfl) ?_
  refine lv_iload_n hx hb dX7_init_10 rfl (lv_at hl 2 rfl) ?_
  refine g_putF hx hb hts in_7 tyX7_ok nmX7 hown hK hS hq1 (Nat.le_trans (Nat.le_add_right _ _) ge0) rfl 1 (by decide) l_13 rfl rfl hin rfl rfl rfl (Nat.le_of_ble_eq_true rfl) dX7_init_11 (fun H locs hq2 oq hS => ?_)
  replace hR := hR.else ge0 nn0 (fun q _ h => oq q h)
  replace hq2 : g_at G a0 (.inr (7, [.int p1, .int p2, .int 0, .int 0, .int 0])) H := hq2
  refine lv_aload_n hx hb dX7_init_14 rfl (lv_at hl 0 rfl) ?_
  refine lv_iload_n hx hb dX7_init_15 rfl (lv_at hl 3 rfl) ?_
  refine g_putF hx hb hts in_7 tyX7_ok nmX7 hown hK hS hq2 (Nat.le_trans (Nat.le_add_right _ _) ge0) rfl 2 (by decide) l_16 rfl rfl hin rfl rfl rfl (Nat.le_of_ble_eq_true rfl) dX7_init_16 (fun H locs hq3 oq hS => ?_)
  replace hR := hR.else ge0 nn0 (fun q _ h => oq q h)
  replace hq3 : g_at G a0 (.inr (7, [.int p1, .int p2, .int p3, .int 0, .int 0])) H := hq3
  refine lv_aload_n hx hb dX7_init_19 rfl (lv_at hl 0 rfl) ?_
  refine lv_iload hx hb dX7_init_20 (lv_at hl 4 rfl) ?_
  refine g_putF hx hb hts in_7 tyX7_ok nmX7 hown hK hS hq3 (Nat.le_trans (Nat.le_add_right _ _) ge0) rfl 3 (by decide) l_19 rfl rfl hin rfl rfl rfl (Nat.le_of_ble_eq_true rfl) dX7_init_22 (fun H locs hq4 oq hS => ?_)
  replace hR := hR.else ge0 nn0 (fun q _ h => oq q h)
  replace hq4 : g_at G a0 (.inr (7, [.int p1, .int p2, .int p3, .int p4, .int 0])) H := hq4
  refine lv_aload_n hx hb dX7_init_25 rfl (lv_at hl 0 rfl) ?_
  refine lv_iload hx hb dX7_init_26 (lv_at hl 5 rfl) ?_
  refine g_putF hx hb hts in_7 tyX7_ok nmX7 hown hK hS hq4 (Nat.le_trans (Nat.le_add_right _ _) ge0) rfl 4 (by decide) l_22 rfl rfl hin rfl rfl rfl (Nat.le_of_ble_eq_true rfl) dX7_init_28 (fun H locs hq5 oq hS => ?_)
  replace hR := hR.else ge0 nn0 (fun q _ h => oq q h)
  replace hq5 : g_at G a0 (.inr (7, [.int p1, .int p2, .int p3, .int p4, .int p5])) H := hq5
  exact g_vretR hx hb hlocks hr hS hR hq5 dX7_init_31
set_option maxHeartbeats 4000000 in
set_option maxRecDepth 100000 in
theorem c5_addNew (l : Launch) (G : gG) (E : gEn) (μ : gMu) (i : Nat) (hi : i < 7) (z0 : gSt) (p1 : Int32) (p2 : Int32) (p3 : Int32) (p4 : Int32) (p5 : Int32) (ro : Int32) (zo : gSt) (hf : f5_addNew z0 p1 p2 p3 p4 p5 = some (ro, zo)) : Met l yX5_addNew wsX5_addNew ({ frames := 2, cells := 1, slots := 5, locals := 41 } : Room) (g_Pre G E (g_setS μ i z0) [.ref (g_stA G i + 2), .int p1, .int p2, .int p3, .int p4, .int p5]) (g_Q G E (g_setS μ i zo) (fun E' v => v = some (.int ro))) 1 5 (g_A G) := by
  refine Met.ofW (cc := cX5_addNew) (maxL := 7) (ret := some .int) (by decide) rfl ?_
  intro p e s m args below meth c s₁ B hml hv
  obtain ⟨rfl, hR, hK⟩ := hv
  have hx := B.exec
  have hb := B.bytes
  have hr := B.returns
  have hts := atoms_spec (ws := wsX5_addNew) B.pre
  have hown : s.vm.findClass RX5 = some m.cls := findClass_of_methodNamed B.named
  have hlocks := B.notSynchronized
  have hS : va_S (g_A G) s.heap s.heap [] := va_S.rf
  have hl := lv_entry ([.ref (g_stA G i + 2), .int p1, .int p2, .int p3, .int p4, .int p5]) (n := 7) (Nat.le_of_ble_eq_true rfl)
  rw [lg_entry_eq]
  generalize (lg_sl ([.ref (g_stA G i + 2), .int p1, .int p2, .int p3, .int p4, .int p5]) ++ List.replicate (7 - (lg_sl ([.ref (g_stA G i + 2), .int p1, .int p2, .int p3, .int p4, .int p5])).length) Slot.unset).toArray = ls at hl ⊢
  have hl : lv_has ls 7 [(0, .ref (g_stA G i + 2)), (1, .int p1), (2, .int p2), (3, .int p3), (4, .int p4), (5, .int p5)] := hl
  have in_5 : ∀ w ∈ u_ws RX5 TX5 2, w ∈ wsX5_addNew := ifX5_addNew_5
  have in_7 : ∀ w ∈ u_ws RX7 TX7 5, w ∈ wsX5_addNew := ifX5_addNew_7
  have l_17 := hts (.fieldLink RX5 17 "GlassRacks$Racks" "sheetsMade" "I") (by decide +kernel)
  have n_9 := hts (.classLink RX5 9 RX7) (by decide +kernel)
  have n2_9 := hts (.instantiable RX7 5) (by decide +kernel)
  have n3_9 := hts (.initialized RX7) (by decide +kernel)
  have i1_32 := hts (.initialized RX7) (by decide +kernel)
  have i2_32 := hts (.methodLink RX5 32 yX7_init) (by decide +kernel)
  have i3_32 := hts (.instanceMethod yX7_init) (by decide +kernel)
  unfold f5_addNew at hf
  refine lv_aload_n hx hb dX5_addNew_0 rfl (lv_at hl 0 rfl) ?_
  refine g_get hx hb hts in_5 hown hK (hR.f hi).2.2.1 rfl 1 (by decide) l_17 rfl rfl dX5_addNew_1 ?_
  refine lv_topi (fun t1 et1 => ?_)
  replace hf := g_let_at hf et1
  refine lv_istore (lv' := [(6, .int t1), (0, .ref (g_stA G i + 2)), (1, .int p1), (2, .int p2), (3, .int p3), (4, .int p4), (5, .int p5)]) hx hb dX5_addNew_4 hl (by decide) rfl (fun ls hl => ?_)
  refine lv_aload_n hx hb dX5_addNew_6 rfl (lv_at hl 1 rfl) ?_
  refine lv_dup hx hb dX5_addNew_7 rfl ?_
  refine g_get hx hb hts in_5 hown hK (hR.f hi).2.2.1 rfl 1 (by decide) l_17 rfl rfl dX5_addNew_8 ?_
  refine lv_iconst (v := 1) hx hb dX5_addNew_11 (by decide) ?_
  refine lv_iadd hx hb dX5_addNew_12 ?_
  refine g_p5_1 hx hb hts in_5 hown hK hS hR hi l_17 dX5_addNew_13 (fun H locs hR hS => ?_)
  obtain ⟨z2, ez2, hf⟩ := g_let_e hf
  replace hR : g_R G E (g_setS μ i z2) H := by rw [ez2]; exact hR
  refine lv_aload_n hx hb dX5_addNew_16 rfl (lv_at hl 1 rfl) ?_
  refine g_new (ci := 7) (fs := [.int 0, .int 0, .int 0, .int 0, .int 0]) hx hb hts in_7 tyX7_ok hown n_9 n2_9 n3_9 hK hR hS rfl (fun j hj => by rcases (show j = 0 ∨ j = 1 ∨ j = 2 ∨ j = 3 ∨ j = 4 by omega) with rfl | rfl | rfl | rfl | rfl <;> rfl) (by show _ ≤ 1; omega) (by show _ ≤ 5; omega) dX5_addNew_17 (fun a3 H ge_a3 nn_a3 hq_a3 hR hS => ?_)
  refine lv_dup hx hb dX5_addNew_20 rfl ?_
  refine lv_iload hx hb dX5_addNew_21 (lv_at hl 0 rfl) ?_
  refine lv_iload_n hx hb dX5_addNew_23 rfl (lv_at hl 3 rfl) ?_
  refine lv_iload_n hx hb dX5_addNew_24 rfl (lv_at hl 4 rfl) ?_
  refine lv_iload hx hb dX5_addNew_25 (lv_at hl 5 rfl) ?_
  refine lv_iload hx hb dX5_addNew_27 (lv_at hl 6 rfl) ?_
  refine g_calli (va_runI (As := [.int t1, .int p2, .int p3, .int p4, .int p5]) (rest := [.ref a3, .ref (g_stA G i + 2)]) ⟨hx, hb, hml, hown, hts⟩ (c7_init l G E (g_setS μ i z2) a3 ge_a3 nn_a3 t1 p2 p3 p4 p5) (cwI 5 hts gX5_addNew_X7_init rfl rfl rfl i1_32 i2_32 i3_32 rfl (by decide +kernel) ⟨Nat.le_of_ble_eq_true rfl, Nat.le_of_ble_eq_true rfl⟩) (g_preR hR hK hq_a3) rfl rfl hl.1 rfl (lv_room (Nat.le_of_ble_eq_true rfl)) dX5_addNew_29 ⟨by show _ ≤ 1; omega, by show _ ≤ 5; omega⟩) hS (fun w5 H locs hp hq4 hR hS => ?_)
  subst hp
  refine lv_iload_n hx hb dX5_addNew_32 rfl (lv_at hl 2 rfl) ?_
  obtain ⟨hle8, hE_a3, hR⟩ := hR.join ge_a3 nn_a3 (o := .inl (t1, p2, p3, p4, p5)) hq4
  generalize hee : va_up E a3 (some (.inl (t1, p2, p3, p4, p5))) = E7 at hle8 hE_a3 hR
  clear hee
  obtain ⟨z9, hc10, hf⟩ := g_b1_e hf
  refine g_call (va_runV (As := [.ref a3, .int p1]) (rest := []) ⟨hx, hb, hml, hown, hts⟩ (c5_putInFront l G E7 μ i hi _ _ _ hE_a3 _ _ hc10) (cwV 2 hts gX5_addNew_X5_putInFront rfl rfl rfl (by decide +kernel) ⟨Nat.le_of_ble_eq_true rfl, Nat.le_of_ble_eq_true rfl⟩) (g_preV (ci := 5) hR hK ((hR.f hi).2.2.1) rfl) rfl rfl hl.1 rfl (lv_room (Nat.le_of_ble_eq_true rfl)) dX5_addNew_33 ⟨by show _ ≤ 1; omega, by show _ ≤ 5; omega⟩) hS (fun w11 H locs hp hR hS => ?_)
  subst hp
  refine lv_iload hx hb dX5_addNew_36 (lv_at hl 0 rfl) ?_
  obtain ⟨rfl, rfl⟩ := g_sp hf
  exact g_iret hx hb hlocks hr hS hR ((g_le.rf).tr hle8) rfl (by omega) (by omega) dX5_addNew_38
set_option maxHeartbeats 4000000 in
set_option maxRecDepth 100000 in
theorem c5_areaThere (l : Launch) (G : gG) (E : gEn) (μ : gMu) (i : Nat) (hi : i < 7) (z0 : gSt)  (ro : Int32) (hf : f5_areaThere z0 = some ro) : Met l yX5_areaThere wsX5_areaThere ({ frames := 1, cells := 0, slots := 0, locals := 20 } : Room) (g_Pre G E (g_setS μ i z0) [.ref (g_stA G i + 2)]) (g_Q G E (g_setS μ i z0) (fun E' v => E' = E ∧ v = some (.int ro))) 0 0 (g_A G) := by
  refine Met.ofW (cc := cX5_areaThere) (maxL := 4) (ret := some .int) (by decide) rfl ?_
  intro p e s m args below meth c s₁ B hml hv
  obtain ⟨rfl, hR, hK⟩ := hv
  have hx := B.exec
  have hb := B.bytes
  have hr := B.returns
  have hts := atoms_spec (ws := wsX5_areaThere) B.pre
  have hown : s.vm.findClass RX5 = some m.cls := findClass_of_methodNamed B.named
  have hlocks := B.notSynchronized
  have hS : va_S (g_A G) s.heap s.heap [] := va_S.rf
  have hl := lv_entry ([.ref (g_stA G i + 2)]) (n := 4) (Nat.le_of_ble_eq_true rfl)
  rw [lg_entry_eq]
  generalize (lg_sl ([.ref (g_stA G i + 2)]) ++ List.replicate (4 - (lg_sl ([.ref (g_stA G i + 2)])).length) Slot.unset).toArray = ls at hl ⊢
  have hl : lv_has ls 4 [(0, .ref (g_stA G i + 2))] := hl
  have in_5 : ∀ w ∈ u_ws RX5 TX5 2, w ∈ wsX5_areaThere := ifX5_areaThere_5
  have l_11 := hts (.fieldLink RX5 11 "GlassRacks$Racks" "slots" "[LGlassRacks$Sheet;") (by decide +kernel)
  have hB4 : ∀ (n : Nat) (z0 : gSt) (x1 : Int32) (x2 : Int32) (H : Heap) (locs : List Loc) (ls : Array Slot), f5_areaThere_4 n z0 x1 x2 = some ro → g_R G E (g_setS μ i z0) H → va_S (g_A G) s.heap H locs → lv_has ls 4 [(0, .ref (g_stA G i + 2)), (1, .int x1), (2, .int x2)] → W p l e (headSpec wsX5_areaThere ({ frames := 1, cells := 0, slots := 0, locals := 20 } : Room)).room s m ([.ref (g_stA G i + 2)] : List Value).toArray below meth c H locs 0 0 (MQ below (g_Q G E (g_setS μ i z0) (fun E' v => E' = E ∧ v = some (.int ro))) ([.ref (g_stA G i + 2)] : List Value).toArray s 0 0 (g_A G)) (F0 m 4 ls []) := by
    intro n
    induction n with
    | zero =>
      intro z0 x1 x2 H locs ls hf
      rw [f5_areaThere_4] at hf
      cases hf
    | succ n ih =>
      intro z0 x1 x2 H locs ls hf  hR hS hl
      rw [f5_areaThere_4] at hf
      refine lv_iload_n hx hb dX5_areaThere_4 rfl (lv_at hl 2 rfl) ?_
      refine lv_aload_n hx hb dX5_areaThere_5 rfl (lv_at hl 0 rfl) ?_
      refine g_get hx hb hts in_5 hown hK (hR.f hi).2.2.1 rfl 0 (by decide) l_11 rfl rfl dX5_areaThere_6 ?_
      refine g_aslen hx hb hK (hR.f hi) dX5_areaThere_9 ?_
      refine lv_icmp_ge (tgt := 37) hx hb dX5_areaThere_10 (by decide) (fun c1 => ?_) (fun c1 => ?_)
      · replace hf := g_it hf c1
        refine lv_iload_n hx hb dX5_areaThere_37 rfl (lv_at hl 1 rfl) ?_
        obtain rfl := g_s1 hf
        exact g_iret hx hb hlocks hr hS hR g_le.rf ⟨rfl, rfl⟩ (by omega) (by omega) dX5_areaThere_38
      · replace hf := g_if hf c1
        refine lv_aload_n hx hb dX5_areaThere_13 rfl (lv_at hl 0 rfl) ?_
        refine g_get hx hb hts in_5 hown hK (hR.f hi).2.2.1 rfl 0 (by decide) l_11 rfl rfl dX5_areaThere_14 ?_
        refine lv_iload_n hx hb dX5_areaThere_17 rfl (lv_at hl 2 rfl) ?_
        obtain ⟨hg2, hf⟩ := g_gd hf
        refine g_asld hx hb hK (hR.f hi) hg2 dX5_areaThere_18 (fun hnn => ?_) (fun v3 a4 hnn hE_a4 => ?_)
        · replace hf := g_ocn hf hnn
          refine lv_astore_nN (lv' := [(3, .null), (0, .ref (g_stA G i + 2)), (1, .int x1), (2, .int x2)]) hx hb dX5_areaThere_19 rfl hl (by decide) rfl (fun ls hl => ?_)
          refine lv_aload_nN hx hb dX5_areaThere_20 rfl (lv_at hl 0 rfl) ?_
          refine lv_ifnullN (tgt := 31) hx hb dX5_areaThere_21 (by decide) ?_
          refine lv_iinc (v := x2 + 1) (lv' := [(2, .int (x2 + 1)), (3, .null), (0, .ref (g_stA G i + 2)), (1, .int x1)]) hx hb dX5_areaThere_31 hl (k := 3) rfl rfl (by decide) rfl (fun ls hl => ?_)
          refine lv_goto (tgt := 4) hx hb dX5_areaThere_34 (by decide) ?_
          exact ih _ _ _ _ _ _ hf  hR hS (lv_sub hl [2, 3, 0] rfl)
        · replace hf := g_ocs hf hnn
          refine lv_astore_n (lv' := [(3, .ref a4), (0, .ref (g_stA G i + 2)), (1, .int x1), (2, .int x2)]) hx hb dX5_areaThere_19 rfl hl (by decide) rfl (fun ls hl => ?_)
          refine lv_aload_n hx hb dX5_areaThere_20 rfl (lv_at hl 0 rfl) ?_
          refine lv_ifnull hx hb dX5_areaThere_21 ?_
          refine lv_iload_n hx hb dX5_areaThere_24 rfl (lv_at hl 2 rfl) ?_
          refine lv_aload_n hx hb dX5_areaThere_25 rfl (lv_at hl 0 rfl) ?_
          obtain ⟨r5, hc6, hf⟩ := g_b1_e hf
          refine g_call (va_runV (As := []) (rest := [.int x1]) ⟨hx, hb, hml, hown, hts⟩ (c7_area l G E (g_setS μ i z0) _ _ hE_a4 _ hc6) (cwV 0 hts gX5_areaThere_X7_area rfl rfl rfl (by decide +kernel) ⟨Nat.le_of_ble_eq_true rfl, Nat.le_of_ble_eq_true rfl⟩) (g_preV (ci := 7) hR hK ((hR.2.2.2.2.2 _ _ hE_a4).2) rfl) rfl rfl hl.1 rfl (lv_room (Nat.le_of_ble_eq_true rfl)) dX5_areaThere_26 ⟨by show _ ≤ 0; omega, by show _ ≤ 0; omega⟩) hS (fun w7 H locs hp hR hS => ?_)
          subst hp
          refine lv_iadd hx hb dX5_areaThere_29 ?_
          refine lv_topi (fun t8 et8 => ?_)
          replace hf := g_let_at hf et8
          refine lv_istore_n (lv' := [(1, .int t8), (3, .ref a4), (0, .ref (g_stA G i + 2)), (2, .int x2)]) hx hb dX5_areaThere_30 rfl hl (by decide) rfl (fun ls hl => ?_)
          refine lv_iinc (v := x2 + 1) (lv' := [(2, .int (x2 + 1)), (1, .int t8), (3, .ref a4), (0, .ref (g_stA G i + 2))]) hx hb dX5_areaThere_31 hl (k := 3) rfl rfl (by decide) rfl (fun ls hl => ?_)
          refine lv_goto (tgt := 4) hx hb dX5_areaThere_34 (by decide) ?_
          exact ih _ _ _ _ _ _ hf  hR hS (lv_sub hl [3, 1, 0] rfl)
  unfold f5_areaThere at hf
  refine lv_iconst (v := 0) hx hb dX5_areaThere_0 (by decide) ?_
  refine lv_istore_n (lv' := [(1, .int (0 : Int32)), (0, .ref (g_stA G i + 2))]) hx hb dX5_areaThere_1 rfl hl (by decide) rfl (fun ls hl => ?_)
  refine lv_iconst (v := 0) hx hb dX5_areaThere_2 (by decide) ?_
  refine lv_istore_n (lv' := [(2, .int (0 : Int32)), (1, .int (0 : Int32)), (0, .ref (g_stA G i + 2))]) hx hb dX5_areaThere_3 rfl hl (by decide) rfl (fun ls hl => ?_)
  exact hB4 70 _ _ _ _ _ _ hf  hR hS (lv_sub hl [2, 1, 0] rfl)
set_option maxHeartbeats 4000000 in
set_option maxRecDepth 100000 in
theorem c5_filled (l : Launch) (G : gG) (E : gEn) (μ : gMu) (i : Nat) (hi : i < 7) (z0 : gSt) (p1 : Int32) (ro : Int32) (hf : f5_filled z0 p1 = some ro) : Met l yX5_filled wsX5_filled ({ frames := 0, cells := 0, slots := 0, locals := 0 } : Room) (g_Pre G E (g_setS μ i z0) [.ref (g_stA G i + 2), .int p1]) (g_Q G E (g_setS μ i z0) (fun E' v => E' = E ∧ v = some (.int ro))) 0 0 (g_A G) := by
  refine Met.ofW (cc := cX5_filled) (maxL := 4) (ret := some .int) (by decide) rfl ?_
  intro p e s m args below meth c s₁ B hml hv
  obtain ⟨rfl, hR, hK⟩ := hv
  have hx := B.exec
  have hb := B.bytes
  have hr := B.returns
  have hts := atoms_spec (ws := wsX5_filled) B.pre
  have hown : s.vm.findClass RX5 = some m.cls := findClass_of_methodNamed B.named
  have hlocks := B.notSynchronized
  have hS : va_S (g_A G) s.heap s.heap [] := va_S.rf
  have hl := lv_entry ([.ref (g_stA G i + 2), .int p1]) (n := 4) (Nat.le_of_ble_eq_true rfl)
  rw [lg_entry_eq]
  generalize (lg_sl ([.ref (g_stA G i + 2), .int p1]) ++ List.replicate (4 - (lg_sl ([.ref (g_stA G i + 2), .int p1])).length) Slot.unset).toArray = ls at hl ⊢
  have hl : lv_has ls 4 [(0, .ref (g_stA G i + 2)), (1, .int p1)] := hl
  have in_5 : ∀ w ∈ u_ws RX5 TX5 2, w ∈ wsX5_filled := ifX5_filled_5
  have l_11 := hts (.fieldLink RX5 11 "GlassRacks$Racks" "slots" "[LGlassRacks$Sheet;") (by decide +kernel)
  have hB4 : ∀ (n : Nat) (z0 : gSt) (x1 : Int32) (x2 : Int32) (x3 : Int32) (H : Heap) (locs : List Loc) (ls : Array Slot), f5_filled_4 n z0 x1 x2 x3 = some ro → g_R G E (g_setS μ i z0) H → va_S (g_A G) s.heap H locs → lv_has ls 4 [(0, .ref (g_stA G i + 2)), (1, .int x1), (2, .int x2), (3, .int x3)] → W p l e (headSpec wsX5_filled ({ frames := 0, cells := 0, slots := 0, locals := 0 } : Room)).room s m ([.ref (g_stA G i + 2), .int p1] : List Value).toArray below meth c H locs 0 0 (MQ below (g_Q G E (g_setS μ i z0) (fun E' v => E' = E ∧ v = some (.int ro))) ([.ref (g_stA G i + 2), .int p1] : List Value).toArray s 0 0 (g_A G)) (F0 m 4 ls []) := by
    intro n
    induction n with
    | zero =>
      intro z0 x1 x2 x3 H locs ls hf
      rw [f5_filled_4] at hf
      cases hf
    | succ n ih =>
      intro z0 x1 x2 x3 H locs ls hf  hR hS hl
      rw [f5_filled_4] at hf
      refine lv_iload_n hx hb dX5_filled_4 rfl (lv_at hl 3 rfl) ?_
      refine lv_aload_n hx hb dX5_filled_5 rfl (lv_at hl 0 rfl) ?_
      refine g_get hx hb hts in_5 hown hK (hR.f hi).2.2.1 rfl 0 (by decide) l_11 rfl rfl dX5_filled_6 ?_
      refine g_aslen hx hb hK (hR.f hi) dX5_filled_9 ?_
      refine lv_icmp_ge (tgt := 39) hx hb dX5_filled_10 (by decide) (fun c1 => ?_) (fun c1 => ?_)
      · replace hf := g_it hf c1
        refine lv_iload_n hx hb dX5_filled_39 rfl (lv_at hl 2 rfl) ?_
        obtain rfl := g_s1 hf
        exact g_iret hx hb hlocks hr hS hR g_le.rf ⟨rfl, rfl⟩ (by omega) (by omega) dX5_filled_40
      · replace hf := g_if hf c1
        refine lv_iload_n hx hb dX5_filled_13 rfl (lv_at hl 3 rfl) ?_
        refine lv_bipush (v := 8) hx hb dX5_filled_14 (by decide) ?_
        refine lv_idiv hx hb dX5_filled_16 (by decide) ?_
        refine lv_iload_n hx hb dX5_filled_17 rfl (lv_at hl 1 rfl) ?_
        refine lv_icmp_ne (tgt := 33) hx hb dX5_filled_18 (by decide) (fun c2 => ?_) (fun c2 => ?_)
        · replace hf := g_it hf c2
          refine lv_iinc (v := x3 + 1) (lv' := [(3, .int (x3 + 1)), (0, .ref (g_stA G i + 2)), (1, .int x1), (2, .int x2)]) hx hb dX5_filled_33 hl (k := 3) rfl rfl (by decide) rfl (fun ls hl => ?_)
          refine lv_goto (tgt := 4) hx hb dX5_filled_36 (by decide) ?_
          exact ih _ _ _ _ _ _ _ hf  hR hS (lv_sub hl [1, 2, 3, 0] rfl)
        · replace hf := g_if hf (fun q => q c2)
          refine lv_aload_n hx hb dX5_filled_21 rfl (lv_at hl 0 rfl) ?_
          refine g_get hx hb hts in_5 hown hK (hR.f hi).2.2.1 rfl 0 (by decide) l_11 rfl rfl dX5_filled_22 ?_
          refine lv_iload_n hx hb dX5_filled_25 rfl (lv_at hl 3 rfl) ?_
          obtain ⟨hg3, hf⟩ := g_gd hf
          refine g_asld hx hb hK (hR.f hi) hg3 dX5_filled_26 (fun hnn => ?_) (fun v4 a5 hnn hE_a5 => ?_)
          · replace hf := g_ocn hf hnn
            refine lv_ifnullN (tgt := 33) hx hb dX5_filled_27 (by decide) ?_
            refine lv_iinc (v := x3 + 1) (lv' := [(3, .int (x3 + 1)), (0, .ref (g_stA G i + 2)), (1, .int x1), (2, .int x2)]) hx hb dX5_filled_33 hl (k := 3) rfl rfl (by decide) rfl (fun ls hl => ?_)
            refine lv_goto (tgt := 4) hx hb dX5_filled_36 (by decide) ?_
            exact ih _ _ _ _ _ _ _ hf  hR hS (lv_sub hl [1, 2, 3, 0] rfl)
          · replace hf := g_ocs hf hnn
            refine lv_ifnull hx hb dX5_filled_27 ?_
            refine lv_iinc (v := x2 + 1) (lv' := [(2, .int (x2 + 1)), (0, .ref (g_stA G i + 2)), (1, .int x1), (3, .int x3)]) hx hb dX5_filled_30 hl (k := 2) rfl rfl (by decide) rfl (fun ls hl => ?_)
            refine lv_iinc (v := x3 + 1) (lv' := [(3, .int (x3 + 1)), (2, .int (x2 + 1)), (0, .ref (g_stA G i + 2)), (1, .int x1)]) hx hb dX5_filled_33 hl (k := 3) rfl rfl (by decide) rfl (fun ls hl => ?_)
            refine lv_goto (tgt := 4) hx hb dX5_filled_36 (by decide) ?_
            exact ih _ _ _ _ _ _ _ hf  hR hS (lv_sub hl [2, 3, 1, 0] rfl)
  unfold f5_filled at hf
  refine lv_iconst (v := 0) hx hb dX5_filled_0 (by decide) ?_
  refine lv_istore_n (lv' := [(2, .int (0 : Int32)), (0, .ref (g_stA G i + 2)), (1, .int p1)]) hx hb dX5_filled_1 rfl hl (by decide) rfl (fun ls hl => ?_)
  refine lv_iconst (v := 0) hx hb dX5_filled_2 (by decide) ?_
  refine lv_istore_n (lv' := [(3, .int (0 : Int32)), (2, .int (0 : Int32)), (0, .ref (g_stA G i + 2)), (1, .int p1)]) hx hb dX5_filled_3 rfl hl (by decide) rfl (fun ls hl => ?_)
  exact hB4 70 _ _ _ _ _ _ _ hf  hR hS (lv_sub hl [2, 3, 1, 0] rfl)
set_option maxHeartbeats 4000000 in
set_option maxRecDepth 100000 in
theorem c5_atPlace (l : Launch) (G : gG) (E : gEn) (μ : gMu) (i : Nat) (hi : i < 7) (z0 : gSt) (p1 : Int32) (p2 : Int32) (ro : Option gSh) (hf : f5_atPlace z0 p1 p2 = some ro) : Met l yX5_atPlace wsX5_atPlace ({ frames := 1, cells := 0, slots := 0, locals := 23 } : Room) (g_Pre G E (g_setS μ i z0) [.ref (g_stA G i + 2), .int p1, .int p2]) (g_Q G E (g_setS μ i z0) (fun E' v => E' = E ∧ ∃ w : Value, v = some w ∧ g_rv E .inl w ro)) 0 0 (g_A G) := by
  refine Met.ofW (cc := cX5_atPlace) (maxL := 4) (ret := some (.object "GlassRacks$Sheet")) (by decide) rfl ?_
  intro p e s m args below meth c s₁ B hml hv
  obtain ⟨rfl, hR, hK⟩ := hv
  have hx := B.exec
  have hb := B.bytes
  have hr := B.returns
  have hts := atoms_spec (ws := wsX5_atPlace) B.pre
  have hown : s.vm.findClass RX5 = some m.cls := findClass_of_methodNamed B.named
  have hlocks := B.notSynchronized
  have hS : va_S (g_A G) s.heap s.heap [] := va_S.rf
  have hl := lv_entry ([.ref (g_stA G i + 2), .int p1, .int p2]) (n := 4) (Nat.le_of_ble_eq_true rfl)
  rw [lg_entry_eq]
  generalize (lg_sl ([.ref (g_stA G i + 2), .int p1, .int p2]) ++ List.replicate (4 - (lg_sl ([.ref (g_stA G i + 2), .int p1, .int p2])).length) Slot.unset).toArray = ls at hl ⊢
  have hl : lv_has ls 4 [(0, .ref (g_stA G i + 2)), (1, .int p1), (2, .int p2)] := hl
  unfold f5_atPlace at hf
  refine lv_aload_n hx hb dX5_atPlace_0 rfl (lv_at hl 0 rfl) ?_
  refine lv_iload_n hx hb dX5_atPlace_1 rfl (lv_at hl 1 rfl) ?_
  obtain ⟨r1, hc2, hf⟩ := g_b1_e hf
  refine g_call (va_runV (As := [.int p1]) (rest := []) ⟨hx, hb, hml, hown, hts⟩ (c5_filled l G E μ i hi _ _ _ hc2) (cwV 1 hts gX5_atPlace_X5_filled rfl rfl rfl (by decide +kernel) ⟨Nat.le_of_ble_eq_true rfl, Nat.le_of_ble_eq_true rfl⟩) (g_preV (ci := 5) hR hK ((hR.f hi).2.2.1) rfl) rfl rfl hl.1 rfl (lv_room (Nat.le_of_ble_eq_true rfl)) dX5_atPlace_2 ⟨by show _ ≤ 0; omega, by show _ ≤ 0; omega⟩) hS (fun w3 H locs hp hR hS => ?_)
  subst hp
  refine lv_istore_n (lv' := [(3, .int r1), (0, .ref (g_stA G i + 2)), (1, .int p1), (2, .int p2)]) hx hb dX5_atPlace_5 rfl hl (by decide) rfl (fun ls hl => ?_)
  refine lv_iload_n hx hb dX5_atPlace_6 rfl (lv_at hl 3 rfl) ?_
  refine lv_iload_n hx hb dX5_atPlace_7 rfl (lv_at hl 0 rfl) ?_
  refine lv_icmp_ge (tgt := 28) hx hb dX5_atPlace_8 (by decide) (fun c4 => ?_) (fun c4 => ?_)
  · replace hf := g_it hf c4
    refine lv_null hx hb dX5_atPlace_28 ?_
    obtain rfl := g_s1 hf
    exact g_aret hx hb hlocks hr hS hR g_le.rf (Or.inl rfl) ⟨rfl, _, rfl, rfl⟩ (by omega) (by omega) dX5_atPlace_29
  · replace hf := g_if hf c4
    refine lv_aload_n hx hb dX5_atPlace_11 rfl (lv_at hl 1 rfl) ?_
    refine lv_iload_n hx hb dX5_atPlace_12 rfl (lv_at hl 2 rfl) ?_
    refine lv_bipush (v := 8) hx hb dX5_atPlace_13 (by decide) ?_
    refine lv_imul hx hb dX5_atPlace_15 ?_
    refine lv_iload_n hx hb dX5_atPlace_16 rfl (lv_at hl 0 rfl) ?_
    refine lv_iadd hx hb dX5_atPlace_17 ?_
    refine lv_iconst (v := 1) hx hb dX5_atPlace_18 (by decide) ?_
    refine lv_isub hx hb dX5_atPlace_19 ?_
    refine lv_iload_n hx hb dX5_atPlace_20 rfl (lv_at hl 3 rfl) ?_
    refine lv_isub hx hb dX5_atPlace_21 ?_
    obtain ⟨r5, hc6, hf⟩ := g_b1_e hf
    refine g_call (va_runV (As := [.int ((((p1 * (8 : Int32)) + r1) - (1 : Int32)) - p2)]) (rest := []) ⟨hx, hb, hml, hown, hts⟩ (c5_inSlot l G E μ i hi _ _ _ hc6) (cwV 1 hts gX5_atPlace_X5_inSlot rfl rfl rfl (by decide +kernel) ⟨Nat.le_of_ble_eq_true rfl, Nat.le_of_ble_eq_true rfl⟩) (g_preV (ci := 5) hR hK ((hR.f hi).2.2.1) rfl) rfl rfl hl.1 rfl (lv_room (Nat.le_of_ble_eq_true rfl)) dX5_atPlace_22 ⟨by show _ ≤ 0; omega, by show _ ≤ 0; omega⟩) hS (fun w7 H locs hp hR hS => ?_)
    obtain ⟨w8, rfl, hp⟩ := hp
    rcases r5 with _ | v10
    · replace hf := g_ocn hf rfl
      obtain rfl : w8 = .null := hp
      refine lv_goto (tgt := 29) hx hb dX5_atPlace_25 (by decide) ?_
      obtain rfl := g_s1 hf
      exact g_aret hx hb hlocks hr hS hR g_le.rf (Or.inl rfl) ⟨rfl, _, rfl, rfl⟩ (by omega) (by omega) dX5_atPlace_29
    · replace hf := g_ocs hf rfl
      obtain ⟨a9, rfl, hE_a9⟩ := hp
      refine lv_goto (tgt := 29) hx hb dX5_atPlace_25 (by decide) ?_
      obtain rfl := g_s1 hf
      exact g_aret hx hb hlocks hr hS hR g_le.rf (Or.inr ⟨_, rfl⟩) ⟨rfl, _, rfl, _, rfl, hE_a9⟩ (by omega) (by omega) dX5_atPlace_29
set_option maxHeartbeats 4000000 in
set_option maxRecDepth 100000 in
theorem c5_hasRoom (l : Launch) (G : gG) (E : gEn) (μ : gMu) (i : Nat) (hi : i < 7) (z0 : gSt) (p1 : Int32) (ro : Int32) (hf : f5_hasRoom z0 p1 = some ro) : Met l yX5_hasRoom wsX5_hasRoom ({ frames := 1, cells := 0, slots := 0, locals := 23 } : Room) (g_Pre G E (g_setS μ i z0) [.ref (g_stA G i + 2), .int p1]) (g_Q G E (g_setS μ i z0) (fun E' v => E' = E ∧ v = some (.int ro))) 0 0 (g_A G) := by
  refine Met.ofW (cc := cX5_hasRoom) (maxL := 2) (ret := some .boolean) (by decide) rfl ?_
  intro p e s m args below meth c s₁ B hml hv
  obtain ⟨rfl, hR, hK⟩ := hv
  have hx := B.exec
  have hb := B.bytes
  have hr := B.returns
  have hts := atoms_spec (ws := wsX5_hasRoom) B.pre
  have hown : s.vm.findClass RX5 = some m.cls := findClass_of_methodNamed B.named
  have hlocks := B.notSynchronized
  have hS : va_S (g_A G) s.heap s.heap [] := va_S.rf
  have hl := lv_entry ([.ref (g_stA G i + 2), .int p1]) (n := 2) (Nat.le_of_ble_eq_true rfl)
  rw [lg_entry_eq]
  generalize (lg_sl ([.ref (g_stA G i + 2), .int p1]) ++ List.replicate (2 - (lg_sl ([.ref (g_stA G i + 2), .int p1])).length) Slot.unset).toArray = ls at hl ⊢
  have hl : lv_has ls 2 [(0, .ref (g_stA G i + 2)), (1, .int p1)] := hl
  have in_5 : ∀ w ∈ u_ws RX5 TX5 2, w ∈ wsX5_hasRoom := ifX5_hasRoom_5
  have l_17 := hts (.fieldLink RX5 17 "GlassRacks$Racks" "sheetsMade" "I") (by decide +kernel)
  unfold f5_hasRoom at hf
  refine lv_aload_n hx hb dX5_hasRoom_0 rfl (lv_at hl 0 rfl) ?_
  refine g_get hx hb hts in_5 hown hK (hR.f hi).2.2.1 rfl 1 (by decide) l_17 rfl rfl dX5_hasRoom_1 ?_
  refine lv_sipush (v := 200) hx hb dX5_hasRoom_4 (by decide) ?_
  refine lv_icmp_ge (tgt := 24) hx hb dX5_hasRoom_7 (by decide) (fun c1 => ?_) (fun c1 => ?_)
  · replace hf := g_it hf c1
    refine lv_iconst (v := 0) hx hb dX5_hasRoom_24 (by decide) ?_
    obtain rfl := g_s1 hf
    exact g_zret hx hb hlocks hr hS hR g_le.rf (by decide) ⟨rfl, rfl⟩ (by omega) (by omega) dX5_hasRoom_25
  · replace hf := g_if hf c1
    refine lv_aload_n hx hb dX5_hasRoom_10 rfl (lv_at hl 0 rfl) ?_
    refine lv_iload_n hx hb dX5_hasRoom_11 rfl (lv_at hl 1 rfl) ?_
    obtain ⟨r2, hc3, hf⟩ := g_b1_e hf
    refine g_call (va_runV (As := [.int p1]) (rest := []) ⟨hx, hb, hml, hown, hts⟩ (c5_filled l G E μ i hi _ _ _ hc3) (cwV 1 hts gX5_hasRoom_X5_filled rfl rfl rfl (by decide +kernel) ⟨Nat.le_of_ble_eq_true rfl, Nat.le_of_ble_eq_true rfl⟩) (g_preV (ci := 5) hR hK ((hR.f hi).2.2.1) rfl) rfl rfl hl.1 rfl (lv_room (Nat.le_of_ble_eq_true rfl)) dX5_hasRoom_12 ⟨by show _ ≤ 0; omega, by show _ ≤ 0; omega⟩) hS (fun w4 H locs hp hR hS => ?_)
    subst hp
    refine lv_bipush (v := 8) hx hb dX5_hasRoom_15 (by decide) ?_
    refine lv_icmp_ge (tgt := 24) hx hb dX5_hasRoom_17 (by decide) (fun c5 => ?_) (fun c5 => ?_)
    · replace hf := g_it hf c5
      refine lv_iconst (v := 0) hx hb dX5_hasRoom_24 (by decide) ?_
      obtain rfl := g_s1 hf
      exact g_zret hx hb hlocks hr hS hR g_le.rf (by decide) ⟨rfl, rfl⟩ (by omega) (by omega) dX5_hasRoom_25
    · replace hf := g_if hf c5
      refine lv_iconst (v := 1) hx hb dX5_hasRoom_20 (by decide) ?_
      refine lv_goto (tgt := 25) hx hb dX5_hasRoom_21 (by decide) ?_
      obtain rfl := g_s1 hf
      exact g_zret hx hb hlocks hr hS hR g_le.rf (by decide) ⟨rfl, rfl⟩ (by omega) (by omega) dX5_hasRoom_25
set_option maxHeartbeats 4000000 in
set_option maxRecDepth 100000 in
theorem c5_isFull (l : Launch) (G : gG) (E : gEn) (μ : gMu) (i : Nat) (hi : i < 7) (z0 : gSt) (p1 : Int32) (ro : Int32) (hf : f5_isFull z0 p1 = some ro) : Met l yX5_isFull wsX5_isFull ({ frames := 1, cells := 0, slots := 0, locals := 23 } : Room) (g_Pre G E (g_setS μ i z0) [.ref (g_stA G i + 2), .int p1]) (g_Q G E (g_setS μ i z0) (fun E' v => E' = E ∧ v = some (.int ro))) 0 0 (g_A G) := by
  refine Met.ofW (cc := cX5_isFull) (maxL := 2) (ret := some .boolean) (by decide) rfl ?_
  intro p e s m args below meth c s₁ B hml hv
  obtain ⟨rfl, hR, hK⟩ := hv
  have hx := B.exec
  have hb := B.bytes
  have hr := B.returns
  have hts := atoms_spec (ws := wsX5_isFull) B.pre
  have hown : s.vm.findClass RX5 = some m.cls := findClass_of_methodNamed B.named
  have hlocks := B.notSynchronized
  have hS : va_S (g_A G) s.heap s.heap [] := va_S.rf
  have hl := lv_entry ([.ref (g_stA G i + 2), .int p1]) (n := 2) (Nat.le_of_ble_eq_true rfl)
  rw [lg_entry_eq]
  generalize (lg_sl ([.ref (g_stA G i + 2), .int p1]) ++ List.replicate (2 - (lg_sl ([.ref (g_stA G i + 2), .int p1])).length) Slot.unset).toArray = ls at hl ⊢
  have hl : lv_has ls 2 [(0, .ref (g_stA G i + 2)), (1, .int p1)] := hl
  unfold f5_isFull at hf
  refine lv_aload_n hx hb dX5_isFull_0 rfl (lv_at hl 0 rfl) ?_
  refine lv_iload_n hx hb dX5_isFull_1 rfl (lv_at hl 1 rfl) ?_
  obtain ⟨r1, hc2, hf⟩ := g_b1_e hf
  refine g_call (va_runV (As := [.int p1]) (rest := []) ⟨hx, hb, hml, hown, hts⟩ (c5_filled l G E μ i hi _ _ _ hc2) (cwV 1 hts gX5_isFull_X5_filled rfl rfl rfl (by decide +kernel) ⟨Nat.le_of_ble_eq_true rfl, Nat.le_of_ble_eq_true rfl⟩) (g_preV (ci := 5) hR hK ((hR.f hi).2.2.1) rfl) rfl rfl hl.1 rfl (lv_room (Nat.le_of_ble_eq_true rfl)) dX5_isFull_2 ⟨by show _ ≤ 0; omega, by show _ ≤ 0; omega⟩) hS (fun w3 H locs hp hR hS => ?_)
  subst hp
  refine lv_bipush (v := 8) hx hb dX5_isFull_5 (by decide) ?_
  refine lv_icmp_lt (tgt := 14) hx hb dX5_isFull_7 (by decide) (fun c4 => ?_) (fun c4 => ?_)
  · replace hf := g_it hf c4
    refine lv_iconst (v := 0) hx hb dX5_isFull_14 (by decide) ?_
    obtain rfl := g_s1 hf
    exact g_zret hx hb hlocks hr hS hR g_le.rf (by decide) ⟨rfl, rfl⟩ (by omega) (by omega) dX5_isFull_15
  · replace hf := g_if hf c4
    refine lv_iconst (v := 1) hx hb dX5_isFull_10 (by decide) ?_
    refine lv_goto (tgt := 15) hx hb dX5_isFull_11 (by decide) ?_
    obtain rfl := g_s1 hf
    exact g_zret hx hb hlocks hr hS hR g_le.rf (by decide) ⟨rfl, rfl⟩ (by omega) (by omega) dX5_isFull_15
set_option maxHeartbeats 4000000 in
set_option maxRecDepth 100000 in
theorem c5_removeFrom (l : Launch) (G : gG) (E : gEn) (μ : gMu) (i : Nat) (hi : i < 7) (z0 : gSt) (p1 : Int32) (zo : gSt) (hf : f5_removeFrom z0 p1 = some zo) : Met l yX5_removeFrom wsX5_removeFrom ({ frames := 0, cells := 0, slots := 0, locals := 0 } : Room) (g_Pre G E (g_setS μ i z0) [.ref (g_stA G i + 2), .int p1]) (g_Q G E (g_setS μ i zo) (fun E' v => E' = E ∧ v = none)) 0 0 (g_A G) := by
  refine Met.ofW (cc := cX5_removeFrom) (maxL := 4) (ret := none) (by decide) rfl ?_
  intro p e s m args below meth c s₁ B hml hv
  obtain ⟨rfl, hR, hK⟩ := hv
  have hx := B.exec
  have hb := B.bytes
  have hr := B.returns
  have hts := atoms_spec (ws := wsX5_removeFrom) B.pre
  have hown : s.vm.findClass RX5 = some m.cls := findClass_of_methodNamed B.named
  have hlocks := B.notSynchronized
  have hS : va_S (g_A G) s.heap s.heap [] := va_S.rf
  have hl := lv_entry ([.ref (g_stA G i + 2), .int p1]) (n := 4) (Nat.le_of_ble_eq_true rfl)
  rw [lg_entry_eq]
  generalize (lg_sl ([.ref (g_stA G i + 2), .int p1]) ++ List.replicate (4 - (lg_sl ([.ref (g_stA G i + 2), .int p1])).length) Slot.unset).toArray = ls at hl ⊢
  have hl : lv_has ls 4 [(0, .ref (g_stA G i + 2)), (1, .int p1)] := hl
  have in_5 : ∀ w ∈ u_ws RX5 TX5 2, w ∈ wsX5_removeFrom := ifX5_removeFrom_5
  have l_11 := hts (.fieldLink RX5 11 "GlassRacks$Racks" "slots" "[LGlassRacks$Sheet;") (by decide +kernel)
  have hB19 : ∀ (n : Nat) (z0 : gSt) (x2 : Int32) (x3 : Int32) (H : Heap) (locs : List Loc) (ls : Array Slot), f5_removeFrom_19 n z0 x2 x3 = some zo → g_R G E (g_setS μ i z0) H → va_S (g_A G) s.heap H locs → lv_has ls 4 [(0, .ref (g_stA G i + 2)), (2, .int x2), (3, .int x3)] → W p l e (headSpec wsX5_removeFrom ({ frames := 0, cells := 0, slots := 0, locals := 0 } : Room)).room s m ([.ref (g_stA G i + 2), .int p1] : List Value).toArray below meth c H locs 0 0 (MQ below (g_Q G E (g_setS μ i zo) (fun E' v => E' = E ∧ v = none)) ([.ref (g_stA G i + 2), .int p1] : List Value).toArray s 0 0 (g_A G)) (F0 m 19 ls []) := by
    intro n
    induction n with
    | zero =>
      intro z0 x2 x3 H locs ls hf
      rw [f5_removeFrom_19] at hf
      cases hf
    | succ n ih =>
      intro z0 x2 x3 H locs ls hf  hR hS hl
      rw [f5_removeFrom_19] at hf
      refine lv_iload_n hx hb dX5_removeFrom_19 rfl (lv_at hl 2 rfl) ?_
      refine lv_iload_n hx hb dX5_removeFrom_20 rfl (lv_at hl 1 rfl) ?_
      refine lv_icmp_gt (tgt := 73) hx hb dX5_removeFrom_21 (by decide) (fun c3 => ?_) (fun c3 => ?_)
      · replace hf := g_it hf c3
        obtain rfl := g_s1 hf
        exact g_vret hx hb hlocks hr hS hR g_le.rf ⟨rfl, rfl⟩ (by omega) (by omega) dX5_removeFrom_73
      · replace hf := g_if hf c3
        refine lv_iload_n hx hb dX5_removeFrom_24 rfl (lv_at hl 2 rfl) ?_
        refine lv_aload_n hx hb dX5_removeFrom_25 rfl (lv_at hl 0 rfl) ?_
        refine g_get hx hb hts in_5 hown hK (hR.f hi).2.2.1 rfl 0 (by decide) l_11 rfl rfl dX5_removeFrom_26 ?_
        refine g_aslen hx hb hK (hR.f hi) dX5_removeFrom_29 ?_
        refine lv_icmp_ge (tgt := 73) hx hb dX5_removeFrom_30 (by decide) (fun c4 => ?_) (fun c4 => ?_)
        · replace hf := g_it hf c4
          obtain rfl := g_s1 hf
          exact g_vret hx hb hlocks hr hS hR g_le.rf ⟨rfl, rfl⟩ (by omega) (by omega) dX5_removeFrom_73
        · replace hf := g_if hf c4
          refine lv_aload_n hx hb dX5_removeFrom_33 rfl (lv_at hl 0 rfl) ?_
          refine g_get hx hb hts in_5 hown hK (hR.f hi).2.2.1 rfl 0 (by decide) l_11 rfl rfl dX5_removeFrom_34 ?_
          refine lv_iload_n hx hb dX5_removeFrom_37 rfl (lv_at hl 2 rfl) ?_
          refine lv_iload_n hx hb dX5_removeFrom_38 rfl (lv_at hl 2 rfl) ?_
          refine lv_iload_n hx hb dX5_removeFrom_39 rfl (lv_at hl 1 rfl) ?_
          refine lv_icmp_ge (tgt := 65) hx hb dX5_removeFrom_40 (by decide) (fun c5 => ?_) (fun c5 => ?_)
          · replace hf := g_it hf c5
            refine lv_null hx hb dX5_removeFrom_65 ?_
            obtain ⟨hg6, hf⟩ := g_gd hf
            refine g_asstN hx hb hK hS hR hi hg6 dX5_removeFrom_66 (fun H locs hR hS => ?_)
            obtain ⟨z7, ez7, hf⟩ := g_let_e hf
            replace hR : g_R G E (g_setS μ i z7) H := by rw [ez7]; exact hR
            refine lv_iinc (v := x3 + 1) (lv' := [(3, .int (x3 + 1)), (0, .ref (g_stA G i + 2)), (2, .int x2)]) hx hb dX5_removeFrom_67 hl (k := 2) rfl rfl (by decide) rfl (fun ls hl => ?_)
            refine lv_goto (tgt := 19) hx hb dX5_removeFrom_70 (by decide) ?_
            exact ih _ _ _ _ _ _ hf  hR hS (lv_sub hl [1, 2, 0] rfl)
          · replace hf := g_if hf c5
            refine lv_iload_n hx hb dX5_removeFrom_43 rfl (lv_at hl 2 rfl) ?_
            refine lv_iconst (v := 1) hx hb dX5_removeFrom_44 (by decide) ?_
            refine lv_iadd hx hb dX5_removeFrom_45 ?_
            refine lv_aload_n hx hb dX5_removeFrom_46 rfl (lv_at hl 0 rfl) ?_
            refine g_get hx hb hts in_5 hown hK (hR.f hi).2.2.1 rfl 0 (by decide) l_11 rfl rfl dX5_removeFrom_47 ?_
            refine g_aslen hx hb hK (hR.f hi) dX5_removeFrom_50 ?_
            refine lv_icmp_ge (tgt := 65) hx hb dX5_removeFrom_51 (by decide) (fun c8 => ?_) (fun c8 => ?_)
            · replace hf := g_it hf c8
              refine lv_null hx hb dX5_removeFrom_65 ?_
              obtain ⟨hg9, hf⟩ := g_gd hf
              refine g_asstN hx hb hK hS hR hi hg9 dX5_removeFrom_66 (fun H locs hR hS => ?_)
              obtain ⟨z10, ez10, hf⟩ := g_let_e hf
              replace hR : g_R G E (g_setS μ i z10) H := by rw [ez10]; exact hR
              refine lv_iinc (v := x3 + 1) (lv' := [(3, .int (x3 + 1)), (0, .ref (g_stA G i + 2)), (2, .int x2)]) hx hb dX5_removeFrom_67 hl (k := 2) rfl rfl (by decide) rfl (fun ls hl => ?_)
              refine lv_goto (tgt := 19) hx hb dX5_removeFrom_70 (by decide) ?_
              exact ih _ _ _ _ _ _ hf  hR hS (lv_sub hl [1, 2, 0] rfl)
            · replace hf := g_if hf c8
              refine lv_aload_n hx hb dX5_removeFrom_54 rfl (lv_at hl 0 rfl) ?_
              refine g_get hx hb hts in_5 hown hK (hR.f hi).2.2.1 rfl 0 (by decide) l_11 rfl rfl dX5_removeFrom_55 ?_
              refine lv_iload_n hx hb dX5_removeFrom_58 rfl (lv_at hl 2 rfl) ?_
              refine lv_iconst (v := 1) hx hb dX5_removeFrom_59 (by decide) ?_
              refine lv_iadd hx hb dX5_removeFrom_60 ?_
              obtain ⟨hg11, hf⟩ := g_gd hf
              refine g_asld hx hb hK (hR.f hi) hg11 dX5_removeFrom_61 (fun hnn => ?_) (fun v12 a13 hnn hE_a13 => ?_)
              · replace hf := g_ocn hf hnn
                refine lv_goto (tgt := 66) hx hb dX5_removeFrom_62 (by decide) ?_
                obtain ⟨hg14, hf⟩ := g_gd hf
                refine g_asstN hx hb hK hS hR hi hg14 dX5_removeFrom_66 (fun H locs hR hS => ?_)
                obtain ⟨z15, ez15, hf⟩ := g_let_e hf
                replace hR : g_R G E (g_setS μ i z15) H := by rw [ez15]; exact hR
                refine lv_iinc (v := x3 + 1) (lv' := [(3, .int (x3 + 1)), (0, .ref (g_stA G i + 2)), (2, .int x2)]) hx hb dX5_removeFrom_67 hl (k := 2) rfl rfl (by decide) rfl (fun ls hl => ?_)
                refine lv_goto (tgt := 19) hx hb dX5_removeFrom_70 (by decide) ?_
                exact ih _ _ _ _ _ _ hf  hR hS (lv_sub hl [1, 2, 0] rfl)
              · replace hf := g_ocs hf hnn
                refine lv_goto (tgt := 66) hx hb dX5_removeFrom_62 (by decide) ?_
                obtain ⟨hg16, hf⟩ := g_gd hf
                refine g_asst hx hb hK hS hR hi hE_a13 hg16 dX5_removeFrom_66 (fun H locs hR hS => ?_)
                obtain ⟨z17, ez17, hf⟩ := g_let_e hf
                replace hR : g_R G E (g_setS μ i z17) H := by rw [ez17]; exact hR
                refine lv_iinc (v := x3 + 1) (lv' := [(3, .int (x3 + 1)), (0, .ref (g_stA G i + 2)), (2, .int x2)]) hx hb dX5_removeFrom_67 hl (k := 2) rfl rfl (by decide) rfl (fun ls hl => ?_)
                refine lv_goto (tgt := 19) hx hb dX5_removeFrom_70 (by decide) ?_
                exact ih _ _ _ _ _ _ hf  hR hS (lv_sub hl [1, 2, 0] rfl)
  unfold f5_removeFrom at hf
  refine lv_iload_n hx hb dX5_removeFrom_0 rfl (lv_at hl 1 rfl) ?_
  refine lv_if_ge (tgt := 5) hx hb dX5_removeFrom_1 (by decide) (fun c1 => ?_) (fun c1 => ?_)
  · replace hf := g_it hf c1
    refine lv_iload_n hx hb dX5_removeFrom_5 rfl (lv_at hl 1 rfl) ?_
    refine lv_iload_n hx hb dX5_removeFrom_6 rfl (lv_at hl 1 rfl) ?_
    refine lv_bipush (v := 8) hx hb dX5_removeFrom_7 (by decide) ?_
    refine lv_irem hx hb dX5_removeFrom_9 (by decide) ?_
    refine lv_isub hx hb dX5_removeFrom_10 ?_
    refine lv_bipush (v := 8) hx hb dX5_removeFrom_11 (by decide) ?_
    refine lv_iadd hx hb dX5_removeFrom_13 ?_
    refine lv_iconst (v := 1) hx hb dX5_removeFrom_14 (by decide) ?_
    refine lv_isub hx hb dX5_removeFrom_15 ?_
    refine lv_topi (fun t2 et2 => ?_)
    replace hf := g_let_at hf et2
    refine lv_istore_n (lv' := [(2, .int t2), (0, .ref (g_stA G i + 2)), (1, .int p1)]) hx hb dX5_removeFrom_16 rfl hl (by decide) rfl (fun ls hl => ?_)
    refine lv_iload_n hx hb dX5_removeFrom_17 rfl (lv_at hl 2 rfl) ?_
    refine lv_istore_n (lv' := [(3, .int p1), (2, .int t2), (0, .ref (g_stA G i + 2)), (1, .int p1)]) hx hb dX5_removeFrom_18 rfl hl (by decide) rfl (fun ls hl => ?_)
    exact hB19 70 _ _ _ _ _ _ hf  hR hS (lv_sub hl [2, 1, 0] rfl)
  · replace hf := g_if hf c1
    obtain rfl := g_s1 hf
    exact g_vret hx hb hlocks hr hS hR g_le.rf ⟨rfl, rfl⟩ (by omega) (by omega) dX5_removeFrom_4
set_option maxHeartbeats 4000000 in
set_option maxRecDepth 100000 in
theorem c5_sheetsBefore (l : Launch) (G : gG) (E : gEn) (μ : gMu) (i : Nat) (hi : i < 7) (z0 : gSt) (p1 : Int32) (ro : Int32) (hf : f5_sheetsBefore z0 p1 = some ro) : Met l yX5_sheetsBefore wsX5_sheetsBefore ({ frames := 1, cells := 0, slots := 0, locals := 23 } : Room) (g_Pre G E (g_setS μ i z0) [.ref (g_stA G i + 2), .int p1]) (g_Q G E (g_setS μ i z0) (fun E' v => E' = E ∧ v = some (.int ro))) 0 0 (g_A G) := by
  refine Met.ofW (cc := cX5_sheetsBefore) (maxL := 2) (ret := some .int) (by decide) rfl ?_
  intro p e s m args below meth c s₁ B hml hv
  obtain ⟨rfl, hR, hK⟩ := hv
  have hx := B.exec
  have hb := B.bytes
  have hr := B.returns
  have hts := atoms_spec (ws := wsX5_sheetsBefore) B.pre
  have hown : s.vm.findClass RX5 = some m.cls := findClass_of_methodNamed B.named
  have hlocks := B.notSynchronized
  have hS : va_S (g_A G) s.heap s.heap [] := va_S.rf
  have hl := lv_entry ([.ref (g_stA G i + 2), .int p1]) (n := 2) (Nat.le_of_ble_eq_true rfl)
  rw [lg_entry_eq]
  generalize (lg_sl ([.ref (g_stA G i + 2), .int p1]) ++ List.replicate (2 - (lg_sl ([.ref (g_stA G i + 2), .int p1])).length) Slot.unset).toArray = ls at hl ⊢
  have hl : lv_has ls 2 [(0, .ref (g_stA G i + 2)), (1, .int p1)] := hl
  unfold f5_sheetsBefore at hf
  refine lv_aload_n hx hb dX5_sheetsBefore_0 rfl (lv_at hl 0 rfl) ?_
  refine lv_iload_n hx hb dX5_sheetsBefore_1 rfl (lv_at hl 1 rfl) ?_
  refine lv_bipush (v := 8) hx hb dX5_sheetsBefore_2 (by decide) ?_
  refine lv_idiv hx hb dX5_sheetsBefore_4 (by decide) ?_
  obtain ⟨r1, hc2, hf⟩ := g_b1_e hf
  refine g_call (va_runV (As := [.int (p1 / (8 : Int32))]) (rest := []) ⟨hx, hb, hml, hown, hts⟩ (c5_filled l G E μ i hi _ _ _ hc2) (cwV 1 hts gX5_sheetsBefore_X5_filled rfl rfl rfl (by decide +kernel) ⟨Nat.le_of_ble_eq_true rfl, Nat.le_of_ble_eq_true rfl⟩) (g_preV (ci := 5) hR hK ((hR.f hi).2.2.1) rfl) rfl rfl hl.1 rfl (lv_room (Nat.le_of_ble_eq_true rfl)) dX5_sheetsBefore_5 ⟨by show _ ≤ 0; omega, by show _ ≤ 0; omega⟩) hS (fun w3 H locs hp hR hS => ?_)
  subst hp
  refine lv_iconst (v := 1) hx hb dX5_sheetsBefore_8 (by decide) ?_
  refine lv_isub hx hb dX5_sheetsBefore_9 ?_
  refine lv_iload_n hx hb dX5_sheetsBefore_10 rfl (lv_at hl 1 rfl) ?_
  refine lv_bipush (v := 8) hx hb dX5_sheetsBefore_11 (by decide) ?_
  refine lv_irem hx hb dX5_sheetsBefore_13 (by decide) ?_
  refine lv_isub hx hb dX5_sheetsBefore_14 ?_
  obtain rfl := g_s1 hf
  exact g_iret hx hb hlocks hr hS hR g_le.rf ⟨rfl, rfl⟩ (by omega) (by omega) dX5_sheetsBefore_15
set_option maxHeartbeats 4000000 in
set_option maxRecDepth 100000 in
theorem c5_sheetsThere (l : Launch) (G : gG) (E : gEn) (μ : gMu) (i : Nat) (hi : i < 7) (z0 : gSt)  (ro : Int32) (hf : f5_sheetsThere z0 = some ro) : Met l yX5_sheetsThere wsX5_sheetsThere ({ frames := 0, cells := 0, slots := 0, locals := 0 } : Room) (g_Pre G E (g_setS μ i z0) [.ref (g_stA G i + 2)]) (g_Q G E (g_setS μ i z0) (fun E' v => E' = E ∧ v = some (.int ro))) 0 0 (g_A G) := by
  refine Met.ofW (cc := cX5_sheetsThere) (maxL := 3) (ret := some .int) (by decide) rfl ?_
  intro p e s m args below meth c s₁ B hml hv
  obtain ⟨rfl, hR, hK⟩ := hv
  have hx := B.exec
  have hb := B.bytes
  have hr := B.returns
  have hts := atoms_spec (ws := wsX5_sheetsThere) B.pre
  have hown : s.vm.findClass RX5 = some m.cls := findClass_of_methodNamed B.named
  have hlocks := B.notSynchronized
  have hS : va_S (g_A G) s.heap s.heap [] := va_S.rf
  have hl := lv_entry ([.ref (g_stA G i + 2)]) (n := 3) (Nat.le_of_ble_eq_true rfl)
  rw [lg_entry_eq]
  generalize (lg_sl ([.ref (g_stA G i + 2)]) ++ List.replicate (3 - (lg_sl ([.ref (g_stA G i + 2)])).length) Slot.unset).toArray = ls at hl ⊢
  have hl : lv_has ls 3 [(0, .ref (g_stA G i + 2))] := hl
  have in_5 : ∀ w ∈ u_ws RX5 TX5 2, w ∈ wsX5_sheetsThere := ifX5_sheetsThere_5
  have l_11 := hts (.fieldLink RX5 11 "GlassRacks$Racks" "slots" "[LGlassRacks$Sheet;") (by decide +kernel)
  have hB4 : ∀ (n : Nat) (z0 : gSt) (x1 : Int32) (x2 : Int32) (H : Heap) (locs : List Loc) (ls : Array Slot), f5_sheetsThere_4 n z0 x1 x2 = some ro → g_R G E (g_setS μ i z0) H → va_S (g_A G) s.heap H locs → lv_has ls 3 [(0, .ref (g_stA G i + 2)), (1, .int x1), (2, .int x2)] → W p l e (headSpec wsX5_sheetsThere ({ frames := 0, cells := 0, slots := 0, locals := 0 } : Room)).room s m ([.ref (g_stA G i + 2)] : List Value).toArray below meth c H locs 0 0 (MQ below (g_Q G E (g_setS μ i z0) (fun E' v => E' = E ∧ v = some (.int ro))) ([.ref (g_stA G i + 2)] : List Value).toArray s 0 0 (g_A G)) (F0 m 4 ls []) := by
    intro n
    induction n with
    | zero =>
      intro z0 x1 x2 H locs ls hf
      rw [f5_sheetsThere_4] at hf
      cases hf
    | succ n ih =>
      intro z0 x1 x2 H locs ls hf  hR hS hl
      rw [f5_sheetsThere_4] at hf
      refine lv_iload_n hx hb dX5_sheetsThere_4 rfl (lv_at hl 2 rfl) ?_
      refine lv_aload_n hx hb dX5_sheetsThere_5 rfl (lv_at hl 0 rfl) ?_
      refine g_get hx hb hts in_5 hown hK (hR.f hi).2.2.1 rfl 0 (by decide) l_11 rfl rfl dX5_sheetsThere_6 ?_
      refine g_aslen hx hb hK (hR.f hi) dX5_sheetsThere_9 ?_
      refine lv_icmp_ge (tgt := 31) hx hb dX5_sheetsThere_10 (by decide) (fun c1 => ?_) (fun c1 => ?_)
      · replace hf := g_it hf c1
        refine lv_iload_n hx hb dX5_sheetsThere_31 rfl (lv_at hl 1 rfl) ?_
        obtain rfl := g_s1 hf
        exact g_iret hx hb hlocks hr hS hR g_le.rf ⟨rfl, rfl⟩ (by omega) (by omega) dX5_sheetsThere_32
      · replace hf := g_if hf c1
        refine lv_aload_n hx hb dX5_sheetsThere_13 rfl (lv_at hl 0 rfl) ?_
        refine g_get hx hb hts in_5 hown hK (hR.f hi).2.2.1 rfl 0 (by decide) l_11 rfl rfl dX5_sheetsThere_14 ?_
        refine lv_iload_n hx hb dX5_sheetsThere_17 rfl (lv_at hl 2 rfl) ?_
        obtain ⟨hg2, hf⟩ := g_gd hf
        refine g_asld hx hb hK (hR.f hi) hg2 dX5_sheetsThere_18 (fun hnn => ?_) (fun v3 a4 hnn hE_a4 => ?_)
        · replace hf := g_ocn hf hnn
          refine lv_ifnullN (tgt := 25) hx hb dX5_sheetsThere_19 (by decide) ?_
          refine lv_iinc (v := x2 + 1) (lv' := [(2, .int (x2 + 1)), (0, .ref (g_stA G i + 2)), (1, .int x1)]) hx hb dX5_sheetsThere_25 hl (k := 2) rfl rfl (by decide) rfl (fun ls hl => ?_)
          refine lv_goto (tgt := 4) hx hb dX5_sheetsThere_28 (by decide) ?_
          exact ih _ _ _ _ _ _ hf  hR hS (lv_sub hl [1, 2, 0] rfl)
        · replace hf := g_ocs hf hnn
          refine lv_ifnull hx hb dX5_sheetsThere_19 ?_
          refine lv_iinc (v := x1 + 1) (lv' := [(1, .int (x1 + 1)), (0, .ref (g_stA G i + 2)), (2, .int x2)]) hx hb dX5_sheetsThere_22 hl (k := 1) rfl rfl (by decide) rfl (fun ls hl => ?_)
          refine lv_iinc (v := x2 + 1) (lv' := [(2, .int (x2 + 1)), (1, .int (x1 + 1)), (0, .ref (g_stA G i + 2))]) hx hb dX5_sheetsThere_25 hl (k := 2) rfl rfl (by decide) rfl (fun ls hl => ?_)
          refine lv_goto (tgt := 4) hx hb dX5_sheetsThere_28 (by decide) ?_
          exact ih _ _ _ _ _ _ hf  hR hS (lv_sub hl [2, 1, 0] rfl)
  unfold f5_sheetsThere at hf
  refine lv_iconst (v := 0) hx hb dX5_sheetsThere_0 (by decide) ?_
  refine lv_istore_n (lv' := [(1, .int (0 : Int32)), (0, .ref (g_stA G i + 2))]) hx hb dX5_sheetsThere_1 rfl hl (by decide) rfl (fun ls hl => ?_)
  refine lv_iconst (v := 0) hx hb dX5_sheetsThere_2 (by decide) ?_
  refine lv_istore_n (lv' := [(2, .int (0 : Int32)), (1, .int (0 : Int32)), (0, .ref (g_stA G i + 2))]) hx hb dX5_sheetsThere_3 rfl hl (by decide) rfl (fun ls hl => ?_)
  exact hB4 70 _ _ _ _ _ _ hf  hR hS (lv_sub hl [2, 1, 0] rfl)
set_option maxHeartbeats 4000000 in
set_option maxRecDepth 100000 in
theorem c5_slotOf (l : Launch) (G : gG) (E : gEn) (μ : gMu) (i : Nat) (hi : i < 7) (z0 : gSt) (p1 : Int32) (ro : Int32) (hf : f5_slotOf z0 p1 = some ro) : Met l yX5_slotOf wsX5_slotOf ({ frames := 0, cells := 0, slots := 0, locals := 0 } : Room) (g_Pre G E (g_setS μ i z0) [.ref (g_stA G i + 2), .int p1]) (g_Q G E (g_setS μ i z0) (fun E' v => E' = E ∧ v = some (.int ro))) 0 0 (g_A G) := by
  refine Met.ofW (cc := cX5_slotOf) (maxL := 4) (ret := some .int) (by decide) rfl ?_
  intro p e s m args below meth c s₁ B hml hv
  obtain ⟨rfl, hR, hK⟩ := hv
  have hx := B.exec
  have hb := B.bytes
  have hr := B.returns
  have hts := atoms_spec (ws := wsX5_slotOf) B.pre
  have hown : s.vm.findClass RX5 = some m.cls := findClass_of_methodNamed B.named
  have hlocks := B.notSynchronized
  have hS : va_S (g_A G) s.heap s.heap [] := va_S.rf
  have hl := lv_entry ([.ref (g_stA G i + 2), .int p1]) (n := 4) (Nat.le_of_ble_eq_true rfl)
  rw [lg_entry_eq]
  generalize (lg_sl ([.ref (g_stA G i + 2), .int p1]) ++ List.replicate (4 - (lg_sl ([.ref (g_stA G i + 2), .int p1])).length) Slot.unset).toArray = ls at hl ⊢
  have hl : lv_has ls 4 [(0, .ref (g_stA G i + 2)), (1, .int p1)] := hl
  have in_5 : ∀ w ∈ u_ws RX5 TX5 2, w ∈ wsX5_slotOf := ifX5_slotOf_5
  have in_7 : ∀ w ∈ u_ws RX7 TX7 5, w ∈ wsX5_slotOf := ifX5_slotOf_7
  have l_11 := hts (.fieldLink RX5 11 "GlassRacks$Racks" "slots" "[LGlassRacks$Sheet;") (by decide +kernel)
  have l_25 := hts (.fieldLink RX5 25 "GlassRacks$Sheet" "number" "I") (by decide +kernel)
  have hB2 : ∀ (n : Nat) (z0 : gSt) (x1 : Int32) (x2 : Int32) (H : Heap) (locs : List Loc) (ls : Array Slot), f5_slotOf_2 n z0 x1 x2 = some ro → g_R G E (g_setS μ i z0) H → va_S (g_A G) s.heap H locs → lv_has ls 4 [(0, .ref (g_stA G i + 2)), (1, .int x1), (2, .int x2)] → W p l e (headSpec wsX5_slotOf ({ frames := 0, cells := 0, slots := 0, locals := 0 } : Room)).room s m ([.ref (g_stA G i + 2), .int p1] : List Value).toArray below meth c H locs 0 0 (MQ below (g_Q G E (g_setS μ i z0) (fun E' v => E' = E ∧ v = some (.int ro))) ([.ref (g_stA G i + 2), .int p1] : List Value).toArray s 0 0 (g_A G)) (F0 m 2 ls []) := by
    intro n
    induction n with
    | zero =>
      intro z0 x1 x2 H locs ls hf
      rw [f5_slotOf_2] at hf
      cases hf
    | succ n ih =>
      intro z0 x1 x2 H locs ls hf  hR hS hl
      rw [f5_slotOf_2] at hf
      refine lv_iload_n hx hb dX5_slotOf_2 rfl (lv_at hl 2 rfl) ?_
      refine lv_aload_n hx hb dX5_slotOf_3 rfl (lv_at hl 0 rfl) ?_
      refine g_get hx hb hts in_5 hown hK (hR.f hi).2.2.1 rfl 0 (by decide) l_11 rfl rfl dX5_slotOf_4 ?_
      refine g_aslen hx hb hK (hR.f hi) dX5_slotOf_7 ?_
      refine lv_icmp_ge (tgt := 38) hx hb dX5_slotOf_8 (by decide) (fun c1 => ?_) (fun c1 => ?_)
      · replace hf := g_it hf c1
        refine lv_bipush (v := -5) hx hb dX5_slotOf_38 (by decide) ?_
        obtain rfl := g_s1 hf
        exact g_iret hx hb hlocks hr hS hR g_le.rf ⟨rfl, rfl⟩ (by omega) (by omega) dX5_slotOf_40
      · replace hf := g_if hf c1
        refine lv_aload_n hx hb dX5_slotOf_11 rfl (lv_at hl 0 rfl) ?_
        refine g_get hx hb hts in_5 hown hK (hR.f hi).2.2.1 rfl 0 (by decide) l_11 rfl rfl dX5_slotOf_12 ?_
        refine lv_iload_n hx hb dX5_slotOf_15 rfl (lv_at hl 2 rfl) ?_
        obtain ⟨hg2, hf⟩ := g_gd hf
        refine g_asld hx hb hK (hR.f hi) hg2 dX5_slotOf_16 (fun hnn => ?_) (fun v3 a4 hnn hE_a4 => ?_)
        · replace hf := g_ocn hf hnn
          refine lv_astore_nN (lv' := [(3, .null), (0, .ref (g_stA G i + 2)), (1, .int x1), (2, .int x2)]) hx hb dX5_slotOf_17 rfl hl (by decide) rfl (fun ls hl => ?_)
          refine lv_aload_nN hx hb dX5_slotOf_18 rfl (lv_at hl 0 rfl) ?_
          refine lv_ifnullN (tgt := 32) hx hb dX5_slotOf_19 (by decide) ?_
          refine lv_iinc (v := x2 + 1) (lv' := [(2, .int (x2 + 1)), (3, .null), (0, .ref (g_stA G i + 2)), (1, .int x1)]) hx hb dX5_slotOf_32 hl (k := 3) rfl rfl (by decide) rfl (fun ls hl => ?_)
          refine lv_goto (tgt := 2) hx hb dX5_slotOf_35 (by decide) ?_
          exact ih _ _ _ _ _ _ hf  hR hS (lv_sub hl [2, 3, 0] rfl)
        · replace hf := g_ocs hf hnn
          refine lv_astore_n (lv' := [(3, .ref a4), (0, .ref (g_stA G i + 2)), (1, .int x1), (2, .int x2)]) hx hb dX5_slotOf_17 rfl hl (by decide) rfl (fun ls hl => ?_)
          refine lv_aload_n hx hb dX5_slotOf_18 rfl (lv_at hl 0 rfl) ?_
          refine lv_ifnull hx hb dX5_slotOf_19 ?_
          refine lv_aload_n hx hb dX5_slotOf_22 rfl (lv_at hl 0 rfl) ?_
          refine g_get hx hb hts in_7 hown hK ((hR.2.2.2.2.2 _ _ hE_a4).2) rfl 0 (by decide) l_25 rfl rfl dX5_slotOf_23 ?_
          refine lv_iload_n hx hb dX5_slotOf_26 rfl (lv_at hl 2 rfl) ?_
          refine lv_icmp_ne (tgt := 32) hx hb dX5_slotOf_27 (by decide) (fun c5 => ?_) (fun c5 => ?_)
          · replace hf := g_it hf c5
            refine lv_iinc (v := x2 + 1) (lv' := [(2, .int (x2 + 1)), (3, .ref a4), (0, .ref (g_stA G i + 2)), (1, .int x1)]) hx hb dX5_slotOf_32 hl (k := 3) rfl rfl (by decide) rfl (fun ls hl => ?_)
            refine lv_goto (tgt := 2) hx hb dX5_slotOf_35 (by decide) ?_
            exact ih _ _ _ _ _ _ hf  hR hS (lv_sub hl [2, 3, 0] rfl)
          · replace hf := g_if hf (fun q => q c5)
            refine lv_iload_n hx hb dX5_slotOf_30 rfl (lv_at hl 3 rfl) ?_
            obtain rfl := g_s1 hf
            exact g_iret hx hb hlocks hr hS hR g_le.rf ⟨rfl, rfl⟩ (by omega) (by omega) dX5_slotOf_31
  unfold f5_slotOf at hf
  refine lv_iconst (v := 0) hx hb dX5_slotOf_0 (by decide) ?_
  refine lv_istore_n (lv' := [(2, .int (0 : Int32)), (0, .ref (g_stA G i + 2)), (1, .int p1)]) hx hb dX5_slotOf_1 rfl hl (by decide) rfl (fun ls hl => ?_)
  exact hB2 70 _ _ _ _ _ _ hf  hR hS (lv_sub hl [1, 2, 0] rfl)
set_option maxHeartbeats 4000000 in
set_option maxRecDepth 100000 in
theorem c9_isSide (l : Launch) (G : gG) (E : gEn) (μ : gMu) (p0 : Int32) (ro : Int32) (hf : f9_isSide p0 = some ro) : Met l yX9_isSide wsX9_isSide ({ frames := 0, cells := 0, slots := 0, locals := 0 } : Room) (g_Pre G E μ [.int p0]) (g_Q G E μ (fun E' v => E' = E ∧ v = some (.int ro))) 0 0 (g_A G) := by
  refine Met.ofW (cc := cX9_isSide) (maxL := 1) (ret := some .boolean) (by decide) rfl ?_
  intro p e s m args below meth c s₁ B hml hv
  obtain ⟨rfl, hR, hK⟩ := hv
  have hx := B.exec
  have hb := B.bytes
  have hr := B.returns
  have hts := atoms_spec (ws := wsX9_isSide) B.pre
  have hown : s.vm.findClass RX9 = some m.cls := findClass_of_methodNamed B.named
  have hlocks := B.notSynchronized
  have hS : va_S (g_A G) s.heap s.heap [] := va_S.rf
  have hl := lv_entry ([.int p0]) (n := 1) (Nat.le_of_ble_eq_true rfl)
  rw [lg_entry_eq]
  generalize (lg_sl ([.int p0]) ++ List.replicate (1 - (lg_sl ([.int p0])).length) Slot.unset).toArray = ls at hl ⊢
  have hl : lv_has ls 1 [(0, .int p0)] := hl
  unfold f9_isSide at hf
  refine lv_iload_n hx hb dX9_isSide_0 rfl (lv_at hl 0 rfl) ?_
  refine lv_iconst (v := 1) hx hb dX9_isSide_1 (by decide) ?_
  refine lv_icmp_lt (tgt := 15) hx hb dX9_isSide_2 (by decide) (fun c1 => ?_) (fun c1 => ?_)
  · replace hf := g_it hf c1
    refine lv_iconst (v := 0) hx hb dX9_isSide_15 (by decide) ?_
    obtain rfl := g_s1 hf
    exact g_zret hx hb hlocks hr hS hR g_le.rf (by decide) ⟨rfl, rfl⟩ (by omega) (by omega) dX9_isSide_16
  · replace hf := g_if hf c1
    refine lv_iload_n hx hb dX9_isSide_5 rfl (lv_at hl 0 rfl) ?_
    refine lv_bipush (v := 99) hx hb dX9_isSide_6 (by decide) ?_
    refine lv_icmp_gt (tgt := 15) hx hb dX9_isSide_8 (by decide) (fun c2 => ?_) (fun c2 => ?_)
    · replace hf := g_it hf c2
      refine lv_iconst (v := 0) hx hb dX9_isSide_15 (by decide) ?_
      obtain rfl := g_s1 hf
      exact g_zret hx hb hlocks hr hS hR g_le.rf (by decide) ⟨rfl, rfl⟩ (by omega) (by omega) dX9_isSide_16
    · replace hf := g_if hf c2
      refine lv_iconst (v := 1) hx hb dX9_isSide_11 (by decide) ?_
      refine lv_goto (tgt := 16) hx hb dX9_isSide_12 (by decide) ?_
      obtain rfl := g_s1 hf
      exact g_zret hx hb hlocks hr hS hR g_le.rf (by decide) ⟨rfl, rfl⟩ (by omega) (by omega) dX9_isSide_16
set_option maxHeartbeats 4000000 in
set_option maxRecDepth 100000 in
theorem c6_isAllowed (l : Launch) (G : gG) (E : gEn) (μ : gMu) (p0 : Int32) (p1 : Int32) (ro : Int32) (hf : f6_isAllowed p0 p1 = some ro) : Met l yX6_isAllowed wsX6_isAllowed ({ frames := 1, cells := 0, slots := 0, locals := 20 } : Room) (g_Pre G E μ [.int p0, .int p1]) (g_Q G E μ (fun E' v => E' = E ∧ v = some (.int ro))) 0 0 (g_A G) := by
  refine Met.ofW (cc := cX6_isAllowed) (maxL := 2) (ret := some .boolean) (by decide) rfl ?_
  intro p e s m args below meth c s₁ B hml hv
  obtain ⟨rfl, hR, hK⟩ := hv
  have hx := B.exec
  have hb := B.bytes
  have hr := B.returns
  have hts := atoms_spec (ws := wsX6_isAllowed) B.pre
  have hown : s.vm.findClass RX6 = some m.cls := findClass_of_methodNamed B.named
  have hlocks := B.notSynchronized
  have hS : va_S (g_A G) s.heap s.heap [] := va_S.rf
  have hl := lv_entry ([.int p0, .int p1]) (n := 2) (Nat.le_of_ble_eq_true rfl)
  rw [lg_entry_eq]
  generalize (lg_sl ([.int p0, .int p1]) ++ List.replicate (2 - (lg_sl ([.int p0, .int p1])).length) Slot.unset).toArray = ls at hl ⊢
  have hl : lv_has ls 2 [(0, .int p0), (1, .int p1)] := hl
  have k_39 : va_Nw (.methodLinkNest RX6 39 yX9_isSide "GlassRacks") s := hK.2 (RX6, 39, yX9_isSide) (by decide +kernel)
  have k2_39 := hts (.initialized RX9) (by decide +kernel)
  have k3_39 := hts (.static yX9_isSide) (by decide +kernel)
  unfold f6_isAllowed at hf
  refine lv_iload_n hx hb dX6_isAllowed_0 rfl (lv_at hl 0 rfl) ?_
  by_cases hc1_0 : p0 = (0 : Int32)
  · replace hf := g_it hf hc1_0
    refine lv_tableIn (off := 35) (tgt := 36) hx hb dX6_isAllowed_1 (by rw [hc1_0]; decide) (by rw [hc1_0]; decide) (by rw [hc1_0]; rfl) (by decide) ?_
    refine lv_iload_n hx hb dX6_isAllowed_36 rfl (lv_at hl 1 rfl) ?_
    refine lv_if_lt (tgt := 49) hx hb dX6_isAllowed_37 (by decide) (fun c1 => ?_) (fun c1 => ?_)
    · replace hf := g_it hf c1
      refine lv_iconst (v := 0) hx hb dX6_isAllowed_49 (by decide) ?_
      obtain rfl := g_s1 hf
      exact g_zret hx hb hlocks hr hS hR g_le.rf (by decide) ⟨rfl, rfl⟩ (by omega) (by omega) dX6_isAllowed_50
    · replace hf := g_if hf c1
      refine lv_iload_n hx hb dX6_isAllowed_40 rfl (lv_at hl 1 rfl) ?_
      refine lv_iconst (v := 5) hx hb dX6_isAllowed_41 (by decide) ?_
      refine lv_icmp_gt (tgt := 49) hx hb dX6_isAllowed_42 (by decide) (fun c2 => ?_) (fun c2 => ?_)
      · replace hf := g_it hf c2
        refine lv_iconst (v := 0) hx hb dX6_isAllowed_49 (by decide) ?_
        obtain rfl := g_s1 hf
        exact g_zret hx hb hlocks hr hS hR g_le.rf (by decide) ⟨rfl, rfl⟩ (by omega) (by omega) dX6_isAllowed_50
      · replace hf := g_if hf c2
        refine lv_iconst (v := 1) hx hb dX6_isAllowed_45 (by decide) ?_
        refine lv_goto (tgt := 50) hx hb dX6_isAllowed_46 (by decide) ?_
        obtain rfl := g_s1 hf
        exact g_zret hx hb hlocks hr hS hR g_le.rf (by decide) ⟨rfl, rfl⟩ (by omega) (by omega) dX6_isAllowed_50
  · replace hf := g_if hf hc1_0
    by_cases hc2_1 : p0 = (1 : Int32)
    · replace hf := g_it hf hc2_1
      refine lv_tableIn (off := 50) (tgt := 51) hx hb dX6_isAllowed_1 (by rw [hc2_1]; decide) (by rw [hc2_1]; decide) (by rw [hc2_1]; rfl) (by decide) ?_
      refine lv_iload_n hx hb dX6_isAllowed_51 rfl (lv_at hl 1 rfl) ?_
      obtain ⟨r3, hc4, hf⟩ := g_b1_e hf
      refine g_call (va_runSN (As := [.int p1]) (rest := []) ⟨hx, hb, hml, hown, hts⟩ (c9_isSide l G E μ _ _ hc4) ⟨va_cnB 1 hts gX6_isAllowed_X9_isSide_n39 rfl rfl rfl k_39 k2_39 (by decide +kernel) ⟨Nat.le_of_ble_eq_true rfl, Nat.le_of_ble_eq_true rfl⟩, k3_39, trivial⟩ (g_pre hR hK) rfl rfl hl.1 rfl (lv_room (Nat.le_of_ble_eq_true rfl)) dX6_isAllowed_52 ⟨by show _ ≤ 0; omega, by show _ ≤ 0; omega⟩) hS (fun w5 H locs hp hR hS => ?_)
      subst hp
      obtain ⟨hz6, hf⟩ := g_gd hf
      obtain rfl := g_s1 hf
      exact g_zret hx hb hlocks hr hS hR g_le.rf hz6 ⟨rfl, rfl⟩ (by omega) (by omega) dX6_isAllowed_55
    · replace hf := g_if hf hc2_1
      by_cases hc3_2 : p0 = (2 : Int32)
      · replace hf := g_it hf hc3_2
        refine lv_tableIn (off := 55) (tgt := 56) hx hb dX6_isAllowed_1 (by rw [hc3_2]; decide) (by rw [hc3_2]; decide) (by rw [hc3_2]; rfl) (by decide) ?_
        refine lv_iload_n hx hb dX6_isAllowed_56 rfl (lv_at hl 1 rfl) ?_
        refine lv_if_eq (tgt := 65) hx hb dX6_isAllowed_57 (by decide) (fun c7 => ?_) (fun c7 => ?_)
        · replace hf := g_it hf c7
          refine lv_iconst (v := 1) hx hb dX6_isAllowed_65 (by decide) ?_
          refine lv_goto (tgt := 70) hx hb dX6_isAllowed_66 (by decide) ?_
          obtain rfl := g_s1 hf
          exact g_zret hx hb hlocks hr hS hR g_le.rf (by decide) ⟨rfl, rfl⟩ (by omega) (by omega) dX6_isAllowed_70
        · replace hf := g_if hf c7
          refine lv_iload_n hx hb dX6_isAllowed_60 rfl (lv_at hl 1 rfl) ?_
          refine lv_iconst (v := 1) hx hb dX6_isAllowed_61 (by decide) ?_
          refine lv_icmp_ne (tgt := 69) hx hb dX6_isAllowed_62 (by decide) (fun c8 => ?_) (fun c8 => ?_)
          · replace hf := g_it hf c8
            refine lv_iconst (v := 0) hx hb dX6_isAllowed_69 (by decide) ?_
            obtain rfl := g_s1 hf
            exact g_zret hx hb hlocks hr hS hR g_le.rf (by decide) ⟨rfl, rfl⟩ (by omega) (by omega) dX6_isAllowed_70
          · replace hf := g_if hf (fun q => q c8)
            refine lv_iconst (v := 1) hx hb dX6_isAllowed_65 (by decide) ?_
            refine lv_goto (tgt := 70) hx hb dX6_isAllowed_66 (by decide) ?_
            obtain rfl := g_s1 hf
            exact g_zret hx hb hlocks hr hS hR g_le.rf (by decide) ⟨rfl, rfl⟩ (by omega) (by omega) dX6_isAllowed_70
      · replace hf := g_if hf hc3_2
        by_cases hc4_3 : p0 = (3 : Int32)
        · replace hf := g_it hf hc4_3
          refine lv_tableIn (off := 70) (tgt := 71) hx hb dX6_isAllowed_1 (by rw [hc4_3]; decide) (by rw [hc4_3]; decide) (by rw [hc4_3]; rfl) (by decide) ?_
          refine lv_iload_n hx hb dX6_isAllowed_71 rfl (lv_at hl 1 rfl) ?_
          refine lv_if_lt (tgt := 85) hx hb dX6_isAllowed_72 (by decide) (fun c9 => ?_) (fun c9 => ?_)
          · replace hf := g_it hf c9
            refine lv_iconst (v := 0) hx hb dX6_isAllowed_85 (by decide) ?_
            obtain rfl := g_s1 hf
            exact g_zret hx hb hlocks hr hS hR g_le.rf (by decide) ⟨rfl, rfl⟩ (by omega) (by omega) dX6_isAllowed_86
          · replace hf := g_if hf c9
            refine lv_iload_n hx hb dX6_isAllowed_75 rfl (lv_at hl 1 rfl) ?_
            refine lv_bipush (v := 50) hx hb dX6_isAllowed_76 (by decide) ?_
            refine lv_icmp_gt (tgt := 85) hx hb dX6_isAllowed_78 (by decide) (fun c10 => ?_) (fun c10 => ?_)
            · replace hf := g_it hf c10
              refine lv_iconst (v := 0) hx hb dX6_isAllowed_85 (by decide) ?_
              obtain rfl := g_s1 hf
              exact g_zret hx hb hlocks hr hS hR g_le.rf (by decide) ⟨rfl, rfl⟩ (by omega) (by omega) dX6_isAllowed_86
            · replace hf := g_if hf c10
              refine lv_iconst (v := 1) hx hb dX6_isAllowed_81 (by decide) ?_
              refine lv_goto (tgt := 86) hx hb dX6_isAllowed_82 (by decide) ?_
              obtain rfl := g_s1 hf
              exact g_zret hx hb hlocks hr hS hR g_le.rf (by decide) ⟨rfl, rfl⟩ (by omega) (by omega) dX6_isAllowed_86
        · replace hf := g_if hf hc4_3
          by_cases hc5_4 : p0 = (4 : Int32)
          · replace hf := g_it hf hc5_4
            refine lv_tableIn (off := 86) (tgt := 87) hx hb dX6_isAllowed_1 (by rw [hc5_4]; decide) (by rw [hc5_4]; decide) (by rw [hc5_4]; rfl) (by decide) ?_
            refine lv_iload_n hx hb dX6_isAllowed_87 rfl (lv_at hl 1 rfl) ?_
            refine lv_if_eq (tgt := 96) hx hb dX6_isAllowed_88 (by decide) (fun c11 => ?_) (fun c11 => ?_)
            · replace hf := g_it hf c11
              refine lv_iconst (v := 1) hx hb dX6_isAllowed_96 (by decide) ?_
              refine lv_goto (tgt := 101) hx hb dX6_isAllowed_97 (by decide) ?_
              obtain rfl := g_s1 hf
              exact g_zret hx hb hlocks hr hS hR g_le.rf (by decide) ⟨rfl, rfl⟩ (by omega) (by omega) dX6_isAllowed_101
            · replace hf := g_if hf c11
              refine lv_iload_n hx hb dX6_isAllowed_91 rfl (lv_at hl 1 rfl) ?_
              refine lv_iconst (v := 1) hx hb dX6_isAllowed_92 (by decide) ?_
              refine lv_icmp_ne (tgt := 100) hx hb dX6_isAllowed_93 (by decide) (fun c12 => ?_) (fun c12 => ?_)
              · replace hf := g_it hf c12
                refine lv_iconst (v := 0) hx hb dX6_isAllowed_100 (by decide) ?_
                obtain rfl := g_s1 hf
                exact g_zret hx hb hlocks hr hS hR g_le.rf (by decide) ⟨rfl, rfl⟩ (by omega) (by omega) dX6_isAllowed_101
              · replace hf := g_if hf (fun q => q c12)
                refine lv_iconst (v := 1) hx hb dX6_isAllowed_96 (by decide) ?_
                refine lv_goto (tgt := 101) hx hb dX6_isAllowed_97 (by decide) ?_
                obtain rfl := g_s1 hf
                exact g_zret hx hb hlocks hr hS hR g_le.rf (by decide) ⟨rfl, rfl⟩ (by omega) (by omega) dX6_isAllowed_101
          · replace hf := g_if hf hc5_4
            have hdf : W p l e (headSpec wsX6_isAllowed ({ frames := 1, cells := 0, slots := 0, locals := 20 } : Room)).room s m ([.int p0, .int p1] : List Value).toArray below meth c s.heap [] 0 0 (MQ below (g_Q G E μ (fun E' v => E' = E ∧ v = some (.int ro))) ([.int p0, .int p1] : List Value).toArray s 0 0 (g_A G)) (F0 m 102 ls []) := by
              refine lv_iconst (v := 0) hx hb dX6_isAllowed_102 (by decide) ?_
              obtain rfl := g_s1 hf
              exact g_zret hx hb hlocks hr hS hR g_le.rf (by decide) ⟨rfl, rfl⟩ (by omega) (by omega) dX6_isAllowed_103
            have qhc1_0 := lv_neT hc1_0 (a := 0) (by decide)
            have qhc2_1 := lv_neT hc2_1 (a := 1) (by decide)
            have qhc3_2 := lv_neT hc3_2 (a := 2) (by decide)
            have qhc4_3 := lv_neT hc4_3 (a := 3) (by decide)
            have qhc5_4 := lv_neT hc5_4 (a := 4) (by decide)
            exact lv_tableOut (tgt := 102) hx hb dX6_isAllowed_1 (by omega) (by decide) hdf
set_option maxHeartbeats 4000000 in
set_option maxRecDepth 100000 in
theorem c6_put (l : Launch) (G : gG) (E : gEn) (μ : gMu) (i : Nat) (hi : i < 7) (z0 : gSt) (p1 : Int32) (p2 : Int32) (zo : gSt) (hf : f6_put z0 p1 p2 = some zo) : Met l yX6_put wsX6_put ({ frames := 0, cells := 0, slots := 0, locals := 0 } : Room) (g_Pre G E (g_setS μ i z0) [.ref (g_stA G i + 1), .int p1, .int p2]) (g_Q G E (g_setS μ i zo) (fun E' v => E' = E ∧ v = none)) 0 0 (g_A G) := by
  refine Met.ofW (cc := cX6_put) (maxL := 3) (ret := none) (by decide) rfl ?_
  intro p e s m args below meth c s₁ B hml hv
  obtain ⟨rfl, hR, hK⟩ := hv
  have hx := B.exec
  have hb := B.bytes
  have hr := B.returns
  have hts := atoms_spec (ws := wsX6_put) B.pre
  have hown : s.vm.findClass RX6 = some m.cls := findClass_of_methodNamed B.named
  have hlocks := B.notSynchronized
  have hS : va_S (g_A G) s.heap s.heap [] := va_S.rf
  have hl := lv_entry ([.ref (g_stA G i + 1), .int p1, .int p2]) (n := 3) (Nat.le_of_ble_eq_true rfl)
  rw [lg_entry_eq]
  generalize (lg_sl ([.ref (g_stA G i + 1), .int p1, .int p2]) ++ List.replicate (3 - (lg_sl ([.ref (g_stA G i + 1), .int p1, .int p2])).length) Slot.unset).toArray = ls at hl ⊢
  have hl : lv_has ls 3 [(0, .ref (g_stA G i + 1)), (1, .int p1), (2, .int p2)] := hl
  have in_6 : ∀ w ∈ u_ws RX6 TX6 5, w ∈ wsX6_put := ifX6_put_6
  have l_15 := hts (.fieldLink RX6 15 "GlassRacks$Settings" "leastSide" "I") (by decide +kernel)
  have l_18 := hts (.fieldLink RX6 18 "GlassRacks$Settings" "manner" "I") (by decide +kernel)
  have l_21 := hts (.fieldLink RX6 21 "GlassRacks$Settings" "fragility" "I") (by decide +kernel)
  have l_24 := hts (.fieldLink RX6 24 "GlassRacks$Settings" "turning" "I") (by decide +kernel)
  have l_9 := hts (.fieldLink RX6 9 "GlassRacks$Settings" "cutWidth" "I") (by decide +kernel)
  unfold f6_put at hf
  refine lv_iload_n hx hb dX6_put_0 rfl (lv_at hl 1 rfl) ?_
  by_cases hc1_0 : p1 = (0 : Int32)
  · replace hf := g_it hf hc1_0
    refine lv_tableIn (off := 35) (tgt := 36) hx hb dX6_put_1 (by rw [hc1_0]; decide) (by rw [hc1_0]; decide) (by rw [hc1_0]; rfl) (by decide) ?_
    refine lv_aload_n hx hb dX6_put_36 rfl (lv_at hl 0 rfl) ?_
    refine lv_iload_n hx hb dX6_put_37 rfl (lv_at hl 2 rfl) ?_
    refine g_p6_0 hx hb hts in_6 hown hK hS hR hi l_9 dX6_put_38 (fun H locs hR hS => ?_)
    obtain ⟨z1, ez1, hf⟩ := g_let_e hf
    replace hR : g_R G E (g_setS μ i z1) H := by rw [ez1]; exact hR
    refine lv_goto (tgt := 76) hx hb dX6_put_41 (by decide) ?_
    obtain rfl := g_s1 hf
    exact g_vret hx hb hlocks hr hS hR g_le.rf ⟨rfl, rfl⟩ (by omega) (by omega) dX6_put_76
  · replace hf := g_if hf hc1_0
    by_cases hc2_1 : p1 = (1 : Int32)
    · replace hf := g_it hf hc2_1
      refine lv_tableIn (off := 43) (tgt := 44) hx hb dX6_put_1 (by rw [hc2_1]; decide) (by rw [hc2_1]; decide) (by rw [hc2_1]; rfl) (by decide) ?_
      refine lv_aload_n hx hb dX6_put_44 rfl (lv_at hl 0 rfl) ?_
      refine lv_iload_n hx hb dX6_put_45 rfl (lv_at hl 2 rfl) ?_
      refine g_p6_1 hx hb hts in_6 hown hK hS hR hi l_15 dX6_put_46 (fun H locs hR hS => ?_)
      obtain ⟨z2, ez2, hf⟩ := g_let_e hf
      replace hR : g_R G E (g_setS μ i z2) H := by rw [ez2]; exact hR
      refine lv_goto (tgt := 76) hx hb dX6_put_49 (by decide) ?_
      obtain rfl := g_s1 hf
      exact g_vret hx hb hlocks hr hS hR g_le.rf ⟨rfl, rfl⟩ (by omega) (by omega) dX6_put_76
    · replace hf := g_if hf hc2_1
      by_cases hc3_2 : p1 = (2 : Int32)
      · replace hf := g_it hf hc3_2
        refine lv_tableIn (off := 51) (tgt := 52) hx hb dX6_put_1 (by rw [hc3_2]; decide) (by rw [hc3_2]; decide) (by rw [hc3_2]; rfl) (by decide) ?_
        refine lv_aload_n hx hb dX6_put_52 rfl (lv_at hl 0 rfl) ?_
        refine lv_iload_n hx hb dX6_put_53 rfl (lv_at hl 2 rfl) ?_
        refine g_p6_2 hx hb hts in_6 hown hK hS hR hi l_18 dX6_put_54 (fun H locs hR hS => ?_)
        obtain ⟨z3, ez3, hf⟩ := g_let_e hf
        replace hR : g_R G E (g_setS μ i z3) H := by rw [ez3]; exact hR
        refine lv_goto (tgt := 76) hx hb dX6_put_57 (by decide) ?_
        obtain rfl := g_s1 hf
        exact g_vret hx hb hlocks hr hS hR g_le.rf ⟨rfl, rfl⟩ (by omega) (by omega) dX6_put_76
      · replace hf := g_if hf hc3_2
        by_cases hc4_3 : p1 = (3 : Int32)
        · replace hf := g_it hf hc4_3
          refine lv_tableIn (off := 59) (tgt := 60) hx hb dX6_put_1 (by rw [hc4_3]; decide) (by rw [hc4_3]; decide) (by rw [hc4_3]; rfl) (by decide) ?_
          refine lv_aload_n hx hb dX6_put_60 rfl (lv_at hl 0 rfl) ?_
          refine lv_iload_n hx hb dX6_put_61 rfl (lv_at hl 2 rfl) ?_
          refine g_p6_3 hx hb hts in_6 hown hK hS hR hi l_21 dX6_put_62 (fun H locs hR hS => ?_)
          obtain ⟨z4, ez4, hf⟩ := g_let_e hf
          replace hR : g_R G E (g_setS μ i z4) H := by rw [ez4]; exact hR
          refine lv_goto (tgt := 76) hx hb dX6_put_65 (by decide) ?_
          obtain rfl := g_s1 hf
          exact g_vret hx hb hlocks hr hS hR g_le.rf ⟨rfl, rfl⟩ (by omega) (by omega) dX6_put_76
        · replace hf := g_if hf hc4_3
          by_cases hc5_4 : p1 = (4 : Int32)
          · replace hf := g_it hf hc5_4
            refine lv_tableIn (off := 67) (tgt := 68) hx hb dX6_put_1 (by rw [hc5_4]; decide) (by rw [hc5_4]; decide) (by rw [hc5_4]; rfl) (by decide) ?_
            refine lv_aload_n hx hb dX6_put_68 rfl (lv_at hl 0 rfl) ?_
            refine lv_iload_n hx hb dX6_put_69 rfl (lv_at hl 2 rfl) ?_
            refine g_p6_4 hx hb hts in_6 hown hK hS hR hi l_24 dX6_put_70 (fun H locs hR hS => ?_)
            obtain ⟨z5, ez5, hf⟩ := g_let_e hf
            replace hR : g_R G E (g_setS μ i z5) H := by rw [ez5]; exact hR
            refine lv_goto (tgt := 76) hx hb dX6_put_73 (by decide) ?_
            obtain rfl := g_s1 hf
            exact g_vret hx hb hlocks hr hS hR g_le.rf ⟨rfl, rfl⟩ (by omega) (by omega) dX6_put_76
          · replace hf := g_if hf hc5_4
            have hdf : W p l e (headSpec wsX6_put ({ frames := 0, cells := 0, slots := 0, locals := 0 } : Room)).room s m ([.ref (g_stA G i + 1), .int p1, .int p2] : List Value).toArray below meth c s.heap [] 0 0 (MQ below (g_Q G E (g_setS μ i zo) (fun E' v => E' = E ∧ v = none)) ([.ref (g_stA G i + 1), .int p1, .int p2] : List Value).toArray s 0 0 (g_A G)) (F0 m 76 ls []) := by
              obtain rfl := g_s1 hf
              exact g_vret hx hb hlocks hr hS hR g_le.rf ⟨rfl, rfl⟩ (by omega) (by omega) dX6_put_76
            have qhc1_0 := lv_neT hc1_0 (a := 0) (by decide)
            have qhc2_1 := lv_neT hc2_1 (a := 1) (by decide)
            have qhc3_2 := lv_neT hc3_2 (a := 2) (by decide)
            have qhc4_3 := lv_neT hc4_3 (a := 3) (by decide)
            have qhc5_4 := lv_neT hc5_4 (a := 4) (by decide)
            exact lv_tableOut (tgt := 76) hx hb dX6_put_1 (by omega) (by decide) hdf
set_option maxHeartbeats 4000000 in
set_option maxRecDepth 100000 in
theorem c6_value (l : Launch) (G : gG) (E : gEn) (μ : gMu) (i : Nat) (hi : i < 7) (z0 : gSt) (p1 : Int32) (ro : Int32) (hf : f6_value z0 p1 = some ro) : Met l yX6_value wsX6_value ({ frames := 0, cells := 0, slots := 0, locals := 0 } : Room) (g_Pre G E (g_setS μ i z0) [.ref (g_stA G i + 1), .int p1]) (g_Q G E (g_setS μ i z0) (fun E' v => E' = E ∧ v = some (.int ro))) 0 0 (g_A G) := by
  refine Met.ofW (cc := cX6_value) (maxL := 2) (ret := some .int) (by decide) rfl ?_
  intro p e s m args below meth c s₁ B hml hv
  obtain ⟨rfl, hR, hK⟩ := hv
  have hx := B.exec
  have hb := B.bytes
  have hr := B.returns
  have hts := atoms_spec (ws := wsX6_value) B.pre
  have hown : s.vm.findClass RX6 = some m.cls := findClass_of_methodNamed B.named
  have hlocks := B.notSynchronized
  have hS : va_S (g_A G) s.heap s.heap [] := va_S.rf
  have hl := lv_entry ([.ref (g_stA G i + 1), .int p1]) (n := 2) (Nat.le_of_ble_eq_true rfl)
  rw [lg_entry_eq]
  generalize (lg_sl ([.ref (g_stA G i + 1), .int p1]) ++ List.replicate (2 - (lg_sl ([.ref (g_stA G i + 1), .int p1])).length) Slot.unset).toArray = ls at hl ⊢
  have hl : lv_has ls 2 [(0, .ref (g_stA G i + 1)), (1, .int p1)] := hl
  have in_6 : ∀ w ∈ u_ws RX6 TX6 5, w ∈ wsX6_value := ifX6_value_6
  have l_15 := hts (.fieldLink RX6 15 "GlassRacks$Settings" "leastSide" "I") (by decide +kernel)
  have l_18 := hts (.fieldLink RX6 18 "GlassRacks$Settings" "manner" "I") (by decide +kernel)
  have l_21 := hts (.fieldLink RX6 21 "GlassRacks$Settings" "fragility" "I") (by decide +kernel)
  have l_24 := hts (.fieldLink RX6 24 "GlassRacks$Settings" "turning" "I") (by decide +kernel)
  have l_9 := hts (.fieldLink RX6 9 "GlassRacks$Settings" "cutWidth" "I") (by decide +kernel)
  unfold f6_value at hf
  refine lv_iload_n hx hb dX6_value_0 rfl (lv_at hl 1 rfl) ?_
  by_cases hc1_0 : p1 = (0 : Int32)
  · replace hf := g_it hf hc1_0
    refine lv_tableIn (off := 35) (tgt := 36) hx hb dX6_value_1 (by rw [hc1_0]; decide) (by rw [hc1_0]; decide) (by rw [hc1_0]; rfl) (by decide) ?_
    refine lv_aload_n hx hb dX6_value_36 rfl (lv_at hl 0 rfl) ?_
    refine g_get hx hb hts in_6 hown hK (hR.f hi).2.1 rfl 0 (by decide) l_9 rfl rfl dX6_value_37 ?_
    obtain rfl := g_s1 hf
    exact g_iret hx hb hlocks hr hS hR g_le.rf ⟨rfl, rfl⟩ (by omega) (by omega) dX6_value_40
  · replace hf := g_if hf hc1_0
    by_cases hc2_1 : p1 = (1 : Int32)
    · replace hf := g_it hf hc2_1
      refine lv_tableIn (off := 40) (tgt := 41) hx hb dX6_value_1 (by rw [hc2_1]; decide) (by rw [hc2_1]; decide) (by rw [hc2_1]; rfl) (by decide) ?_
      refine lv_aload_n hx hb dX6_value_41 rfl (lv_at hl 0 rfl) ?_
      refine g_get hx hb hts in_6 hown hK (hR.f hi).2.1 rfl 1 (by decide) l_15 rfl rfl dX6_value_42 ?_
      obtain rfl := g_s1 hf
      exact g_iret hx hb hlocks hr hS hR g_le.rf ⟨rfl, rfl⟩ (by omega) (by omega) dX6_value_45
    · replace hf := g_if hf hc2_1
      by_cases hc3_2 : p1 = (2 : Int32)
      · replace hf := g_it hf hc3_2
        refine lv_tableIn (off := 45) (tgt := 46) hx hb dX6_value_1 (by rw [hc3_2]; decide) (by rw [hc3_2]; decide) (by rw [hc3_2]; rfl) (by decide) ?_
        refine lv_aload_n hx hb dX6_value_46 rfl (lv_at hl 0 rfl) ?_
        refine g_get hx hb hts in_6 hown hK (hR.f hi).2.1 rfl 2 (by decide) l_18 rfl rfl dX6_value_47 ?_
        obtain rfl := g_s1 hf
        exact g_iret hx hb hlocks hr hS hR g_le.rf ⟨rfl, rfl⟩ (by omega) (by omega) dX6_value_50
      · replace hf := g_if hf hc3_2
        by_cases hc4_3 : p1 = (3 : Int32)
        · replace hf := g_it hf hc4_3
          refine lv_tableIn (off := 50) (tgt := 51) hx hb dX6_value_1 (by rw [hc4_3]; decide) (by rw [hc4_3]; decide) (by rw [hc4_3]; rfl) (by decide) ?_
          refine lv_aload_n hx hb dX6_value_51 rfl (lv_at hl 0 rfl) ?_
          refine g_get hx hb hts in_6 hown hK (hR.f hi).2.1 rfl 3 (by decide) l_21 rfl rfl dX6_value_52 ?_
          obtain rfl := g_s1 hf
          exact g_iret hx hb hlocks hr hS hR g_le.rf ⟨rfl, rfl⟩ (by omega) (by omega) dX6_value_55
        · replace hf := g_if hf hc4_3
          by_cases hc5_4 : p1 = (4 : Int32)
          · replace hf := g_it hf hc5_4
            refine lv_tableIn (off := 55) (tgt := 56) hx hb dX6_value_1 (by rw [hc5_4]; decide) (by rw [hc5_4]; decide) (by rw [hc5_4]; rfl) (by decide) ?_
            refine lv_aload_n hx hb dX6_value_56 rfl (lv_at hl 0 rfl) ?_
            refine g_get hx hb hts in_6 hown hK (hR.f hi).2.1 rfl 4 (by decide) l_24 rfl rfl dX6_value_57 ?_
            obtain rfl := g_s1 hf
            exact g_iret hx hb hlocks hr hS hR g_le.rf ⟨rfl, rfl⟩ (by omega) (by omega) dX6_value_60
          · replace hf := g_if hf hc5_4
            have hdf : W p l e (headSpec wsX6_value ({ frames := 0, cells := 0, slots := 0, locals := 0 } : Room)).room s m ([.ref (g_stA G i + 1), .int p1] : List Value).toArray below meth c s.heap [] 0 0 (MQ below (g_Q G E (g_setS μ i z0) (fun E' v => E' = E ∧ v = some (.int ro))) ([.ref (g_stA G i + 1), .int p1] : List Value).toArray s 0 0 (g_A G)) (F0 m 61 ls []) := by
              refine lv_bipush (v := -2) hx hb dX6_value_61 (by decide) ?_
              obtain rfl := g_s1 hf
              exact g_iret hx hb hlocks hr hS hR g_le.rf ⟨rfl, rfl⟩ (by omega) (by omega) dX6_value_63
            have qhc1_0 := lv_neT hc1_0 (a := 0) (by decide)
            have qhc2_1 := lv_neT hc2_1 (a := 1) (by decide)
            have qhc3_2 := lv_neT hc3_2 (a := 2) (by decide)
            have qhc4_3 := lv_neT hc4_3 (a := 3) (by decide)
            have qhc5_4 := lv_neT hc5_4 (a := 4) (by decide)
            exact lv_tableOut (tgt := 61) hx hb dX6_value_1 (by omega) (by decide) hdf
set_option maxHeartbeats 4000000 in
set_option maxRecDepth 100000 in
theorem c6_change (l : Launch) (G : gG) (E : gEn) (μ : gMu) (i : Nat) (hi : i < 7) (z0 : gSt) (p1 : Int32) (p2 : Int32) (ro : Int32) (zo : gSt) (hf : f6_change z0 p1 p2 = some (ro, zo)) : Met l yX6_change wsX6_change ({ frames := 2, cells := 0, slots := 0, locals := 41 } : Room) (g_Pre G E (g_setS μ i z0) [.ref (g_stA G i + 1), .int p1, .int p2]) (g_Q G E (g_setS μ i zo) (fun E' v => E' = E ∧ v = some (.int ro))) 0 0 (g_A G) := by
  refine Met.ofW (cc := cX6_change) (maxL := 4) (ret := some .int) (by decide) rfl ?_
  intro p e s m args below meth c s₁ B hml hv
  obtain ⟨rfl, hR, hK⟩ := hv
  have hx := B.exec
  have hb := B.bytes
  have hr := B.returns
  have hts := atoms_spec (ws := wsX6_change) B.pre
  have hown : s.vm.findClass RX6 = some m.cls := findClass_of_methodNamed B.named
  have hlocks := B.notSynchronized
  have hS : va_S (g_A G) s.heap s.heap [] := va_S.rf
  have hl := lv_entry ([.ref (g_stA G i + 1), .int p1, .int p2]) (n := 4) (Nat.le_of_ble_eq_true rfl)
  rw [lg_entry_eq]
  generalize (lg_sl ([.ref (g_stA G i + 1), .int p1, .int p2]) ++ List.replicate (4 - (lg_sl ([.ref (g_stA G i + 1), .int p1, .int p2])).length) Slot.unset).toArray = ls at hl ⊢
  have hl : lv_has ls 4 [(0, .ref (g_stA G i + 1)), (1, .int p1), (2, .int p2)] := hl
  unfold f6_change at hf
  refine lv_iload_n hx hb dX6_change_0 rfl (lv_at hl 1 rfl) ?_
  refine lv_iload_n hx hb dX6_change_1 rfl (lv_at hl 2 rfl) ?_
  obtain ⟨r1, hc2, hf⟩ := g_b1_e hf
  refine g_call (va_runS (As := [.int p1, .int p2]) (rest := []) ⟨hx, hb, hml, hown, hts⟩ (c6_isAllowed l G E (g_setS μ i z0) _ _ _ hc2) (cwS 2 hts gX6_change_X6_isAllowed rfl rfl rfl (by decide +kernel) ⟨Nat.le_of_ble_eq_true rfl, Nat.le_of_ble_eq_true rfl⟩) (g_pre hR hK) rfl rfl hl.1 rfl (lv_room (Nat.le_of_ble_eq_true rfl)) dX6_change_2 ⟨by show _ ≤ 0; omega, by show _ ≤ 0; omega⟩) hS (fun w3 H locs hp hR hS => ?_)
  subst hp
  refine lv_if_ne (tgt := 11) hx hb dX6_change_5 (by decide) (fun c4 => ?_) (fun c4 => ?_)
  · replace hf := g_it hf c4
    refine lv_aload_n hx hb dX6_change_11 rfl (lv_at hl 0 rfl) ?_
    refine lv_iload_n hx hb dX6_change_12 rfl (lv_at hl 1 rfl) ?_
    obtain ⟨r5, hc6, hf⟩ := g_b1_e hf
    refine g_call (va_runV (As := [.int p1]) (rest := []) ⟨hx, hb, hml, hown, hts⟩ (c6_value l G E μ i hi _ _ _ hc6) (cwV 1 hts gX6_change_X6_value rfl rfl rfl (by decide +kernel) ⟨Nat.le_of_ble_eq_true rfl, Nat.le_of_ble_eq_true rfl⟩) (g_preV (ci := 6) hR hK ((hR.f hi).2.1) rfl) rfl rfl hl.1 rfl (lv_room (Nat.le_of_ble_eq_true rfl)) dX6_change_13 ⟨by show _ ≤ 0; omega, by show _ ≤ 0; omega⟩) hS (fun w7 H locs hp hR hS => ?_)
    subst hp
    refine lv_istore_n (lv' := [(3, .int r5), (0, .ref (g_stA G i + 1)), (1, .int p1), (2, .int p2)]) hx hb dX6_change_16 rfl hl (by decide) rfl (fun ls hl => ?_)
    refine lv_iload_n hx hb dX6_change_17 rfl (lv_at hl 0 rfl) ?_
    refine lv_iload_n hx hb dX6_change_18 rfl (lv_at hl 3 rfl) ?_
    refine lv_icmp_ne (tgt := 25) hx hb dX6_change_19 (by decide) (fun c8 => ?_) (fun c8 => ?_)
    · replace hf := g_it hf c8
      refine lv_aload_n hx hb dX6_change_25 rfl (lv_at hl 1 rfl) ?_
      refine lv_iload_n hx hb dX6_change_26 rfl (lv_at hl 2 rfl) ?_
      refine lv_iload_n hx hb dX6_change_27 rfl (lv_at hl 3 rfl) ?_
      obtain ⟨z9, hc10, hf⟩ := g_b1_e hf
      refine g_call (va_runV (As := [.int p1, .int p2]) (rest := []) ⟨hx, hb, hml, hown, hts⟩ (c6_put l G E μ i hi _ _ _ _ hc10) (cwV 2 hts gX6_change_X6_put rfl rfl rfl (by decide +kernel) ⟨Nat.le_of_ble_eq_true rfl, Nat.le_of_ble_eq_true rfl⟩) (g_preV (ci := 6) hR hK ((hR.f hi).2.1) rfl) rfl rfl hl.1 rfl (lv_room (Nat.le_of_ble_eq_true rfl)) dX6_change_28 ⟨by show _ ≤ 0; omega, by show _ ≤ 0; omega⟩) hS (fun w11 H locs hp hR hS => ?_)
      subst hp
      refine lv_iload_n hx hb dX6_change_31 rfl (lv_at hl 0 rfl) ?_
      obtain ⟨rfl, rfl⟩ := g_sp hf
      exact g_iret hx hb hlocks hr hS hR g_le.rf ⟨rfl, rfl⟩ (by omega) (by omega) dX6_change_32
    · replace hf := g_if hf (fun q => q c8)
      refine lv_bipush (v := -5) hx hb dX6_change_22 (by decide) ?_
      obtain ⟨rfl, rfl⟩ := g_sp hf
      exact g_iret hx hb hlocks hr hS hR g_le.rf ⟨rfl, rfl⟩ (by omega) (by omega) dX6_change_24
  · replace hf := g_if hf (fun q => q c4)
    refine lv_bipush (v := -2) hx hb dX6_change_8 (by decide) ?_
    obtain ⟨rfl, rfl⟩ := g_sp hf
    exact g_iret hx hb hlocks hr hS hR g_le.rf ⟨rfl, rfl⟩ (by omega) (by omega) dX6_change_10
set_option maxHeartbeats 4000000 in
set_option maxRecDepth 100000 in
theorem c9_isRack (l : Launch) (G : gG) (E : gEn) (μ : gMu) (p0 : Int32) (ro : Int32) (hf : f9_isRack p0 = some ro) : Met l yX9_isRack wsX9_isRack ({ frames := 0, cells := 0, slots := 0, locals := 0 } : Room) (g_Pre G E μ [.int p0]) (g_Q G E μ (fun E' v => E' = E ∧ v = some (.int ro))) 0 0 (g_A G) := by
  refine Met.ofW (cc := cX9_isRack) (maxL := 1) (ret := some .boolean) (by decide) rfl ?_
  intro p e s m args below meth c s₁ B hml hv
  obtain ⟨rfl, hR, hK⟩ := hv
  have hx := B.exec
  have hb := B.bytes
  have hr := B.returns
  have hts := atoms_spec (ws := wsX9_isRack) B.pre
  have hown : s.vm.findClass RX9 = some m.cls := findClass_of_methodNamed B.named
  have hlocks := B.notSynchronized
  have hS : va_S (g_A G) s.heap s.heap [] := va_S.rf
  have hl := lv_entry ([.int p0]) (n := 1) (Nat.le_of_ble_eq_true rfl)
  rw [lg_entry_eq]
  generalize (lg_sl ([.int p0]) ++ List.replicate (1 - (lg_sl ([.int p0])).length) Slot.unset).toArray = ls at hl ⊢
  have hl : lv_has ls 1 [(0, .int p0)] := hl
  unfold f9_isRack at hf
  refine lv_iload_n hx hb dX9_isRack_0 rfl (lv_at hl 0 rfl) ?_
  refine lv_if_lt (tgt := 13) hx hb dX9_isRack_1 (by decide) (fun c1 => ?_) (fun c1 => ?_)
  · replace hf := g_it hf c1
    refine lv_iconst (v := 0) hx hb dX9_isRack_13 (by decide) ?_
    obtain rfl := g_s1 hf
    exact g_zret hx hb hlocks hr hS hR g_le.rf (by decide) ⟨rfl, rfl⟩ (by omega) (by omega) dX9_isRack_14
  · replace hf := g_if hf c1
    refine lv_iload_n hx hb dX9_isRack_4 rfl (lv_at hl 0 rfl) ?_
    refine lv_iconst (v := 4) hx hb dX9_isRack_5 (by decide) ?_
    refine lv_icmp_ge (tgt := 13) hx hb dX9_isRack_6 (by decide) (fun c2 => ?_) (fun c2 => ?_)
    · replace hf := g_it hf c2
      refine lv_iconst (v := 0) hx hb dX9_isRack_13 (by decide) ?_
      obtain rfl := g_s1 hf
      exact g_zret hx hb hlocks hr hS hR g_le.rf (by decide) ⟨rfl, rfl⟩ (by omega) (by omega) dX9_isRack_14
    · replace hf := g_if hf c2
      refine lv_iconst (v := 1) hx hb dX9_isRack_9 (by decide) ?_
      refine lv_goto (tgt := 14) hx hb dX9_isRack_10 (by decide) ?_
      obtain rfl := g_s1 hf
      exact g_zret hx hb hlocks hr hS hR g_le.rf (by decide) ⟨rfl, rfl⟩ (by omega) (by omega) dX9_isRack_14
set_option maxHeartbeats 4000000 in
set_option maxRecDepth 100000 in
theorem c9_isSort (l : Launch) (G : gG) (E : gEn) (μ : gMu) (p0 : Int32) (ro : Int32) (hf : f9_isSort p0 = some ro) : Met l yX9_isSort wsX9_isSort ({ frames := 0, cells := 0, slots := 0, locals := 0 } : Room) (g_Pre G E μ [.int p0]) (g_Q G E μ (fun E' v => E' = E ∧ v = some (.int ro))) 0 0 (g_A G) := by
  refine Met.ofW (cc := cX9_isSort) (maxL := 1) (ret := some .boolean) (by decide) rfl ?_
  intro p e s m args below meth c s₁ B hml hv
  obtain ⟨rfl, hR, hK⟩ := hv
  have hx := B.exec
  have hb := B.bytes
  have hr := B.returns
  have hts := atoms_spec (ws := wsX9_isSort) B.pre
  have hown : s.vm.findClass RX9 = some m.cls := findClass_of_methodNamed B.named
  have hlocks := B.notSynchronized
  have hS : va_S (g_A G) s.heap s.heap [] := va_S.rf
  have hl := lv_entry ([.int p0]) (n := 1) (Nat.le_of_ble_eq_true rfl)
  rw [lg_entry_eq]
  generalize (lg_sl ([.int p0]) ++ List.replicate (1 - (lg_sl ([.int p0])).length) Slot.unset).toArray = ls at hl ⊢
  have hl : lv_has ls 1 [(0, .int p0)] := hl
  unfold f9_isSort at hf
  refine lv_iload_n hx hb dX9_isSort_0 rfl (lv_at hl 0 rfl) ?_
  refine lv_if_lt (tgt := 13) hx hb dX9_isSort_1 (by decide) (fun c1 => ?_) (fun c1 => ?_)
  · replace hf := g_it hf c1
    refine lv_iconst (v := 0) hx hb dX9_isSort_13 (by decide) ?_
    obtain rfl := g_s1 hf
    exact g_zret hx hb hlocks hr hS hR g_le.rf (by decide) ⟨rfl, rfl⟩ (by omega) (by omega) dX9_isSort_14
  · replace hf := g_if hf c1
    refine lv_iload_n hx hb dX9_isSort_4 rfl (lv_at hl 0 rfl) ?_
    refine lv_iconst (v := 3) hx hb dX9_isSort_5 (by decide) ?_
    refine lv_icmp_ge (tgt := 13) hx hb dX9_isSort_6 (by decide) (fun c2 => ?_) (fun c2 => ?_)
    · replace hf := g_it hf c2
      refine lv_iconst (v := 0) hx hb dX9_isSort_13 (by decide) ?_
      obtain rfl := g_s1 hf
      exact g_zret hx hb hlocks hr hS hR g_le.rf (by decide) ⟨rfl, rfl⟩ (by omega) (by omega) dX9_isSort_14
    · replace hf := g_if hf c2
      refine lv_iconst (v := 1) hx hb dX9_isSort_9 (by decide) ?_
      refine lv_goto (tgt := 14) hx hb dX9_isSort_10 (by decide) ?_
      obtain rfl := g_s1 hf
      exact g_zret hx hb hlocks hr hS hR g_le.rf (by decide) ⟨rfl, rfl⟩ (by omega) (by omega) dX9_isSort_14
set_option maxHeartbeats 4000000 in
set_option maxRecDepth 100000 in
theorem c9_isChoice (l : Launch) (G : gG) (E : gEn) (μ : gMu) (p0 : Int32) (ro : Int32) (hf : f9_isChoice p0 = some ro) : Met l yX9_isChoice wsX9_isChoice ({ frames := 0, cells := 0, slots := 0, locals := 0 } : Room) (g_Pre G E μ [.int p0]) (g_Q G E μ (fun E' v => E' = E ∧ v = some (.int ro))) 0 0 (g_A G) := by
  refine Met.ofW (cc := cX9_isChoice) (maxL := 1) (ret := some .boolean) (by decide) rfl ?_
  intro p e s m args below meth c s₁ B hml hv
  obtain ⟨rfl, hR, hK⟩ := hv
  have hx := B.exec
  have hb := B.bytes
  have hr := B.returns
  have hts := atoms_spec (ws := wsX9_isChoice) B.pre
  have hown : s.vm.findClass RX9 = some m.cls := findClass_of_methodNamed B.named
  have hlocks := B.notSynchronized
  have hS : va_S (g_A G) s.heap s.heap [] := va_S.rf
  have hl := lv_entry ([.int p0]) (n := 1) (Nat.le_of_ble_eq_true rfl)
  rw [lg_entry_eq]
  generalize (lg_sl ([.int p0]) ++ List.replicate (1 - (lg_sl ([.int p0])).length) Slot.unset).toArray = ls at hl ⊢
  have hl : lv_has ls 1 [(0, .int p0)] := hl
  unfold f9_isChoice at hf
  refine lv_iload_n hx hb dX9_isChoice_0 rfl (lv_at hl 0 rfl) ?_
  refine lv_if_lt (tgt := 13) hx hb dX9_isChoice_1 (by decide) (fun c1 => ?_) (fun c1 => ?_)
  · replace hf := g_it hf c1
    refine lv_iconst (v := 0) hx hb dX9_isChoice_13 (by decide) ?_
    obtain rfl := g_s1 hf
    exact g_zret hx hb hlocks hr hS hR g_le.rf (by decide) ⟨rfl, rfl⟩ (by omega) (by omega) dX9_isChoice_14
  · replace hf := g_if hf c1
    refine lv_iload_n hx hb dX9_isChoice_4 rfl (lv_at hl 0 rfl) ?_
    refine lv_iconst (v := 3) hx hb dX9_isChoice_5 (by decide) ?_
    refine lv_icmp_ge (tgt := 13) hx hb dX9_isChoice_6 (by decide) (fun c2 => ?_) (fun c2 => ?_)
    · replace hf := g_it hf c2
      refine lv_iconst (v := 0) hx hb dX9_isChoice_13 (by decide) ?_
      obtain rfl := g_s1 hf
      exact g_zret hx hb hlocks hr hS hR g_le.rf (by decide) ⟨rfl, rfl⟩ (by omega) (by omega) dX9_isChoice_14
    · replace hf := g_if hf c2
      refine lv_iconst (v := 1) hx hb dX9_isChoice_9 (by decide) ?_
      refine lv_goto (tgt := 14) hx hb dX9_isChoice_10 (by decide) ?_
      obtain rfl := g_s1 hf
      exact g_zret hx hb hlocks hr hS hR g_le.rf (by decide) ⟨rfl, rfl⟩ (by omega) (by omega) dX9_isChoice_14
