set_option maxHeartbeats 4000000 in
set_option maxRecDepth 100000 in
theorem c10_passes (l : Launch) (G : gG) (E : gEn) (μ : gMu) (z0 : gMo) (p1 : Int32) (ro : Int32) (zo : gMo) (hf : f10_passes z0 p1 = some (ro, zo)) : Met l yX10_passes wsX10_passes ({ frames := 4, cells := 0, slots := 0, locals := 86 } : Room) (g_Pre G E (g_setM μ z0) [.ref (G.2.2 + 54), .int p1]) (g_Q G E (g_setM μ zo) (fun E' v => E' = E ∧ v = some (.int ro))) 0 0 (g_A G) := by
  refine Met.ofW (cc := cX10_passes) (maxL := 3) (ret := some .int) (by decide) rfl ?_
  intro p e s m args below meth c s₁ B hml hv
  obtain ⟨rfl, hR, hK⟩ := hv
  have hx := B.exec
  have hb := B.bytes
  have hr := B.returns
  have hts := atoms_spec (ws := wsX10_passes) B.pre
  have hown : s.vm.findClass RX10 = some m.cls := findClass_of_methodNamed B.named
  have hlocks := B.notSynchronized
  have hS : va_S (g_A G) s.heap s.heap [] := va_S.rf
  have hl := lv_entry ([.ref (G.2.2 + 54), .int p1]) (n := 3) (Nat.le_of_ble_eq_true rfl)
  rw [lg_entry_eq]
  generalize (lg_sl ([.ref (G.2.2 + 54), .int p1]) ++ List.replicate (3 - (lg_sl ([.ref (G.2.2 + 54), .int p1])).length) Slot.unset).toArray = ls at hl ⊢
  have hl : lv_has ls 3 [(0, .ref (G.2.2 + 54)), (1, .int p1)] := hl
  have in_10 : ∀ w ∈ u_ws RX10 TX10 9, w ∈ wsX10_passes := ifX10_passes_10
  have l_7 := hts (.fieldLink RX10 7 "GlassRacksModel" "now" "[I") (by decide +kernel)
  unfold f10_passes at hf
  refine lv_aload_n hx hb dX10_passes_0 rfl (lv_at hl 0 rfl) ?_
  refine g_get hx hb hts in_10 hown hK hR.2.2.2.2.1.1 rfl 0 (by decide) l_7 rfl rfl dX10_passes_1 ?_
  refine lv_iconst (v := 0) hx hb dX10_passes_4 (by decide) ?_
  refine g_aild hx hb hK hR (by decide) (by decide) dX10_passes_5 ?_
  refine lv_iload_n hx hb dX10_passes_6 rfl (lv_at hl 1 rfl) ?_
  refine lv_iadd hx hb dX10_passes_7 ?_
  refine lv_sipush (v := 999) hx hb dX10_passes_8 (by decide) ?_
  refine lv_icmp_le (tgt := 17) hx hb dX10_passes_11 (by decide) (fun c1 => ?_) (fun c1 => ?_)
  · replace hf := g_it hf c1
    refine lv_aload_n hx hb dX10_passes_17 rfl (lv_at hl 0 rfl) ?_
    obtain ⟨r2, hc3, hf⟩ := g_b1_e hf
    refine g_call (va_runV (As := []) (rest := []) ⟨hx, hb, hml, hown, hts⟩ (c10_late l G E μ _ _ hc3) (cwV 0 hts gX10_passes_X10_late rfl rfl rfl (by decide +kernel) ⟨Nat.le_of_ble_eq_true rfl, Nat.le_of_ble_eq_true rfl⟩) (g_preV (ci := 10) hR hK (hR.2.2.2.2.1.1) rfl) rfl rfl hl.1 rfl (lv_room (Nat.le_of_ble_eq_true rfl)) dX10_passes_18 ⟨by show _ ≤ 0; omega, by show _ ≤ 0; omega⟩) hS (fun w4 H locs hp hR hS => ?_)
    subst hp
    refine lv_istore_n (lv' := [(2, .int r2), (0, .ref (G.2.2 + 54)), (1, .int p1)]) hx hb dX10_passes_21 rfl hl (by decide) rfl (fun ls hl => ?_)
    refine lv_aload_n hx hb dX10_passes_22 rfl (lv_at hl 1 rfl) ?_
    refine g_get hx hb hts in_10 hown hK hR.2.2.2.2.1.1 rfl 0 (by decide) l_7 rfl rfl dX10_passes_23 ?_
    refine lv_iconst (v := 0) hx hb dX10_passes_26 (by decide) ?_
    refine lv_dup2_11 hx hb dX10_passes_27 rfl rfl ?_
    refine g_aild hx hb hK hR (by decide) (by decide) dX10_passes_28 ?_
    refine lv_iload_n hx hb dX10_passes_29 rfl (lv_at hl 2 rfl) ?_
    refine lv_iadd hx hb dX10_passes_30 ?_
    refine g_aist hx hb hK hS hR (by decide) (by decide) dX10_passes_31 (fun H locs hR hS => ?_)
    obtain ⟨z5, ez5, hf⟩ := g_let_e hf
    replace hR : g_R G E (g_setM μ z5) H := by rw [ez5]; exact hR
    refine lv_aload_n hx hb dX10_passes_32 rfl (lv_at hl 1 rfl) ?_
    obtain ⟨r6, hc7, hf⟩ := g_b1_e hf
    refine g_call (va_runV (As := []) (rest := []) ⟨hx, hb, hml, hown, hts⟩ (c10_late l G E μ _ _ hc7) (cwV 0 hts gX10_passes_X10_late rfl rfl rfl (by decide +kernel) ⟨Nat.le_of_ble_eq_true rfl, Nat.le_of_ble_eq_true rfl⟩) (g_preV (ci := 10) hR hK (hR.2.2.2.2.1.1) rfl) rfl rfl hl.1 rfl (lv_room (Nat.le_of_ble_eq_true rfl)) dX10_passes_33 ⟨by show _ ≤ 0; omega, by show _ ≤ 0; omega⟩) hS (fun w8 H locs hp hR hS => ?_)
    subst hp
    refine lv_iload_n hx hb dX10_passes_36 rfl (lv_at hl 0 rfl) ?_
    refine lv_isub hx hb dX10_passes_37 ?_
    obtain ⟨rfl, rfl⟩ := g_sp hf
    exact g_iret hx hb hlocks hr hS hR g_le.rf ⟨rfl, rfl⟩ (by omega) (by omega) dX10_passes_38
  · replace hf := g_if hf c1
    refine lv_bipush (v := -3) hx hb dX10_passes_14 (by decide) ?_
    obtain ⟨rfl, rfl⟩ := g_sp hf
    exact g_iret hx hb hlocks hr hS hR g_le.rf ⟨rfl, rfl⟩ (by omega) (by omega) dX10_passes_16
set_option maxHeartbeats 4000000 in
set_option maxRecDepth 100000 in
theorem c10_takes (l : Launch) (G : gG) (E : gEn) (μ : gMu) (z0 : gMo) (p1 : Int32) (ro : Int32) (zo : gMo) (hf : f10_takes z0 p1 = some (ro, zo)) : Met l yX10_takes wsX10_takes ({ frames := 3, cells := 0, slots := 0, locals := 65 } : Room) (g_Pre G E (g_setM μ z0) [.ref (G.2.2 + 54), .int p1]) (g_Q G E (g_setM μ zo) (fun E' v => E' = E ∧ v = some (.int ro))) 0 0 (g_A G) := by
  refine Met.ofW (cc := cX10_takes) (maxL := 10) (ret := some .boolean) (by decide) rfl ?_
  intro p e s m args below meth c s₁ B hml hv
  obtain ⟨rfl, hR, hK⟩ := hv
  have hx := B.exec
  have hb := B.bytes
  have hr := B.returns
  have hts := atoms_spec (ws := wsX10_takes) B.pre
  have hown : s.vm.findClass RX10 = some m.cls := findClass_of_methodNamed B.named
  have hlocks := B.notSynchronized
  have hS : va_S (g_A G) s.heap s.heap [] := va_S.rf
  have hl := lv_entry ([.ref (G.2.2 + 54), .int p1]) (n := 10) (Nat.le_of_ble_eq_true rfl)
  rw [lg_entry_eq]
  generalize (lg_sl ([.ref (G.2.2 + 54), .int p1]) ++ List.replicate (10 - (lg_sl ([.ref (G.2.2 + 54), .int p1])).length) Slot.unset).toArray = ls at hl ⊢
  have hl : lv_has ls 10 [(0, .ref (G.2.2 + 54)), (1, .int p1)] := hl
  have in_10 : ∀ w ∈ u_ws RX10 TX10 9, w ∈ wsX10_takes := ifX10_takes_10
  have l_7 := hts (.fieldLink RX10 7 "GlassRacksModel" "now" "[I") (by decide +kernel)
  have hB29 : ∀ (n : Nat) (z0 : gMo) (x1 : Int32) (x2 : Int32) (x3 : Int32) (x4 : Int32) (x5 : Int32) (x6 : Int32) (x7 : Int32) (H : Heap) (locs : List Loc) (ls : Array Slot), f10_takes_29 n z0 x1 x2 x3 x4 x5 x6 x7 = some (ro, zo) → g_R G E (g_setM μ z0) H → va_S (g_A G) s.heap H locs → lv_has ls 10 [(0, .ref (G.2.2 + 54)), (1, .int x1), (2, .int x2), (3, .int x3), (4, .int x4), (5, .int x5), (6, .int x6), (7, .int x7)] → W p l e (headSpec wsX10_takes ({ frames := 3, cells := 0, slots := 0, locals := 65 } : Room)).room s m ([.ref (G.2.2 + 54), .int p1] : List Value).toArray below meth c H locs 0 0 (MQ below (g_Q G E (g_setM μ zo) (fun E' v => E' = E ∧ v = some (.int ro))) ([.ref (G.2.2 + 54), .int p1] : List Value).toArray s 0 0 (g_A G)) (F0 m 29 ls []) := by
    intro n
    induction n with
    | zero =>
      intro z0 x1 x2 x3 x4 x5 x6 x7 H locs ls hf
      rw [f10_takes_29] at hf
      cases hf
    | succ n ih =>
      intro z0 x1 x2 x3 x4 x5 x6 x7 H locs ls hf  hR hS hl
      rw [f10_takes_29] at hf
      refine lv_iload hx hb dX10_takes_29 (lv_at hl 7 rfl) ?_
      refine lv_iload hx hb dX10_takes_31 (lv_at hl 4 rfl) ?_
      refine lv_icmp_ge (tgt := 127) hx hb dX10_takes_33 (by decide) (fun c10 => ?_) (fun c10 => ?_)
      · replace hf := g_it hf c10
        refine lv_aload_n hx hb dX10_takes_127 rfl (lv_at hl 0 rfl) ?_
        refine g_get hx hb hts in_10 hown hK hR.2.2.2.2.1.1 rfl 0 (by decide) l_7 rfl rfl dX10_takes_128 ?_
        refine lv_bipush (v := 14) hx hb dX10_takes_131 (by decide) ?_
        refine lv_bipush (v := 9) hx hb dX10_takes_133 (by decide) ?_
        refine lv_iload_n hx hb dX10_takes_135 rfl (lv_at hl 2 rfl) ?_
        refine lv_imul hx hb dX10_takes_136 ?_
        refine lv_iadd hx hb dX10_takes_137 ?_
        refine lv_iload hx hb dX10_takes_138 (lv_at hl 5 rfl) ?_
        obtain ⟨hg11, hf⟩ := g_gd hf
        refine g_aist hx hb hK hS hR (by decide) hg11 dX10_takes_140 (fun H locs hR hS => ?_)
        obtain ⟨z12, ez12, hf⟩ := g_let_e hf
        replace hR : g_R G E (g_setM μ z12) H := by rw [ez12]; exact hR
        refine lv_aload_n hx hb dX10_takes_141 rfl (lv_at hl 0 rfl) ?_
        refine g_get hx hb hts in_10 hown hK hR.2.2.2.2.1.1 rfl 0 (by decide) l_7 rfl rfl dX10_takes_142 ?_
        refine lv_bipush (v := 50) hx hb dX10_takes_145 (by decide) ?_
        refine lv_iconst (v := 5) hx hb dX10_takes_147 (by decide) ?_
        refine lv_iload_n hx hb dX10_takes_148 rfl (lv_at hl 1 rfl) ?_
        refine lv_imul hx hb dX10_takes_149 ?_
        refine lv_iadd hx hb dX10_takes_150 ?_
        refine lv_iconst (v := 3) hx hb dX10_takes_151 (by decide) ?_
        refine lv_iadd hx hb dX10_takes_152 ?_
        refine lv_iconst (v := -1) hx hb dX10_takes_153 (by decide) ?_
        obtain ⟨hg13, hf⟩ := g_gd hf
        refine g_aist hx hb hK hS hR (by decide) hg13 dX10_takes_154 (fun H locs hR hS => ?_)
        obtain ⟨z14, ez14, hf⟩ := g_let_e hf
        replace hR : g_R G E (g_setM μ z14) H := by rw [ez14]; exact hR
        refine lv_iload hx hb dX10_takes_155 (lv_at hl 6 rfl) ?_
        obtain ⟨hz15, hf⟩ := g_gd hf
        obtain ⟨rfl, rfl⟩ := g_sp hf
        exact g_zret hx hb hlocks hr hS hR g_le.rf hz15 ⟨rfl, rfl⟩ (by omega) (by omega) dX10_takes_157
      · replace hf := g_if hf c10
        refine lv_aload_n hx hb dX10_takes_36 rfl (lv_at hl 0 rfl) ?_
        refine lv_iload_n hx hb dX10_takes_37 rfl (lv_at hl 2 rfl) ?_
        refine lv_iload hx hb dX10_takes_38 (lv_at hl 7 rfl) ?_
        obtain ⟨r16, hc17, hf⟩ := g_b1_e hf
        refine g_call (va_runV (As := [.int x2, .int x7]) (rest := []) ⟨hx, hb, hml, hown, hts⟩ (c10_standing l G E μ _ _ _ _ hc17) (cwV 2 hts gX10_takes_X10_standing rfl rfl rfl (by decide +kernel) ⟨Nat.le_of_ble_eq_true rfl, Nat.le_of_ble_eq_true rfl⟩) (g_preV (ci := 10) hR hK (hR.2.2.2.2.1.1) rfl) rfl rfl hl.1 rfl (lv_room (Nat.le_of_ble_eq_true rfl)) dX10_takes_40 ⟨by show _ ≤ 0; omega, by show _ ≤ 0; omega⟩) hS (fun w18 H locs hp hR hS => ?_)
        subst hp
        refine lv_istore (lv' := [(8, .int r16), (0, .ref (G.2.2 + 54)), (1, .int x1), (2, .int x2), (3, .int x3), (4, .int x4), (5, .int x5), (6, .int x6), (7, .int x7)]) hx hb dX10_takes_43 hl (by decide) rfl (fun ls hl => ?_)
        refine lv_iload hx hb dX10_takes_45 (lv_at hl 8 rfl) ?_
        refine lv_iload_n hx hb dX10_takes_47 rfl (lv_at hl 4 rfl) ?_
        refine lv_icmp_gt (tgt := 66) hx hb dX10_takes_48 (by decide) (fun c19 => ?_) (fun c19 => ?_)
        · replace hf := g_it hf c19
          refine lv_iconst (v := 1) hx hb dX10_takes_66 (by decide) ?_
          refine lv_goto (tgt := 71) hx hb dX10_takes_67 (by decide) ?_
          refine lv_istore (lv' := [(9, .int (1 : Int32)), (8, .int r16), (0, .ref (G.2.2 + 54)), (1, .int x1), (2, .int x2), (3, .int x3), (4, .int x4), (5, .int x5), (6, .int x6), (7, .int x7)]) hx hb dX10_takes_71 hl (by decide) rfl (fun ls hl => ?_)
          refine lv_iload hx hb dX10_takes_73 (lv_at hl 9 rfl) ?_
          refine lv_iload_n hx hb dX10_takes_75 rfl (lv_at hl 5 rfl) ?_
          refine lv_icmp_ne (tgt := 94) hx hb dX10_takes_76 (by decide) (fun c20 => ?_) (fun c20 => ?_)
          · replace hf := g_it hf c20
            refine lv_iload hx hb dX10_takes_94 (lv_at hl 0 rfl) ?_
            refine lv_if_eq (tgt := 121) hx hb dX10_takes_96 (by decide) (fun c21 => absurd c21 (by decide)) (fun _ => ?_)
            refine lv_aload_n hx hb dX10_takes_99 rfl (lv_at hl 2 rfl) ?_
            refine g_get hx hb hts in_10 hown hK hR.2.2.2.2.1.1 rfl 0 (by decide) l_7 rfl rfl dX10_takes_100 ?_
            refine lv_bipush (v := 14) hx hb dX10_takes_103 (by decide) ?_
            refine lv_bipush (v := 9) hx hb dX10_takes_105 (by decide) ?_
            refine lv_iload_n hx hb dX10_takes_107 rfl (lv_at hl 4 rfl) ?_
            refine lv_imul hx hb dX10_takes_108 ?_
            refine lv_iadd hx hb dX10_takes_109 ?_
            refine lv_iconst (v := 1) hx hb dX10_takes_110 (by decide) ?_
            refine lv_iadd hx hb dX10_takes_111 ?_
            refine lv_iload hx hb dX10_takes_112 (lv_at hl 7 rfl) ?_
            refine lv_iadd hx hb dX10_takes_114 ?_
            refine lv_iload hx hb dX10_takes_115 (lv_at hl 1 rfl) ?_
            obtain ⟨hg22, hf⟩ := g_gd hf
            refine g_aist hx hb hK hS hR (by decide) hg22 dX10_takes_117 (fun H locs hR hS => ?_)
            obtain ⟨z23, ez23, hf⟩ := g_let_e hf
            replace hR : g_R G E (g_setM μ z23) H := by rw [ez23]; exact hR
            refine lv_iinc (v := x5 + 1) (lv' := [(5, .int (x5 + 1)), (9, .int (1 : Int32)), (8, .int r16), (0, .ref (G.2.2 + 54)), (1, .int x1), (2, .int x2), (3, .int x3), (4, .int x4), (6, .int x6), (7, .int x7)]) hx hb dX10_takes_118 hl (k := 7) rfl rfl (by decide) rfl (fun ls hl => ?_)
            refine lv_iinc (v := x7 + 1) (lv' := [(7, .int (x7 + 1)), (5, .int (x5 + 1)), (9, .int (1 : Int32)), (8, .int r16), (0, .ref (G.2.2 + 54)), (1, .int x1), (2, .int x2), (3, .int x3), (4, .int x4), (6, .int x6)]) hx hb dX10_takes_121 hl (k := 9) rfl rfl (by decide) rfl (fun ls hl => ?_)
            refine lv_goto (tgt := 29) hx hb dX10_takes_124 (by decide) ?_
            exact ih _ _ _ _ _ _ _ _ _ _ _ hf  hR hS (lv_sub hl [4, 5, 6, 7, 8, 1, 9, 0] rfl)
          · replace hf := g_if hf (fun q => q c20)
            refine lv_aload_n hx hb dX10_takes_79 rfl (lv_at hl 2 rfl) ?_
            refine lv_iload_n hx hb dX10_takes_80 rfl (lv_at hl 3 rfl) ?_
            obtain ⟨r24, z25, hc26, hf⟩ := g_bd_e hf
            refine g_call (va_runV (As := [.int x1]) (rest := []) ⟨hx, hb, hml, hown, hts⟩ (c10_breaks l G E μ _ _ _ _ hc26) (cwV 1 hts gX10_takes_X10_breaks rfl rfl rfl (by decide +kernel) ⟨Nat.le_of_ble_eq_true rfl, Nat.le_of_ble_eq_true rfl⟩) (g_preV (ci := 10) hR hK (hR.2.2.2.2.1.1) rfl) rfl rfl hl.1 rfl (lv_room (Nat.le_of_ble_eq_true rfl)) dX10_takes_81 ⟨by show _ ≤ 0; omega, by show _ ≤ 0; omega⟩) hS (fun w27 H locs hp hR hS => ?_)
            subst hp
            refine lv_if_ne (tgt := 91) hx hb dX10_takes_84 (by decide) (fun c28 => ?_) (fun c28 => ?_)
            · replace hf := g_it hf c28
              refine lv_iconst (v := 0) hx hb dX10_takes_91 (by decide) ?_
              refine lv_istore (lv' := [(6, .int (0 : Int32)), (9, .int (1 : Int32)), (8, .int r16), (0, .ref (G.2.2 + 54)), (1, .int x1), (2, .int x2), (3, .int x3), (4, .int x4), (5, .int x5), (7, .int x7)]) hx hb dX10_takes_92 hl (by decide) rfl (fun ls hl => ?_)
              refine lv_iload hx hb dX10_takes_94 (lv_at hl 1 rfl) ?_
              refine lv_if_eq (tgt := 121) hx hb dX10_takes_96 (by decide) (fun c29 => absurd c29 (by decide)) (fun _ => ?_)
              refine lv_aload_n hx hb dX10_takes_99 rfl (lv_at hl 3 rfl) ?_
              refine g_get hx hb hts in_10 hown hK hR.2.2.2.2.1.1 rfl 0 (by decide) l_7 rfl rfl dX10_takes_100 ?_
              refine lv_bipush (v := 14) hx hb dX10_takes_103 (by decide) ?_
              refine lv_bipush (v := 9) hx hb dX10_takes_105 (by decide) ?_
              refine lv_iload_n hx hb dX10_takes_107 rfl (lv_at hl 5 rfl) ?_
              refine lv_imul hx hb dX10_takes_108 ?_
              refine lv_iadd hx hb dX10_takes_109 ?_
              refine lv_iconst (v := 1) hx hb dX10_takes_110 (by decide) ?_
              refine lv_iadd hx hb dX10_takes_111 ?_
              refine lv_iload hx hb dX10_takes_112 (lv_at hl 8 rfl) ?_
              refine lv_iadd hx hb dX10_takes_114 ?_
              refine lv_iload hx hb dX10_takes_115 (lv_at hl 2 rfl) ?_
              obtain ⟨hg30, hf⟩ := g_gd hf
              refine g_aist hx hb hK hS hR (by decide) hg30 dX10_takes_117 (fun H locs hR hS => ?_)
              obtain ⟨z31, ez31, hf⟩ := g_let_e hf
              replace hR : g_R G E (g_setM μ z31) H := by rw [ez31]; exact hR
              refine lv_iinc (v := x5 + 1) (lv' := [(5, .int (x5 + 1)), (6, .int (0 : Int32)), (9, .int (1 : Int32)), (8, .int r16), (0, .ref (G.2.2 + 54)), (1, .int x1), (2, .int x2), (3, .int x3), (4, .int x4), (7, .int x7)]) hx hb dX10_takes_118 hl (k := 8) rfl rfl (by decide) rfl (fun ls hl => ?_)
              refine lv_iinc (v := x7 + 1) (lv' := [(7, .int (x7 + 1)), (5, .int (x5 + 1)), (6, .int (0 : Int32)), (9, .int (1 : Int32)), (8, .int r16), (0, .ref (G.2.2 + 54)), (1, .int x1), (2, .int x2), (3, .int x3), (4, .int x4)]) hx hb dX10_takes_121 hl (k := 9) rfl rfl (by decide) rfl (fun ls hl => ?_)
              refine lv_goto (tgt := 29) hx hb dX10_takes_124 (by decide) ?_
              exact ih _ _ _ _ _ _ _ _ _ _ _ hf  hR hS (lv_sub hl [5, 6, 7, 8, 9, 1, 2, 0] rfl)
            · replace hf := g_if hf (fun q => q c28)
              refine lv_iconst (v := 1) hx hb dX10_takes_87 (by decide) ?_
              refine lv_goto (tgt := 92) hx hb dX10_takes_88 (by decide) ?_
              refine lv_istore (lv' := [(6, .int (1 : Int32)), (9, .int (1 : Int32)), (8, .int r16), (0, .ref (G.2.2 + 54)), (1, .int x1), (2, .int x2), (3, .int x3), (4, .int x4), (5, .int x5), (7, .int x7)]) hx hb dX10_takes_92 hl (by decide) rfl (fun ls hl => ?_)
              refine lv_iload hx hb dX10_takes_94 (lv_at hl 1 rfl) ?_
              refine lv_if_eq (tgt := 121) hx hb dX10_takes_96 (by decide) (fun c32 => absurd c32 (by decide)) (fun _ => ?_)
              refine lv_aload_n hx hb dX10_takes_99 rfl (lv_at hl 3 rfl) ?_
              refine g_get hx hb hts in_10 hown hK hR.2.2.2.2.1.1 rfl 0 (by decide) l_7 rfl rfl dX10_takes_100 ?_
              refine lv_bipush (v := 14) hx hb dX10_takes_103 (by decide) ?_
              refine lv_bipush (v := 9) hx hb dX10_takes_105 (by decide) ?_
              refine lv_iload_n hx hb dX10_takes_107 rfl (lv_at hl 5 rfl) ?_
              refine lv_imul hx hb dX10_takes_108 ?_
              refine lv_iadd hx hb dX10_takes_109 ?_
              refine lv_iconst (v := 1) hx hb dX10_takes_110 (by decide) ?_
              refine lv_iadd hx hb dX10_takes_111 ?_
              refine lv_iload hx hb dX10_takes_112 (lv_at hl 8 rfl) ?_
              refine lv_iadd hx hb dX10_takes_114 ?_
              refine lv_iload hx hb dX10_takes_115 (lv_at hl 2 rfl) ?_
              obtain ⟨hg33, hf⟩ := g_gd hf
              refine g_aist hx hb hK hS hR (by decide) hg33 dX10_takes_117 (fun H locs hR hS => ?_)
              obtain ⟨z34, ez34, hf⟩ := g_let_e hf
              replace hR : g_R G E (g_setM μ z34) H := by rw [ez34]; exact hR
              refine lv_iinc (v := x5 + 1) (lv' := [(5, .int (x5 + 1)), (6, .int (1 : Int32)), (9, .int (1 : Int32)), (8, .int r16), (0, .ref (G.2.2 + 54)), (1, .int x1), (2, .int x2), (3, .int x3), (4, .int x4), (7, .int x7)]) hx hb dX10_takes_118 hl (k := 8) rfl rfl (by decide) rfl (fun ls hl => ?_)
              refine lv_iinc (v := x7 + 1) (lv' := [(7, .int (x7 + 1)), (5, .int (x5 + 1)), (6, .int (1 : Int32)), (9, .int (1 : Int32)), (8, .int r16), (0, .ref (G.2.2 + 54)), (1, .int x1), (2, .int x2), (3, .int x3), (4, .int x4)]) hx hb dX10_takes_121 hl (k := 9) rfl rfl (by decide) rfl (fun ls hl => ?_)
              refine lv_goto (tgt := 29) hx hb dX10_takes_124 (by decide) ?_
              exact ih _ _ _ _ _ _ _ _ _ _ _ hf  hR hS (lv_sub hl [5, 6, 7, 8, 9, 1, 2, 0] rfl)
        · replace hf := g_if hf c19
          refine lv_iload hx hb dX10_takes_51 (lv_at hl 8 rfl) ?_
          refine lv_iload_n hx hb dX10_takes_53 rfl (lv_at hl 4 rfl) ?_
          refine lv_icmp_ge (tgt := 70) hx hb dX10_takes_54 (by decide) (fun c35 => ?_) (fun c35 => ?_)
          · replace hf := g_it hf c35
            refine lv_iconst (v := 0) hx hb dX10_takes_70 (by decide) ?_
            refine lv_istore (lv' := [(9, .int (0 : Int32)), (8, .int r16), (0, .ref (G.2.2 + 54)), (1, .int x1), (2, .int x2), (3, .int x3), (4, .int x4), (5, .int x5), (6, .int x6), (7, .int x7)]) hx hb dX10_takes_71 hl (by decide) rfl (fun ls hl => ?_)
            refine lv_iload hx hb dX10_takes_73 (lv_at hl 9 rfl) ?_
            refine lv_iload_n hx hb dX10_takes_75 rfl (lv_at hl 5 rfl) ?_
            refine lv_icmp_ne (tgt := 94) hx hb dX10_takes_76 (by decide) (fun c36 => ?_) (fun c36 => ?_)
            · replace hf := g_it hf c36
              refine lv_iload hx hb dX10_takes_94 (lv_at hl 0 rfl) ?_
              refine lv_if_eq (tgt := 121) hx hb dX10_takes_96 (by decide) (fun _ => ?_) (fun c37 => absurd (by decide) c37)
              refine lv_iinc (v := x7 + 1) (lv' := [(7, .int (x7 + 1)), (9, .int (0 : Int32)), (8, .int r16), (0, .ref (G.2.2 + 54)), (1, .int x1), (2, .int x2), (3, .int x3), (4, .int x4), (5, .int x5), (6, .int x6)]) hx hb dX10_takes_121 hl (k := 9) rfl rfl (by decide) rfl (fun ls hl => ?_)
              refine lv_goto (tgt := 29) hx hb dX10_takes_124 (by decide) ?_
              exact ih _ _ _ _ _ _ _ _ _ _ _ hf  hR hS (lv_sub hl [3, 4, 5, 6, 7, 8, 9, 0] rfl)
            · replace hf := g_if hf (fun q => q c36)
              refine lv_aload_n hx hb dX10_takes_79 rfl (lv_at hl 2 rfl) ?_
              refine lv_iload_n hx hb dX10_takes_80 rfl (lv_at hl 3 rfl) ?_
              obtain ⟨r38, z39, hc40, hf⟩ := g_bd_e hf
              refine g_call (va_runV (As := [.int x1]) (rest := []) ⟨hx, hb, hml, hown, hts⟩ (c10_breaks l G E μ _ _ _ _ hc40) (cwV 1 hts gX10_takes_X10_breaks rfl rfl rfl (by decide +kernel) ⟨Nat.le_of_ble_eq_true rfl, Nat.le_of_ble_eq_true rfl⟩) (g_preV (ci := 10) hR hK (hR.2.2.2.2.1.1) rfl) rfl rfl hl.1 rfl (lv_room (Nat.le_of_ble_eq_true rfl)) dX10_takes_81 ⟨by show _ ≤ 0; omega, by show _ ≤ 0; omega⟩) hS (fun w41 H locs hp hR hS => ?_)
              subst hp
              refine lv_if_ne (tgt := 91) hx hb dX10_takes_84 (by decide) (fun c42 => ?_) (fun c42 => ?_)
              · replace hf := g_it hf c42
                refine lv_iconst (v := 0) hx hb dX10_takes_91 (by decide) ?_
                refine lv_istore (lv' := [(6, .int (0 : Int32)), (9, .int (0 : Int32)), (8, .int r16), (0, .ref (G.2.2 + 54)), (1, .int x1), (2, .int x2), (3, .int x3), (4, .int x4), (5, .int x5), (7, .int x7)]) hx hb dX10_takes_92 hl (by decide) rfl (fun ls hl => ?_)
                refine lv_iload hx hb dX10_takes_94 (lv_at hl 1 rfl) ?_
                refine lv_if_eq (tgt := 121) hx hb dX10_takes_96 (by decide) (fun _ => ?_) (fun c43 => absurd (by decide) c43)
                refine lv_iinc (v := x7 + 1) (lv' := [(7, .int (x7 + 1)), (6, .int (0 : Int32)), (9, .int (0 : Int32)), (8, .int r16), (0, .ref (G.2.2 + 54)), (1, .int x1), (2, .int x2), (3, .int x3), (4, .int x4), (5, .int x5)]) hx hb dX10_takes_121 hl (k := 9) rfl rfl (by decide) rfl (fun ls hl => ?_)
                refine lv_goto (tgt := 29) hx hb dX10_takes_124 (by decide) ?_
                exact ih _ _ _ _ _ _ _ _ _ _ _ hf  hR hS (lv_sub hl [4, 5, 6, 7, 8, 9, 1, 0] rfl)
              · replace hf := g_if hf (fun q => q c42)
                refine lv_iconst (v := 1) hx hb dX10_takes_87 (by decide) ?_
                refine lv_goto (tgt := 92) hx hb dX10_takes_88 (by decide) ?_
                refine lv_istore (lv' := [(6, .int (1 : Int32)), (9, .int (0 : Int32)), (8, .int r16), (0, .ref (G.2.2 + 54)), (1, .int x1), (2, .int x2), (3, .int x3), (4, .int x4), (5, .int x5), (7, .int x7)]) hx hb dX10_takes_92 hl (by decide) rfl (fun ls hl => ?_)
                refine lv_iload hx hb dX10_takes_94 (lv_at hl 1 rfl) ?_
                refine lv_if_eq (tgt := 121) hx hb dX10_takes_96 (by decide) (fun _ => ?_) (fun c44 => absurd (by decide) c44)
                refine lv_iinc (v := x7 + 1) (lv' := [(7, .int (x7 + 1)), (6, .int (1 : Int32)), (9, .int (0 : Int32)), (8, .int r16), (0, .ref (G.2.2 + 54)), (1, .int x1), (2, .int x2), (3, .int x3), (4, .int x4), (5, .int x5)]) hx hb dX10_takes_121 hl (k := 9) rfl rfl (by decide) rfl (fun ls hl => ?_)
                refine lv_goto (tgt := 29) hx hb dX10_takes_124 (by decide) ?_
                exact ih _ _ _ _ _ _ _ _ _ _ _ hf  hR hS (lv_sub hl [4, 5, 6, 7, 8, 9, 1, 0] rfl)
          · replace hf := g_if hf c35
            refine lv_aload_n hx hb dX10_takes_57 rfl (lv_at hl 1 rfl) ?_
            refine lv_iload hx hb dX10_takes_58 (lv_at hl 0 rfl) ?_
            obtain ⟨r45, z46, hc47, hf⟩ := g_bd_e hf
            refine g_call (va_runV (As := [.int r16]) (rest := []) ⟨hx, hb, hml, hown, hts⟩ (c10_breaks l G E μ _ _ _ _ hc47) (cwV 1 hts gX10_takes_X10_breaks rfl rfl rfl (by decide +kernel) ⟨Nat.le_of_ble_eq_true rfl, Nat.le_of_ble_eq_true rfl⟩) (g_preV (ci := 10) hR hK (hR.2.2.2.2.1.1) rfl) rfl rfl hl.1 rfl (lv_room (Nat.le_of_ble_eq_true rfl)) dX10_takes_60 ⟨by show _ ≤ 0; omega, by show _ ≤ 0; omega⟩) hS (fun w48 H locs hp hR hS => ?_)
            subst hp
            refine lv_if_ne (tgt := 70) hx hb dX10_takes_63 (by decide) (fun c49 => ?_) (fun c49 => ?_)
            · replace hf := g_it hf c49
              refine lv_iconst (v := 0) hx hb dX10_takes_70 (by decide) ?_
              refine lv_istore (lv' := [(9, .int (0 : Int32)), (8, .int r16), (0, .ref (G.2.2 + 54)), (1, .int x1), (2, .int x2), (3, .int x3), (4, .int x4), (5, .int x5), (6, .int x6), (7, .int x7)]) hx hb dX10_takes_71 hl (by decide) rfl (fun ls hl => ?_)
              refine lv_iload hx hb dX10_takes_73 (lv_at hl 9 rfl) ?_
              refine lv_iload_n hx hb dX10_takes_75 rfl (lv_at hl 5 rfl) ?_
              refine lv_icmp_ne (tgt := 94) hx hb dX10_takes_76 (by decide) (fun c50 => ?_) (fun c50 => ?_)
              · replace hf := g_it hf c50
                refine lv_iload hx hb dX10_takes_94 (lv_at hl 0 rfl) ?_
                refine lv_if_eq (tgt := 121) hx hb dX10_takes_96 (by decide) (fun _ => ?_) (fun c51 => absurd (by decide) c51)
                refine lv_iinc (v := x7 + 1) (lv' := [(7, .int (x7 + 1)), (9, .int (0 : Int32)), (8, .int r16), (0, .ref (G.2.2 + 54)), (1, .int x1), (2, .int x2), (3, .int x3), (4, .int x4), (5, .int x5), (6, .int x6)]) hx hb dX10_takes_121 hl (k := 9) rfl rfl (by decide) rfl (fun ls hl => ?_)
                refine lv_goto (tgt := 29) hx hb dX10_takes_124 (by decide) ?_
                exact ih _ _ _ _ _ _ _ _ _ _ _ hf  hR hS (lv_sub hl [3, 4, 5, 6, 7, 8, 9, 0] rfl)
              · replace hf := g_if hf (fun q => q c50)
                refine lv_aload_n hx hb dX10_takes_79 rfl (lv_at hl 2 rfl) ?_
                refine lv_iload_n hx hb dX10_takes_80 rfl (lv_at hl 3 rfl) ?_
                obtain ⟨r52, z53, hc54, hf⟩ := g_bd_e hf
                refine g_call (va_runV (As := [.int x1]) (rest := []) ⟨hx, hb, hml, hown, hts⟩ (c10_breaks l G E μ _ _ _ _ hc54) (cwV 1 hts gX10_takes_X10_breaks rfl rfl rfl (by decide +kernel) ⟨Nat.le_of_ble_eq_true rfl, Nat.le_of_ble_eq_true rfl⟩) (g_preV (ci := 10) hR hK (hR.2.2.2.2.1.1) rfl) rfl rfl hl.1 rfl (lv_room (Nat.le_of_ble_eq_true rfl)) dX10_takes_81 ⟨by show _ ≤ 0; omega, by show _ ≤ 0; omega⟩) hS (fun w55 H locs hp hR hS => ?_)
                subst hp
                refine lv_if_ne (tgt := 91) hx hb dX10_takes_84 (by decide) (fun c56 => ?_) (fun c56 => ?_)
                · replace hf := g_it hf c56
                  refine lv_iconst (v := 0) hx hb dX10_takes_91 (by decide) ?_
                  refine lv_istore (lv' := [(6, .int (0 : Int32)), (9, .int (0 : Int32)), (8, .int r16), (0, .ref (G.2.2 + 54)), (1, .int x1), (2, .int x2), (3, .int x3), (4, .int x4), (5, .int x5), (7, .int x7)]) hx hb dX10_takes_92 hl (by decide) rfl (fun ls hl => ?_)
                  refine lv_iload hx hb dX10_takes_94 (lv_at hl 1 rfl) ?_
                  refine lv_if_eq (tgt := 121) hx hb dX10_takes_96 (by decide) (fun _ => ?_) (fun c57 => absurd (by decide) c57)
                  refine lv_iinc (v := x7 + 1) (lv' := [(7, .int (x7 + 1)), (6, .int (0 : Int32)), (9, .int (0 : Int32)), (8, .int r16), (0, .ref (G.2.2 + 54)), (1, .int x1), (2, .int x2), (3, .int x3), (4, .int x4), (5, .int x5)]) hx hb dX10_takes_121 hl (k := 9) rfl rfl (by decide) rfl (fun ls hl => ?_)
                  refine lv_goto (tgt := 29) hx hb dX10_takes_124 (by decide) ?_
                  exact ih _ _ _ _ _ _ _ _ _ _ _ hf  hR hS (lv_sub hl [4, 5, 6, 7, 8, 9, 1, 0] rfl)
                · replace hf := g_if hf (fun q => q c56)
                  refine lv_iconst (v := 1) hx hb dX10_takes_87 (by decide) ?_
                  refine lv_goto (tgt := 92) hx hb dX10_takes_88 (by decide) ?_
                  refine lv_istore (lv' := [(6, .int (1 : Int32)), (9, .int (0 : Int32)), (8, .int r16), (0, .ref (G.2.2 + 54)), (1, .int x1), (2, .int x2), (3, .int x3), (4, .int x4), (5, .int x5), (7, .int x7)]) hx hb dX10_takes_92 hl (by decide) rfl (fun ls hl => ?_)
                  refine lv_iload hx hb dX10_takes_94 (lv_at hl 1 rfl) ?_
                  refine lv_if_eq (tgt := 121) hx hb dX10_takes_96 (by decide) (fun _ => ?_) (fun c58 => absurd (by decide) c58)
                  refine lv_iinc (v := x7 + 1) (lv' := [(7, .int (x7 + 1)), (6, .int (1 : Int32)), (9, .int (0 : Int32)), (8, .int r16), (0, .ref (G.2.2 + 54)), (1, .int x1), (2, .int x2), (3, .int x3), (4, .int x4), (5, .int x5)]) hx hb dX10_takes_121 hl (k := 9) rfl rfl (by decide) rfl (fun ls hl => ?_)
                  refine lv_goto (tgt := 29) hx hb dX10_takes_124 (by decide) ?_
                  exact ih _ _ _ _ _ _ _ _ _ _ _ hf  hR hS (lv_sub hl [4, 5, 6, 7, 8, 9, 1, 0] rfl)
            · replace hf := g_if hf (fun q => q c49)
              refine lv_iconst (v := 1) hx hb dX10_takes_66 (by decide) ?_
              refine lv_goto (tgt := 71) hx hb dX10_takes_67 (by decide) ?_
              refine lv_istore (lv' := [(9, .int (1 : Int32)), (8, .int r16), (0, .ref (G.2.2 + 54)), (1, .int x1), (2, .int x2), (3, .int x3), (4, .int x4), (5, .int x5), (6, .int x6), (7, .int x7)]) hx hb dX10_takes_71 hl (by decide) rfl (fun ls hl => ?_)
              refine lv_iload hx hb dX10_takes_73 (lv_at hl 9 rfl) ?_
              refine lv_iload_n hx hb dX10_takes_75 rfl (lv_at hl 5 rfl) ?_
              refine lv_icmp_ne (tgt := 94) hx hb dX10_takes_76 (by decide) (fun c59 => ?_) (fun c59 => ?_)
              · replace hf := g_it hf c59
                refine lv_iload hx hb dX10_takes_94 (lv_at hl 0 rfl) ?_
                refine lv_if_eq (tgt := 121) hx hb dX10_takes_96 (by decide) (fun c60 => absurd c60 (by decide)) (fun _ => ?_)
                refine lv_aload_n hx hb dX10_takes_99 rfl (lv_at hl 2 rfl) ?_
                refine g_get hx hb hts in_10 hown hK hR.2.2.2.2.1.1 rfl 0 (by decide) l_7 rfl rfl dX10_takes_100 ?_
                refine lv_bipush (v := 14) hx hb dX10_takes_103 (by decide) ?_
                refine lv_bipush (v := 9) hx hb dX10_takes_105 (by decide) ?_
                refine lv_iload_n hx hb dX10_takes_107 rfl (lv_at hl 4 rfl) ?_
                refine lv_imul hx hb dX10_takes_108 ?_
                refine lv_iadd hx hb dX10_takes_109 ?_
                refine lv_iconst (v := 1) hx hb dX10_takes_110 (by decide) ?_
                refine lv_iadd hx hb dX10_takes_111 ?_
                refine lv_iload hx hb dX10_takes_112 (lv_at hl 7 rfl) ?_
                refine lv_iadd hx hb dX10_takes_114 ?_
                refine lv_iload hx hb dX10_takes_115 (lv_at hl 1 rfl) ?_
                obtain ⟨hg61, hf⟩ := g_gd hf
                refine g_aist hx hb hK hS hR (by decide) hg61 dX10_takes_117 (fun H locs hR hS => ?_)
                obtain ⟨z62, ez62, hf⟩ := g_let_e hf
                replace hR : g_R G E (g_setM μ z62) H := by rw [ez62]; exact hR
                refine lv_iinc (v := x5 + 1) (lv' := [(5, .int (x5 + 1)), (9, .int (1 : Int32)), (8, .int r16), (0, .ref (G.2.2 + 54)), (1, .int x1), (2, .int x2), (3, .int x3), (4, .int x4), (6, .int x6), (7, .int x7)]) hx hb dX10_takes_118 hl (k := 7) rfl rfl (by decide) rfl (fun ls hl => ?_)
                refine lv_iinc (v := x7 + 1) (lv' := [(7, .int (x7 + 1)), (5, .int (x5 + 1)), (9, .int (1 : Int32)), (8, .int r16), (0, .ref (G.2.2 + 54)), (1, .int x1), (2, .int x2), (3, .int x3), (4, .int x4), (6, .int x6)]) hx hb dX10_takes_121 hl (k := 9) rfl rfl (by decide) rfl (fun ls hl => ?_)
                refine lv_goto (tgt := 29) hx hb dX10_takes_124 (by decide) ?_
                exact ih _ _ _ _ _ _ _ _ _ _ _ hf  hR hS (lv_sub hl [4, 5, 6, 7, 8, 1, 9, 0] rfl)
              · replace hf := g_if hf (fun q => q c59)
                refine lv_aload_n hx hb dX10_takes_79 rfl (lv_at hl 2 rfl) ?_
                refine lv_iload_n hx hb dX10_takes_80 rfl (lv_at hl 3 rfl) ?_
                obtain ⟨r63, z64, hc65, hf⟩ := g_bd_e hf
                refine g_call (va_runV (As := [.int x1]) (rest := []) ⟨hx, hb, hml, hown, hts⟩ (c10_breaks l G E μ _ _ _ _ hc65) (cwV 1 hts gX10_takes_X10_breaks rfl rfl rfl (by decide +kernel) ⟨Nat.le_of_ble_eq_true rfl, Nat.le_of_ble_eq_true rfl⟩) (g_preV (ci := 10) hR hK (hR.2.2.2.2.1.1) rfl) rfl rfl hl.1 rfl (lv_room (Nat.le_of_ble_eq_true rfl)) dX10_takes_81 ⟨by show _ ≤ 0; omega, by show _ ≤ 0; omega⟩) hS (fun w66 H locs hp hR hS => ?_)
                subst hp
                refine lv_if_ne (tgt := 91) hx hb dX10_takes_84 (by decide) (fun c67 => ?_) (fun c67 => ?_)
                · replace hf := g_it hf c67
                  refine lv_iconst (v := 0) hx hb dX10_takes_91 (by decide) ?_
                  refine lv_istore (lv' := [(6, .int (0 : Int32)), (9, .int (1 : Int32)), (8, .int r16), (0, .ref (G.2.2 + 54)), (1, .int x1), (2, .int x2), (3, .int x3), (4, .int x4), (5, .int x5), (7, .int x7)]) hx hb dX10_takes_92 hl (by decide) rfl (fun ls hl => ?_)
                  refine lv_iload hx hb dX10_takes_94 (lv_at hl 1 rfl) ?_
                  refine lv_if_eq (tgt := 121) hx hb dX10_takes_96 (by decide) (fun c68 => absurd c68 (by decide)) (fun _ => ?_)
                  refine lv_aload_n hx hb dX10_takes_99 rfl (lv_at hl 3 rfl) ?_
                  refine g_get hx hb hts in_10 hown hK hR.2.2.2.2.1.1 rfl 0 (by decide) l_7 rfl rfl dX10_takes_100 ?_
                  refine lv_bipush (v := 14) hx hb dX10_takes_103 (by decide) ?_
                  refine lv_bipush (v := 9) hx hb dX10_takes_105 (by decide) ?_
                  refine lv_iload_n hx hb dX10_takes_107 rfl (lv_at hl 5 rfl) ?_
                  refine lv_imul hx hb dX10_takes_108 ?_
                  refine lv_iadd hx hb dX10_takes_109 ?_
                  refine lv_iconst (v := 1) hx hb dX10_takes_110 (by decide) ?_
                  refine lv_iadd hx hb dX10_takes_111 ?_
                  refine lv_iload hx hb dX10_takes_112 (lv_at hl 8 rfl) ?_
                  refine lv_iadd hx hb dX10_takes_114 ?_
                  refine lv_iload hx hb dX10_takes_115 (lv_at hl 2 rfl) ?_
                  obtain ⟨hg69, hf⟩ := g_gd hf
                  refine g_aist hx hb hK hS hR (by decide) hg69 dX10_takes_117 (fun H locs hR hS => ?_)
                  obtain ⟨z70, ez70, hf⟩ := g_let_e hf
                  replace hR : g_R G E (g_setM μ z70) H := by rw [ez70]; exact hR
                  refine lv_iinc (v := x5 + 1) (lv' := [(5, .int (x5 + 1)), (6, .int (0 : Int32)), (9, .int (1 : Int32)), (8, .int r16), (0, .ref (G.2.2 + 54)), (1, .int x1), (2, .int x2), (3, .int x3), (4, .int x4), (7, .int x7)]) hx hb dX10_takes_118 hl (k := 8) rfl rfl (by decide) rfl (fun ls hl => ?_)
                  refine lv_iinc (v := x7 + 1) (lv' := [(7, .int (x7 + 1)), (5, .int (x5 + 1)), (6, .int (0 : Int32)), (9, .int (1 : Int32)), (8, .int r16), (0, .ref (G.2.2 + 54)), (1, .int x1), (2, .int x2), (3, .int x3), (4, .int x4)]) hx hb dX10_takes_121 hl (k := 9) rfl rfl (by decide) rfl (fun ls hl => ?_)
                  refine lv_goto (tgt := 29) hx hb dX10_takes_124 (by decide) ?_
                  exact ih _ _ _ _ _ _ _ _ _ _ _ hf  hR hS (lv_sub hl [5, 6, 7, 8, 9, 1, 2, 0] rfl)
                · replace hf := g_if hf (fun q => q c67)
                  refine lv_iconst (v := 1) hx hb dX10_takes_87 (by decide) ?_
                  refine lv_goto (tgt := 92) hx hb dX10_takes_88 (by decide) ?_
                  refine lv_istore (lv' := [(6, .int (1 : Int32)), (9, .int (1 : Int32)), (8, .int r16), (0, .ref (G.2.2 + 54)), (1, .int x1), (2, .int x2), (3, .int x3), (4, .int x4), (5, .int x5), (7, .int x7)]) hx hb dX10_takes_92 hl (by decide) rfl (fun ls hl => ?_)
                  refine lv_iload hx hb dX10_takes_94 (lv_at hl 1 rfl) ?_
                  refine lv_if_eq (tgt := 121) hx hb dX10_takes_96 (by decide) (fun c71 => absurd c71 (by decide)) (fun _ => ?_)
                  refine lv_aload_n hx hb dX10_takes_99 rfl (lv_at hl 3 rfl) ?_
                  refine g_get hx hb hts in_10 hown hK hR.2.2.2.2.1.1 rfl 0 (by decide) l_7 rfl rfl dX10_takes_100 ?_
                  refine lv_bipush (v := 14) hx hb dX10_takes_103 (by decide) ?_
                  refine lv_bipush (v := 9) hx hb dX10_takes_105 (by decide) ?_
                  refine lv_iload_n hx hb dX10_takes_107 rfl (lv_at hl 5 rfl) ?_
                  refine lv_imul hx hb dX10_takes_108 ?_
                  refine lv_iadd hx hb dX10_takes_109 ?_
                  refine lv_iconst (v := 1) hx hb dX10_takes_110 (by decide) ?_
                  refine lv_iadd hx hb dX10_takes_111 ?_
                  refine lv_iload hx hb dX10_takes_112 (lv_at hl 8 rfl) ?_
                  refine lv_iadd hx hb dX10_takes_114 ?_
                  refine lv_iload hx hb dX10_takes_115 (lv_at hl 2 rfl) ?_
                  obtain ⟨hg72, hf⟩ := g_gd hf
                  refine g_aist hx hb hK hS hR (by decide) hg72 dX10_takes_117 (fun H locs hR hS => ?_)
                  obtain ⟨z73, ez73, hf⟩ := g_let_e hf
                  replace hR : g_R G E (g_setM μ z73) H := by rw [ez73]; exact hR
                  refine lv_iinc (v := x5 + 1) (lv' := [(5, .int (x5 + 1)), (6, .int (1 : Int32)), (9, .int (1 : Int32)), (8, .int r16), (0, .ref (G.2.2 + 54)), (1, .int x1), (2, .int x2), (3, .int x3), (4, .int x4), (7, .int x7)]) hx hb dX10_takes_118 hl (k := 8) rfl rfl (by decide) rfl (fun ls hl => ?_)
                  refine lv_iinc (v := x7 + 1) (lv' := [(7, .int (x7 + 1)), (5, .int (x5 + 1)), (6, .int (1 : Int32)), (9, .int (1 : Int32)), (8, .int r16), (0, .ref (G.2.2 + 54)), (1, .int x1), (2, .int x2), (3, .int x3), (4, .int x4)]) hx hb dX10_takes_121 hl (k := 9) rfl rfl (by decide) rfl (fun ls hl => ?_)
                  refine lv_goto (tgt := 29) hx hb dX10_takes_124 (by decide) ?_
                  exact ih _ _ _ _ _ _ _ _ _ _ _ hf  hR hS (lv_sub hl [5, 6, 7, 8, 9, 1, 2, 0] rfl)
  unfold f10_takes at hf
  refine lv_aload_n hx hb dX10_takes_0 rfl (lv_at hl 0 rfl) ?_
  refine lv_iload_n hx hb dX10_takes_1 rfl (lv_at hl 1 rfl) ?_
  refine lv_iconst (v := 3) hx hb dX10_takes_2 (by decide) ?_
  obtain ⟨r1, hc2, hf⟩ := g_b1_e hf
  refine g_call (va_runV (As := [.int p1, .int (3 : Int32)]) (rest := []) ⟨hx, hb, hml, hown, hts⟩ (c10_its l G E μ _ _ _ _ hc2) (cwV 2 hts gX10_takes_X10_its rfl rfl rfl (by decide +kernel) ⟨Nat.le_of_ble_eq_true rfl, Nat.le_of_ble_eq_true rfl⟩) (g_preV (ci := 10) hR hK (hR.2.2.2.2.1.1) rfl) rfl rfl hl.1 rfl (lv_room (Nat.le_of_ble_eq_true rfl)) dX10_takes_3 ⟨by show _ ≤ 0; omega, by show _ ≤ 0; omega⟩) hS (fun w3 H locs hp hR hS => ?_)
  subst hp
  refine lv_istore_n (lv' := [(2, .int r1), (0, .ref (G.2.2 + 54)), (1, .int p1)]) hx hb dX10_takes_6 rfl hl (by decide) rfl (fun ls hl => ?_)
  refine lv_aload_n hx hb dX10_takes_7 rfl (lv_at hl 1 rfl) ?_
  refine lv_iload_n hx hb dX10_takes_8 rfl (lv_at hl 2 rfl) ?_
  obtain ⟨r4, hc5, hf⟩ := g_b1_e hf
  refine g_call (va_runV (As := [.int p1]) (rest := []) ⟨hx, hb, hml, hown, hts⟩ (c10_before l G E μ _ _ _ hc5) (cwV 1 hts gX10_takes_X10_before rfl rfl rfl (by decide +kernel) ⟨Nat.le_of_ble_eq_true rfl, Nat.le_of_ble_eq_true rfl⟩) (g_preV (ci := 10) hR hK (hR.2.2.2.2.1.1) rfl) rfl rfl hl.1 rfl (lv_room (Nat.le_of_ble_eq_true rfl)) dX10_takes_9 ⟨by show _ ≤ 0; omega, by show _ ≤ 0; omega⟩) hS (fun w6 H locs hp hR hS => ?_)
  subst hp
  refine lv_istore_n (lv' := [(3, .int r4), (2, .int r1), (0, .ref (G.2.2 + 54)), (1, .int p1)]) hx hb dX10_takes_12 rfl hl (by decide) rfl (fun ls hl => ?_)
  refine lv_aload_n hx hb dX10_takes_13 rfl (lv_at hl 2 rfl) ?_
  refine lv_iload_n hx hb dX10_takes_14 rfl (lv_at hl 1 rfl) ?_
  obtain ⟨r7, hc8, hf⟩ := g_b1_e hf
  refine g_call (va_runV (As := [.int r1]) (rest := []) ⟨hx, hb, hml, hown, hts⟩ (c10_many l G E μ _ _ _ hc8) (cwV 1 hts gX10_takes_X10_many rfl rfl rfl (by decide +kernel) ⟨Nat.le_of_ble_eq_true rfl, Nat.le_of_ble_eq_true rfl⟩) (g_preV (ci := 10) hR hK (hR.2.2.2.2.1.1) rfl) rfl rfl hl.1 rfl (lv_room (Nat.le_of_ble_eq_true rfl)) dX10_takes_15 ⟨by show _ ≤ 0; omega, by show _ ≤ 0; omega⟩) hS (fun w9 H locs hp hR hS => ?_)
  subst hp
  refine lv_istore (lv' := [(4, .int r7), (3, .int r4), (2, .int r1), (0, .ref (G.2.2 + 54)), (1, .int p1)]) hx hb dX10_takes_18 hl (by decide) rfl (fun ls hl => ?_)
  refine lv_iconst (v := 0) hx hb dX10_takes_20 (by decide) ?_
  refine lv_istore (lv' := [(5, .int (0 : Int32)), (4, .int r7), (3, .int r4), (2, .int r1), (0, .ref (G.2.2 + 54)), (1, .int p1)]) hx hb dX10_takes_21 hl (by decide) rfl (fun ls hl => ?_)
  refine lv_iconst (v := 1) hx hb dX10_takes_23 (by decide) ?_
  refine lv_istore (lv' := [(6, .int (1 : Int32)), (5, .int (0 : Int32)), (4, .int r7), (3, .int r4), (2, .int r1), (0, .ref (G.2.2 + 54)), (1, .int p1)]) hx hb dX10_takes_24 hl (by decide) rfl (fun ls hl => ?_)
  refine lv_iconst (v := 0) hx hb dX10_takes_26 (by decide) ?_
  refine lv_istore (lv' := [(7, .int (0 : Int32)), (6, .int (1 : Int32)), (5, .int (0 : Int32)), (4, .int r7), (3, .int r4), (2, .int r1), (0, .ref (G.2.2 + 54)), (1, .int p1)]) hx hb dX10_takes_27 hl (by decide) rfl (fun ls hl => ?_)
  exact hB29 70 _ _ _ _ _ _ _ _ _ _ _ hf  hR hS (lv_sub hl [6, 7, 5, 4, 3, 2, 1, 0] rfl)
set_option maxHeartbeats 4000000 in
set_option maxRecDepth 100000 in
theorem c10_cuts (l : Launch) (G : gG) (E : gEn) (μ : gMu) (z0 : gMo) (p1 : Int32) (p2 : Int32) (ro : Int32) (zo : gMo) (hf : f10_cuts z0 p1 p2 = some (ro, zo)) : Met l yX10_cuts wsX10_cuts ({ frames := 4, cells := 0, slots := 0, locals := 103 } : Room) (g_Pre G E (g_setM μ z0) [.ref (G.2.2 + 54), .int p1, .int p2]) (g_Q G E (g_setM μ zo) (fun E' v => E' = E ∧ v = some (.int ro))) 0 0 (g_A G) := by
  refine Met.ofW (cc := cX10_cuts) (maxL := 10) (ret := some .int) (by decide) rfl ?_
  intro p e s m args below meth c s₁ B hml hv
  obtain ⟨rfl, hR, hK⟩ := hv
  have hx := B.exec
  have hb := B.bytes
  have hr := B.returns
  have hts := atoms_spec (ws := wsX10_cuts) B.pre
  have hown : s.vm.findClass RX10 = some m.cls := findClass_of_methodNamed B.named
  have hlocks := B.notSynchronized
  have hS : va_S (g_A G) s.heap s.heap [] := va_S.rf
  have hl := lv_entry ([.ref (G.2.2 + 54), .int p1, .int p2]) (n := 10) (Nat.le_of_ble_eq_true rfl)
  rw [lg_entry_eq]
  generalize (lg_sl ([.ref (G.2.2 + 54), .int p1, .int p2]) ++ List.replicate (10 - (lg_sl ([.ref (G.2.2 + 54), .int p1, .int p2])).length) Slot.unset).toArray = ls at hl ⊢
  have hl : lv_has ls 10 [(0, .ref (G.2.2 + 54)), (1, .int p1), (2, .int p2)] := hl
  have in_10 : ∀ w ∈ u_ws RX10 TX10 9, w ∈ wsX10_cuts := ifX10_cuts_10
  have l_7 := hts (.fieldLink RX10 7 "GlassRacksModel" "now" "[I") (by decide +kernel)
  have hB49 : ∀ (n : Nat) (z0 : gMo) (x1 : Int32) (x2 : Int32) (x3 : Int32) (x4 : Int32) (x5 : Int32) (x6 : Int32) (x7 : Int32) (H : Heap) (locs : List Loc) (ls : Array Slot), f10_cuts_49 n z0 x1 x2 x3 x4 x5 x6 x7 = some (ro, zo) → g_R G E (g_setM μ z0) H → va_S (g_A G) s.heap H locs → lv_has ls 10 [(0, .ref (G.2.2 + 54)), (1, .int x1), (2, .int x2), (3, .int x3), (4, .int x4), (5, .int x5), (6, .int x6), (7, .int x7)] → W p l e (headSpec wsX10_cuts ({ frames := 4, cells := 0, slots := 0, locals := 103 } : Room)).room s m ([.ref (G.2.2 + 54), .int p1, .int p2] : List Value).toArray below meth c H locs 0 0 (MQ below (g_Q G E (g_setM μ zo) (fun E' v => E' = E ∧ v = some (.int ro))) ([.ref (G.2.2 + 54), .int p1, .int p2] : List Value).toArray s 0 0 (g_A G)) (F0 m 49 ls []) := by
    intro n
    induction n with
    | zero =>
      intro z0 x1 x2 x3 x4 x5 x6 x7 H locs ls hf
      rw [f10_cuts_49] at hf
      cases hf
    | succ n ih =>
      intro z0 x1 x2 x3 x4 x5 x6 x7 H locs ls hf  hR hS hl
      rw [f10_cuts_49] at hf
      refine lv_iload hx hb dX10_cuts_49 (lv_at hl 7 rfl) ?_
      refine lv_iconst (v := 2) hx hb dX10_cuts_51 (by decide) ?_
      refine lv_icmp_ge (tgt := 161) hx hb dX10_cuts_52 (by decide) (fun c20 => ?_) (fun c20 => ?_)
      · replace hf := g_it hf c20
        refine lv_aload_n hx hb dX10_cuts_161 rfl (lv_at hl 0 rfl) ?_
        refine g_get hx hb hts in_10 hown hK hR.2.2.2.2.1.1 rfl 0 (by decide) l_7 rfl rfl dX10_cuts_162 ?_
        refine lv_iconst (v := 2) hx hb dX10_cuts_165 (by decide) ?_
        refine lv_dup2_11 hx hb dX10_cuts_166 rfl rfl ?_
        refine g_aild hx hb hK hR (by decide) (by decide) dX10_cuts_167 ?_
        refine lv_iload hx hb dX10_cuts_168 (lv_at hl 5 rfl) ?_
        refine lv_iadd hx hb dX10_cuts_170 ?_
        refine g_aist hx hb hK hS hR (by decide) (by decide) dX10_cuts_171 (fun H locs hR hS => ?_)
        obtain ⟨z21, ez21, hf⟩ := g_let_e hf
        replace hR : g_R G E (g_setM μ z21) H := by rw [ez21]; exact hR
        refine lv_aload_n hx hb dX10_cuts_172 rfl (lv_at hl 0 rfl) ?_
        refine g_get hx hb hts in_10 hown hK hR.2.2.2.2.1.1 rfl 0 (by decide) l_7 rfl rfl dX10_cuts_173 ?_
        refine lv_iconst (v := 5) hx hb dX10_cuts_176 (by decide) ?_
        refine lv_dup2_11 hx hb dX10_cuts_177 rfl rfl ?_
        refine g_aild hx hb hK hR (by decide) (by decide) dX10_cuts_178 ?_
        refine lv_iload hx hb dX10_cuts_179 (lv_at hl 6 rfl) ?_
        refine lv_iadd hx hb dX10_cuts_181 ?_
        refine g_aist hx hb hK hS hR (by decide) (by decide) dX10_cuts_182 (fun H locs hR hS => ?_)
        obtain ⟨z22, ez22, hf⟩ := g_let_e hf
        replace hR : g_R G E (g_setM μ z22) H := by rw [ez22]; exact hR
        refine lv_aload_n hx hb dX10_cuts_183 rfl (lv_at hl 0 rfl) ?_
        refine g_get hx hb hts in_10 hown hK hR.2.2.2.2.1.1 rfl 0 (by decide) l_7 rfl rfl dX10_cuts_184 ?_
        refine lv_sipush (v := 1050) hx hb dX10_cuts_187 (by decide) ?_
        refine lv_bipush (v := 7) hx hb dX10_cuts_190 (by decide) ?_
        refine lv_iload_n hx hb dX10_cuts_192 rfl (lv_at hl 1 rfl) ?_
        refine lv_imul hx hb dX10_cuts_193 ?_
        refine lv_iadd hx hb dX10_cuts_194 ?_
        refine lv_iconst (v := 4) hx hb dX10_cuts_195 (by decide) ?_
        refine lv_iadd hx hb dX10_cuts_196 ?_
        refine lv_iconst (v := 1) hx hb dX10_cuts_197 (by decide) ?_
        obtain ⟨hg23, hf⟩ := g_gd hf
        refine g_aist hx hb hK hS hR (by decide) hg23 dX10_cuts_198 (fun H locs hR hS => ?_)
        obtain ⟨z24, ez24, hf⟩ := g_let_e hf
        replace hR : g_R G E (g_setM μ z24) H := by rw [ez24]; exact hR
        refine lv_aload_n hx hb dX10_cuts_199 rfl (lv_at hl 0 rfl) ?_
        refine g_get hx hb hts in_10 hown hK hR.2.2.2.2.1.1 rfl 0 (by decide) l_7 rfl rfl dX10_cuts_200 ?_
        refine lv_sipush (v := 1050) hx hb dX10_cuts_203 (by decide) ?_
        refine lv_bipush (v := 7) hx hb dX10_cuts_206 (by decide) ?_
        refine lv_iload_n hx hb dX10_cuts_208 rfl (lv_at hl 1 rfl) ?_
        refine lv_imul hx hb dX10_cuts_209 ?_
        refine lv_iadd hx hb dX10_cuts_210 ?_
        refine lv_iconst (v := 5) hx hb dX10_cuts_211 (by decide) ?_
        refine lv_iadd hx hb dX10_cuts_212 ?_
        refine lv_iload_n hx hb dX10_cuts_213 rfl (lv_at hl 2 rfl) ?_
        obtain ⟨hg25, hf⟩ := g_gd hf
        refine g_aist hx hb hK hS hR (by decide) hg25 dX10_cuts_214 (fun H locs hR hS => ?_)
        obtain ⟨z26, ez26, hf⟩ := g_let_e hf
        replace hR : g_R G E (g_setM μ z26) H := by rw [ez26]; exact hR
        refine lv_aload_n hx hb dX10_cuts_215 rfl (lv_at hl 0 rfl) ?_
        refine g_get hx hb hts in_10 hown hK hR.2.2.2.2.1.1 rfl 0 (by decide) l_7 rfl rfl dX10_cuts_216 ?_
        refine lv_sipush (v := 1050) hx hb dX10_cuts_219 (by decide) ?_
        refine lv_bipush (v := 7) hx hb dX10_cuts_222 (by decide) ?_
        refine lv_iload_n hx hb dX10_cuts_224 rfl (lv_at hl 1 rfl) ?_
        refine lv_imul hx hb dX10_cuts_225 ?_
        refine lv_iadd hx hb dX10_cuts_226 ?_
        refine lv_bipush (v := 6) hx hb dX10_cuts_227 (by decide) ?_
        refine lv_iadd hx hb dX10_cuts_229 ?_
        refine lv_aload_n hx hb dX10_cuts_230 rfl (lv_at hl 0 rfl) ?_
        refine g_get hx hb hts in_10 hown hK hR.2.2.2.2.1.1 rfl 0 (by decide) l_7 rfl rfl dX10_cuts_231 ?_
        refine lv_iconst (v := 0) hx hb dX10_cuts_234 (by decide) ?_
        refine g_aild hx hb hK hR (by decide) (by decide) dX10_cuts_235 ?_
        obtain ⟨hg27, hf⟩ := g_gd hf
        refine g_aist hx hb hK hS hR (by decide) hg27 dX10_cuts_236 (fun H locs hR hS => ?_)
        obtain ⟨z28, ez28, hf⟩ := g_let_e hf
        replace hR : g_R G E (g_setM μ z28) H := by rw [ez28]; exact hR
        refine lv_iload hx hb dX10_cuts_237 (lv_at hl 4 rfl) ?_
        obtain ⟨rfl, rfl⟩ := g_sp hf
        exact g_iret hx hb hlocks hr hS hR g_le.rf ⟨rfl, rfl⟩ (by omega) (by omega) dX10_cuts_239
      · replace hf := g_if hf c20
        refine lv_aload_n hx hb dX10_cuts_55 rfl (lv_at hl 0 rfl) ?_
        refine lv_iload_n hx hb dX10_cuts_56 rfl (lv_at hl 1 rfl) ?_
        refine lv_iload_n hx hb dX10_cuts_57 rfl (lv_at hl 2 rfl) ?_
        refine lv_iload hx hb dX10_cuts_58 (lv_at hl 7 rfl) ?_
        obtain ⟨r29, hc30, hf⟩ := g_b1_e hf
        refine g_call (va_runV (As := [.int x1, .int x2, .int x7]) (rest := []) ⟨hx, hb, hml, hown, hts⟩ (c10_pieceArea l G E μ _ _ _ _ _ hc30) (cwV 3 hts gX10_cuts_X10_pieceArea rfl rfl rfl (by decide +kernel) ⟨Nat.le_of_ble_eq_true rfl, Nat.le_of_ble_eq_true rfl⟩) (g_preV (ci := 10) hR hK (hR.2.2.2.2.1.1) rfl) rfl rfl hl.1 rfl (lv_room (Nat.le_of_ble_eq_true rfl)) dX10_cuts_60 ⟨by show _ ≤ 0; omega, by show _ ≤ 0; omega⟩) hS (fun w31 H locs hp hR hS => ?_)
        subst hp
        refine lv_istore (lv' := [(8, .int r29), (0, .ref (G.2.2 + 54)), (1, .int x1), (2, .int x2), (3, .int x3), (4, .int x4), (5, .int x5), (6, .int x6), (7, .int x7)]) hx hb dX10_cuts_63 hl (by decide) rfl (fun ls hl => ?_)
        refine lv_iload hx hb dX10_cuts_65 (lv_at hl 7 rfl) ?_
        refine lv_iload hx hb dX10_cuts_67 (lv_at hl 0 rfl) ?_
        refine lv_isub hx hb dX10_cuts_69 ?_
        refine lv_topi (fun t32 et32 => ?_)
        replace hf := g_let_at hf et32
        refine lv_istore (lv' := [(6, .int t32), (8, .int r29), (0, .ref (G.2.2 + 54)), (1, .int x1), (2, .int x2), (3, .int x3), (4, .int x4), (5, .int x5), (7, .int x7)]) hx hb dX10_cuts_70 hl (by decide) rfl (fun ls hl => ?_)
        refine lv_aload_n hx hb dX10_cuts_72 rfl (lv_at hl 2 rfl) ?_
        refine lv_iload_n hx hb dX10_cuts_73 rfl (lv_at hl 3 rfl) ?_
        refine lv_iload_n hx hb dX10_cuts_74 rfl (lv_at hl 4 rfl) ?_
        refine lv_iload hx hb dX10_cuts_75 (lv_at hl 8 rfl) ?_
        obtain ⟨r33, hc34, hf⟩ := g_b1_e hf
        refine g_call (va_runV (As := [.int x1, .int x2, .int x7]) (rest := []) ⟨hx, hb, hml, hown, hts⟩ (c10_keeps l G E μ _ _ _ _ _ hc34) (cwV 3 hts gX10_cuts_X10_keeps rfl rfl rfl (by decide +kernel) ⟨Nat.le_of_ble_eq_true rfl, Nat.le_of_ble_eq_true rfl⟩) (g_preV (ci := 10) hR hK (hR.2.2.2.2.1.1) rfl) rfl rfl hl.1 rfl (lv_room (Nat.le_of_ble_eq_true rfl)) dX10_cuts_77 ⟨by show _ ≤ 0; omega, by show _ ≤ 0; omega⟩) hS (fun w35 H locs hp hR hS => ?_)
        subst hp
        refine lv_if_eq (tgt := 144) hx hb dX10_cuts_80 (by decide) (fun c36 => ?_) (fun c36 => ?_)
        · replace hf := g_it hf c36
          refine lv_aload_n hx hb dX10_cuts_144 rfl (lv_at hl 2 rfl) ?_
          refine g_get hx hb hts in_10 hown hK hR.2.2.2.2.1.1 rfl 0 (by decide) l_7 rfl rfl dX10_cuts_145 ?_
          refine lv_iconst (v := 3) hx hb dX10_cuts_148 (by decide) ?_
          refine lv_dup2_11 hx hb dX10_cuts_149 rfl rfl ?_
          refine g_aild hx hb hK hR (by decide) (by decide) dX10_cuts_150 ?_
          refine lv_iload hx hb dX10_cuts_151 (lv_at hl 1 rfl) ?_
          refine lv_iadd hx hb dX10_cuts_153 ?_
          refine g_aist hx hb hK hS hR (by decide) (by decide) dX10_cuts_154 (fun H locs hR hS => ?_)
          obtain ⟨z37, ez37, hf⟩ := g_let_e hf
          replace hR : g_R G E (g_setM μ z37) H := by rw [ez37]; exact hR
          refine lv_iinc (v := x7 + 1) (lv' := [(7, .int (x7 + 1)), (6, .int t32), (8, .int r29), (0, .ref (G.2.2 + 54)), (1, .int x1), (2, .int x2), (3, .int x3), (4, .int x4), (5, .int x5)]) hx hb dX10_cuts_155 hl (k := 8) rfl rfl (by decide) rfl (fun ls hl => ?_)
          refine lv_goto (tgt := 49) hx hb dX10_cuts_158 (by decide) ?_
          exact ih _ _ _ _ _ _ _ _ _ _ _ hf  hR hS (lv_sub hl [3, 4, 5, 6, 7, 8, 1, 0] rfl)
        · replace hf := g_if hf c36
          refine lv_aload_n hx hb dX10_cuts_83 rfl (lv_at hl 2 rfl) ?_
          refine lv_iload_n hx hb dX10_cuts_84 rfl (lv_at hl 5 rfl) ?_
          obtain ⟨r38, hc39, hf⟩ := g_b1_e hf
          refine g_call (va_runV (As := [.int x3]) (rest := []) ⟨hx, hb, hml, hown, hts⟩ (c10_many l G E μ _ _ _ hc39) (cwV 1 hts gX10_cuts_X10_many rfl rfl rfl (by decide +kernel) ⟨Nat.le_of_ble_eq_true rfl, Nat.le_of_ble_eq_true rfl⟩) (g_preV (ci := 10) hR hK (hR.2.2.2.2.1.1) rfl) rfl rfl hl.1 rfl (lv_room (Nat.le_of_ble_eq_true rfl)) dX10_cuts_85 ⟨by show _ ≤ 0; omega, by show _ ≤ 0; omega⟩) hS (fun w40 H locs hp hR hS => ?_)
          subst hp
          refine lv_bipush (v := 8) hx hb dX10_cuts_88 (by decide) ?_
          refine lv_icmp_ge (tgt := 144) hx hb dX10_cuts_90 (by decide) (fun c41 => ?_) (fun c41 => ?_)
          · replace hf := g_it hf c41
            refine lv_aload_n hx hb dX10_cuts_144 rfl (lv_at hl 2 rfl) ?_
            refine g_get hx hb hts in_10 hown hK hR.2.2.2.2.1.1 rfl 0 (by decide) l_7 rfl rfl dX10_cuts_145 ?_
            refine lv_iconst (v := 3) hx hb dX10_cuts_148 (by decide) ?_
            refine lv_dup2_11 hx hb dX10_cuts_149 rfl rfl ?_
            refine g_aild hx hb hK hR (by decide) (by decide) dX10_cuts_150 ?_
            refine lv_iload hx hb dX10_cuts_151 (lv_at hl 1 rfl) ?_
            refine lv_iadd hx hb dX10_cuts_153 ?_
            refine g_aist hx hb hK hS hR (by decide) (by decide) dX10_cuts_154 (fun H locs hR hS => ?_)
            obtain ⟨z42, ez42, hf⟩ := g_let_e hf
            replace hR : g_R G E (g_setM μ z42) H := by rw [ez42]; exact hR
            refine lv_iinc (v := x7 + 1) (lv' := [(7, .int (x7 + 1)), (6, .int t32), (8, .int r29), (0, .ref (G.2.2 + 54)), (1, .int x1), (2, .int x2), (3, .int x3), (4, .int x4), (5, .int x5)]) hx hb dX10_cuts_155 hl (k := 8) rfl rfl (by decide) rfl (fun ls hl => ?_)
            refine lv_goto (tgt := 49) hx hb dX10_cuts_158 (by decide) ?_
            exact ih _ _ _ _ _ _ _ _ _ _ _ hf  hR hS (lv_sub hl [3, 4, 5, 6, 7, 8, 1, 0] rfl)
          · replace hf := g_if hf c41
            refine lv_aload_n hx hb dX10_cuts_93 rfl (lv_at hl 2 rfl) ?_
            refine g_get hx hb hts in_10 hown hK hR.2.2.2.2.1.1 rfl 0 (by decide) l_7 rfl rfl dX10_cuts_94 ?_
            refine lv_bipush (v := 8) hx hb dX10_cuts_97 (by decide) ?_
            refine g_aild hx hb hK hR (by decide) (by decide) dX10_cuts_99 ?_
            refine lv_sipush (v := 200) hx hb dX10_cuts_100 (by decide) ?_
            refine lv_icmp_ge (tgt := 144) hx hb dX10_cuts_103 (by decide) (fun c43 => ?_) (fun c43 => ?_)
            · replace hf := g_it hf c43
              refine lv_aload_n hx hb dX10_cuts_144 rfl (lv_at hl 2 rfl) ?_
              refine g_get hx hb hts in_10 hown hK hR.2.2.2.2.1.1 rfl 0 (by decide) l_7 rfl rfl dX10_cuts_145 ?_
              refine lv_iconst (v := 3) hx hb dX10_cuts_148 (by decide) ?_
              refine lv_dup2_11 hx hb dX10_cuts_149 rfl rfl ?_
              refine g_aild hx hb hK hR (by decide) (by decide) dX10_cuts_150 ?_
              refine lv_iload hx hb dX10_cuts_151 (lv_at hl 1 rfl) ?_
              refine lv_iadd hx hb dX10_cuts_153 ?_
              refine g_aist hx hb hK hS hR (by decide) (by decide) dX10_cuts_154 (fun H locs hR hS => ?_)
              obtain ⟨z44, ez44, hf⟩ := g_let_e hf
              replace hR : g_R G E (g_setM μ z44) H := by rw [ez44]; exact hR
              refine lv_iinc (v := x7 + 1) (lv' := [(7, .int (x7 + 1)), (6, .int t32), (8, .int r29), (0, .ref (G.2.2 + 54)), (1, .int x1), (2, .int x2), (3, .int x3), (4, .int x4), (5, .int x5)]) hx hb dX10_cuts_155 hl (k := 8) rfl rfl (by decide) rfl (fun ls hl => ?_)
              refine lv_goto (tgt := 49) hx hb dX10_cuts_158 (by decide) ?_
              exact ih _ _ _ _ _ _ _ _ _ _ _ hf  hR hS (lv_sub hl [3, 4, 5, 6, 7, 8, 1, 0] rfl)
            · replace hf := g_if hf c43
              refine lv_aload_n hx hb dX10_cuts_106 rfl (lv_at hl 2 rfl) ?_
              refine lv_iload_n hx hb dX10_cuts_107 rfl (lv_at hl 5 rfl) ?_
              refine lv_aload_n hx hb dX10_cuts_108 rfl (lv_at hl 2 rfl) ?_
              refine lv_iload_n hx hb dX10_cuts_109 rfl (lv_at hl 4 rfl) ?_
              refine lv_iconst (v := 0) hx hb dX10_cuts_110 (by decide) ?_
              obtain ⟨r45, hc46, hf⟩ := g_b1_e hf
              refine g_call (va_runV (As := [.int x2, .int (0 : Int32)]) (rest := [.int x3, .ref (G.2.2 + 54)]) ⟨hx, hb, hml, hown, hts⟩ (c10_its l G E μ _ _ _ _ hc46) (cwV 2 hts gX10_cuts_X10_its rfl rfl rfl (by decide +kernel) ⟨Nat.le_of_ble_eq_true rfl, Nat.le_of_ble_eq_true rfl⟩) (g_preV (ci := 10) hR hK (hR.2.2.2.2.1.1) rfl) rfl rfl hl.1 rfl (lv_room (Nat.le_of_ble_eq_true rfl)) dX10_cuts_111 ⟨by show _ ≤ 0; omega, by show _ ≤ 0; omega⟩) hS (fun w47 H locs hp hR hS => ?_)
              subst hp
              refine lv_aload_n hx hb dX10_cuts_114 rfl (lv_at hl 2 rfl) ?_
              refine lv_iload_n hx hb dX10_cuts_115 rfl (lv_at hl 3 rfl) ?_
              refine lv_iload_n hx hb dX10_cuts_116 rfl (lv_at hl 4 rfl) ?_
              refine lv_iload hx hb dX10_cuts_117 (lv_at hl 8 rfl) ?_
              refine lv_iconst (v := 0) hx hb dX10_cuts_119 (by decide) ?_
              obtain ⟨r48, hc49, hf⟩ := g_b1_e hf
              refine g_call (va_runV (As := [.int x1, .int x2, .int x7, .int (0 : Int32)]) (rest := [.int r45, .int x3, .ref (G.2.2 + 54)]) ⟨hx, hb, hml, hown, hts⟩ (c10_piece l G E μ _ _ _ _ _ _ hc49) (cwV 4 hts gX10_cuts_X10_piece rfl rfl rfl (by decide +kernel) ⟨Nat.le_of_ble_eq_true rfl, Nat.le_of_ble_eq_true rfl⟩) (g_preV (ci := 10) hR hK (hR.2.2.2.2.1.1) rfl) rfl rfl hl.1 rfl (lv_room (Nat.le_of_ble_eq_true rfl)) dX10_cuts_120 ⟨by show _ ≤ 0; omega, by show _ ≤ 0; omega⟩) hS (fun w50 H locs hp hR hS => ?_)
              subst hp
              refine lv_aload_n hx hb dX10_cuts_123 rfl (lv_at hl 2 rfl) ?_
              refine lv_iload_n hx hb dX10_cuts_124 rfl (lv_at hl 3 rfl) ?_
              refine lv_iload_n hx hb dX10_cuts_125 rfl (lv_at hl 4 rfl) ?_
              refine lv_iload hx hb dX10_cuts_126 (lv_at hl 8 rfl) ?_
              refine lv_iconst (v := 1) hx hb dX10_cuts_128 (by decide) ?_
              obtain ⟨r51, hc52, hf⟩ := g_b1_e hf
              refine g_call (va_runV (As := [.int x1, .int x2, .int x7, .int (1 : Int32)]) (rest := [.int r48, .int r45, .int x3, .ref (G.2.2 + 54)]) ⟨hx, hb, hml, hown, hts⟩ (c10_piece l G E μ _ _ _ _ _ _ hc52) (cwV 4 hts gX10_cuts_X10_piece rfl rfl rfl (by decide +kernel) ⟨Nat.le_of_ble_eq_true rfl, Nat.le_of_ble_eq_true rfl⟩) (g_preV (ci := 10) hR hK (hR.2.2.2.2.1.1) rfl) rfl rfl hl.1 rfl (lv_room (Nat.le_of_ble_eq_true rfl)) dX10_cuts_129 ⟨by show _ ≤ 0; omega, by show _ ≤ 0; omega⟩) hS (fun w53 H locs hp hR hS => ?_)
              subst hp
              refine lv_iload_n hx hb dX10_cuts_132 rfl (lv_at hl 4 rfl) ?_
              obtain ⟨r54, z55, hc56, hf⟩ := g_bd_e hf
              refine g_call (va_runV (As := [.int x3, .int r45, .int r48, .int r51, .int x2]) (rest := []) ⟨hx, hb, hml, hown, hts⟩ (c10_makes l G E μ _ _ _ _ _ _ _ _ hc56) (cwV 5 hts gX10_cuts_X10_makes rfl rfl rfl (by decide +kernel) ⟨Nat.le_of_ble_eq_true rfl, Nat.le_of_ble_eq_true rfl⟩) (g_preV (ci := 10) hR hK (hR.2.2.2.2.1.1) rfl) rfl rfl hl.1 rfl (lv_room (Nat.le_of_ble_eq_true rfl)) dX10_cuts_133 ⟨by show _ ≤ 0; omega, by show _ ≤ 0; omega⟩) hS (fun w57 H locs hp hR hS => ?_)
              subst hp
              refine lv_istore (lv' := [(9, .int r54), (6, .int t32), (8, .int r29), (0, .ref (G.2.2 + 54)), (1, .int x1), (2, .int x2), (3, .int x3), (4, .int x4), (5, .int x5), (7, .int x7)]) hx hb dX10_cuts_136 hl (by decide) rfl (fun ls hl => ?_)
              refine lv_iinc (v := x4 + 1) (lv' := [(4, .int (x4 + 1)), (9, .int r54), (6, .int t32), (8, .int r29), (0, .ref (G.2.2 + 54)), (1, .int x1), (2, .int x2), (3, .int x3), (5, .int x5), (7, .int x7)]) hx hb dX10_cuts_138 hl (k := 7) rfl rfl (by decide) rfl (fun ls hl => ?_)
              refine lv_goto (tgt := 155) hx hb dX10_cuts_141 (by decide) ?_
              refine lv_iinc (v := x7 + 1) (lv' := [(7, .int (x7 + 1)), (4, .int (x4 + 1)), (9, .int r54), (6, .int t32), (8, .int r29), (0, .ref (G.2.2 + 54)), (1, .int x1), (2, .int x2), (3, .int x3), (5, .int x5)]) hx hb dX10_cuts_155 hl (k := 9) rfl rfl (by decide) rfl (fun ls hl => ?_)
              refine lv_goto (tgt := 49) hx hb dX10_cuts_158 (by decide) ?_
              exact ih _ _ _ _ _ _ _ _ _ _ _ hf  hR hS (lv_sub hl [5, 6, 7, 8, 1, 9, 3, 0] rfl)
  unfold f10_cuts at hf
  refine lv_aload_n hx hb dX10_cuts_0 rfl (lv_at hl 0 rfl) ?_
  refine lv_iload_n hx hb dX10_cuts_1 rfl (lv_at hl 2 rfl) ?_
  refine lv_iconst (v := 3) hx hb dX10_cuts_2 (by decide) ?_
  obtain ⟨r1, hc2, hf⟩ := g_b1_e hf
  refine g_call (va_runV (As := [.int p2, .int (3 : Int32)]) (rest := []) ⟨hx, hb, hml, hown, hts⟩ (c10_its l G E μ _ _ _ _ hc2) (cwV 2 hts gX10_cuts_X10_its rfl rfl rfl (by decide +kernel) ⟨Nat.le_of_ble_eq_true rfl, Nat.le_of_ble_eq_true rfl⟩) (g_preV (ci := 10) hR hK (hR.2.2.2.2.1.1) rfl) rfl rfl hl.1 rfl (lv_room (Nat.le_of_ble_eq_true rfl)) dX10_cuts_3 ⟨by show _ ≤ 0; omega, by show _ ≤ 0; omega⟩) hS (fun w3 H locs hp hR hS => ?_)
  subst hp
  refine lv_istore_n (lv' := [(3, .int r1), (0, .ref (G.2.2 + 54)), (1, .int p1), (2, .int p2)]) hx hb dX10_cuts_6 rfl hl (by decide) rfl (fun ls hl => ?_)
  refine lv_aload_n hx hb dX10_cuts_7 rfl (lv_at hl 1 rfl) ?_
  refine lv_iload_n hx hb dX10_cuts_8 rfl (lv_at hl 3 rfl) ?_
  obtain ⟨r4, z5, hc6, hf⟩ := g_bd_e hf
  refine g_call (va_runV (As := [.int p2]) (rest := []) ⟨hx, hb, hml, hown, hts⟩ (c10_takes l G E μ _ _ _ _ hc6) (cwV 1 hts gX10_cuts_X10_takes rfl rfl rfl (by decide +kernel) ⟨Nat.le_of_ble_eq_true rfl, Nat.le_of_ble_eq_true rfl⟩) (g_preV (ci := 10) hR hK (hR.2.2.2.2.1.1) rfl) rfl rfl hl.1 rfl (lv_room (Nat.le_of_ble_eq_true rfl)) dX10_cuts_9 ⟨by show _ ≤ 0; omega, by show _ ≤ 0; omega⟩) hS (fun w7 H locs hp hR hS => ?_)
  subst hp
  refine lv_if_ne (tgt := 18) hx hb dX10_cuts_12 (by decide) (fun c8 => ?_) (fun c8 => ?_)
  · replace hf := g_it hf c8
    refine lv_iconst (v := 0) hx hb dX10_cuts_18 (by decide) ?_
    refine lv_istore (lv' := [(4, .int (0 : Int32)), (3, .int r1), (0, .ref (G.2.2 + 54)), (1, .int p1), (2, .int p2)]) hx hb dX10_cuts_19 hl (by decide) rfl (fun ls hl => ?_)
    refine lv_aload_n hx hb dX10_cuts_21 rfl (lv_at hl 2 rfl) ?_
    refine lv_iload_n hx hb dX10_cuts_22 rfl (lv_at hl 3 rfl) ?_
    refine lv_iconst (v := 1) hx hb dX10_cuts_23 (by decide) ?_
    obtain ⟨r9, hc10, hf⟩ := g_b1_e hf
    refine g_call (va_runV (As := [.int p1, .int (1 : Int32)]) (rest := []) ⟨hx, hb, hml, hown, hts⟩ (c10_of l G E μ _ _ _ _ hc10) (cwV 2 hts gX10_cuts_X10_of rfl rfl rfl (by decide +kernel) ⟨Nat.le_of_ble_eq_true rfl, Nat.le_of_ble_eq_true rfl⟩) (g_preV (ci := 10) hR hK (hR.2.2.2.2.1.1) rfl) rfl rfl hl.1 rfl (lv_room (Nat.le_of_ble_eq_true rfl)) dX10_cuts_24 ⟨by show _ ≤ 0; omega, by show _ ≤ 0; omega⟩) hS (fun w11 H locs hp hR hS => ?_)
    subst hp
    refine lv_aload_n hx hb dX10_cuts_27 rfl (lv_at hl 2 rfl) ?_
    refine lv_iload_n hx hb dX10_cuts_28 rfl (lv_at hl 3 rfl) ?_
    refine lv_iconst (v := 2) hx hb dX10_cuts_29 (by decide) ?_
    obtain ⟨r12, hc13, hf⟩ := g_b1_e hf
    refine g_call (va_runV (As := [.int p1, .int (2 : Int32)]) (rest := [.int r9]) ⟨hx, hb, hml, hown, hts⟩ (c10_of l G E μ _ _ _ _ hc13) (cwV 2 hts gX10_cuts_X10_of rfl rfl rfl (by decide +kernel) ⟨Nat.le_of_ble_eq_true rfl, Nat.le_of_ble_eq_true rfl⟩) (g_preV (ci := 10) hR hK (hR.2.2.2.2.1.1) rfl) rfl rfl hl.1 rfl (lv_room (Nat.le_of_ble_eq_true rfl)) dX10_cuts_30 ⟨by show _ ≤ 0; omega, by show _ ≤ 0; omega⟩) hS (fun w14 H locs hp hR hS => ?_)
    subst hp
    refine lv_imul hx hb dX10_cuts_33 ?_
    refine lv_topi (fun t15 et15 => ?_)
    replace hf := g_let_at hf et15
    refine lv_istore (lv' := [(5, .int t15), (4, .int (0 : Int32)), (3, .int r1), (0, .ref (G.2.2 + 54)), (1, .int p1), (2, .int p2)]) hx hb dX10_cuts_34 hl (by decide) rfl (fun ls hl => ?_)
    refine lv_aload_n hx hb dX10_cuts_36 rfl (lv_at hl 3 rfl) ?_
    refine lv_iload_n hx hb dX10_cuts_37 rfl (lv_at hl 5 rfl) ?_
    obtain ⟨r16, hc17, hf⟩ := g_b1_e hf
    refine g_call (va_runV (As := [.int p2]) (rest := []) ⟨hx, hb, hml, hown, hts⟩ (c10_area l G E μ _ _ _ hc17) (cwV 1 hts gX10_cuts_X10_area rfl rfl rfl (by decide +kernel) ⟨Nat.le_of_ble_eq_true rfl, Nat.le_of_ble_eq_true rfl⟩) (g_preV (ci := 10) hR hK (hR.2.2.2.2.1.1) rfl) rfl rfl hl.1 rfl (lv_room (Nat.le_of_ble_eq_true rfl)) dX10_cuts_38 ⟨by show _ ≤ 0; omega, by show _ ≤ 0; omega⟩) hS (fun w18 H locs hp hR hS => ?_)
    subst hp
    refine lv_iload hx hb dX10_cuts_41 (lv_at hl 0 rfl) ?_
    refine lv_isub hx hb dX10_cuts_43 ?_
    refine lv_topi (fun t19 et19 => ?_)
    replace hf := g_let_at hf et19
    refine lv_istore (lv' := [(6, .int t19), (5, .int t15), (4, .int (0 : Int32)), (3, .int r1), (0, .ref (G.2.2 + 54)), (1, .int p1), (2, .int p2)]) hx hb dX10_cuts_44 hl (by decide) rfl (fun ls hl => ?_)
    refine lv_iconst (v := 0) hx hb dX10_cuts_46 (by decide) ?_
    refine lv_istore (lv' := [(7, .int (0 : Int32)), (6, .int t19), (5, .int t15), (4, .int (0 : Int32)), (3, .int r1), (0, .ref (G.2.2 + 54)), (1, .int p1), (2, .int p2)]) hx hb dX10_cuts_47 hl (by decide) rfl (fun ls hl => ?_)
    exact hB49 70 _ _ _ _ _ _ _ _ _ _ _ hf  hR hS (lv_sub hl [5, 6, 7, 4, 3, 2, 1, 0] rfl)
  · replace hf := g_if hf (fun q => q c8)
    refine lv_bipush (v := 10) hx hb dX10_cuts_15 (by decide) ?_
    obtain ⟨rfl, rfl⟩ := g_sp hf
    exact g_iret hx hb hlocks hr hS hR g_le.rf ⟨rfl, rfl⟩ (by omega) (by omega) dX10_cuts_17
set_option maxHeartbeats 4000000 in
set_option maxRecDepth 100000 in
theorem c10_isAhead (l : Launch) (G : gG) (E : gEn) (μ : gMu) (z0 : gMo) (p1 : Int32) (p2 : Int32) (ro : Int32) (hf : f10_isAhead z0 p1 p2 = some ro) : Met l yX10_isAhead wsX10_isAhead ({ frames := 1, cells := 0, slots := 0, locals := 22 } : Room) (g_Pre G E (g_setM μ z0) [.ref (G.2.2 + 54), .int p1, .int p2]) (g_Q G E (g_setM μ z0) (fun E' v => E' = E ∧ v = some (.int ro))) 0 0 (g_A G) := by
  refine Met.ofW (cc := cX10_isAhead) (maxL := 5) (ret := some .boolean) (by decide) rfl ?_
  intro p e s m args below meth c s₁ B hml hv
  obtain ⟨rfl, hR, hK⟩ := hv
  have hx := B.exec
  have hb := B.bytes
  have hr := B.returns
  have hts := atoms_spec (ws := wsX10_isAhead) B.pre
  have hown : s.vm.findClass RX10 = some m.cls := findClass_of_methodNamed B.named
  have hlocks := B.notSynchronized
  have hS : va_S (g_A G) s.heap s.heap [] := va_S.rf
  have hl := lv_entry ([.ref (G.2.2 + 54), .int p1, .int p2]) (n := 5) (Nat.le_of_ble_eq_true rfl)
  rw [lg_entry_eq]
  generalize (lg_sl ([.ref (G.2.2 + 54), .int p1, .int p2]) ++ List.replicate (5 - (lg_sl ([.ref (G.2.2 + 54), .int p1, .int p2])).length) Slot.unset).toArray = ls at hl ⊢
  have hl : lv_has ls 5 [(0, .ref (G.2.2 + 54)), (1, .int p1), (2, .int p2)] := hl
  unfold f10_isAhead at hf
  refine lv_aload_n hx hb dX10_isAhead_0 rfl (lv_at hl 0 rfl) ?_
  refine lv_iload_n hx hb dX10_isAhead_1 rfl (lv_at hl 1 rfl) ?_
  refine lv_iconst (v := 3) hx hb dX10_isAhead_2 (by decide) ?_
  obtain ⟨r1, hc2, hf⟩ := g_b1_e hf
  refine g_call (va_runV (As := [.int p1, .int (3 : Int32)]) (rest := []) ⟨hx, hb, hml, hown, hts⟩ (c10_of l G E μ _ _ _ _ hc2) (cwV 2 hts gX10_isAhead_X10_of rfl rfl rfl (by decide +kernel) ⟨Nat.le_of_ble_eq_true rfl, Nat.le_of_ble_eq_true rfl⟩) (g_preV (ci := 10) hR hK (hR.2.2.2.2.1.1) rfl) rfl rfl hl.1 rfl (lv_room (Nat.le_of_ble_eq_true rfl)) dX10_isAhead_3 ⟨by show _ ≤ 0; omega, by show _ ≤ 0; omega⟩) hS (fun w3 H locs hp hR hS => ?_)
  subst hp
  refine lv_aload_n hx hb dX10_isAhead_6 rfl (lv_at hl 0 rfl) ?_
  refine lv_iload_n hx hb dX10_isAhead_7 rfl (lv_at hl 2 rfl) ?_
  refine lv_iconst (v := 3) hx hb dX10_isAhead_8 (by decide) ?_
  obtain ⟨r4, hc5, hf⟩ := g_b1_e hf
  refine g_call (va_runV (As := [.int p2, .int (3 : Int32)]) (rest := [.int r1]) ⟨hx, hb, hml, hown, hts⟩ (c10_of l G E μ _ _ _ _ hc5) (cwV 2 hts gX10_isAhead_X10_of rfl rfl rfl (by decide +kernel) ⟨Nat.le_of_ble_eq_true rfl, Nat.le_of_ble_eq_true rfl⟩) (g_preV (ci := 10) hR hK (hR.2.2.2.2.1.1) rfl) rfl rfl hl.1 rfl (lv_room (Nat.le_of_ble_eq_true rfl)) dX10_isAhead_9 ⟨by show _ ≤ 0; omega, by show _ ≤ 0; omega⟩) hS (fun w6 H locs hp hR hS => ?_)
  subst hp
  refine lv_isub hx hb dX10_isAhead_12 ?_
  refine lv_topi (fun t7 et7 => ?_)
  replace hf := g_let_at hf et7
  refine lv_istore_n (lv' := [(3, .int t7), (0, .ref (G.2.2 + 54)), (1, .int p1), (2, .int p2)]) hx hb dX10_isAhead_13 rfl hl (by decide) rfl (fun ls hl => ?_)
  refine lv_aload_n hx hb dX10_isAhead_14 rfl (lv_at hl 1 rfl) ?_
  refine lv_iload_n hx hb dX10_isAhead_15 rfl (lv_at hl 3 rfl) ?_
  refine lv_iconst (v := 1) hx hb dX10_isAhead_16 (by decide) ?_
  obtain ⟨r8, hc9, hf⟩ := g_b1_e hf
  refine g_call (va_runV (As := [.int p2, .int (1 : Int32)]) (rest := []) ⟨hx, hb, hml, hown, hts⟩ (c10_of l G E μ _ _ _ _ hc9) (cwV 2 hts gX10_isAhead_X10_of rfl rfl rfl (by decide +kernel) ⟨Nat.le_of_ble_eq_true rfl, Nat.le_of_ble_eq_true rfl⟩) (g_preV (ci := 10) hR hK (hR.2.2.2.2.1.1) rfl) rfl rfl hl.1 rfl (lv_room (Nat.le_of_ble_eq_true rfl)) dX10_isAhead_17 ⟨by show _ ≤ 0; omega, by show _ ≤ 0; omega⟩) hS (fun w10 H locs hp hR hS => ?_)
  subst hp
  refine lv_aload_n hx hb dX10_isAhead_20 rfl (lv_at hl 1 rfl) ?_
  refine lv_iload_n hx hb dX10_isAhead_21 rfl (lv_at hl 3 rfl) ?_
  refine lv_iconst (v := 2) hx hb dX10_isAhead_22 (by decide) ?_
  obtain ⟨r11, hc12, hf⟩ := g_b1_e hf
  refine g_call (va_runV (As := [.int p2, .int (2 : Int32)]) (rest := [.int r8]) ⟨hx, hb, hml, hown, hts⟩ (c10_of l G E μ _ _ _ _ hc12) (cwV 2 hts gX10_isAhead_X10_of rfl rfl rfl (by decide +kernel) ⟨Nat.le_of_ble_eq_true rfl, Nat.le_of_ble_eq_true rfl⟩) (g_preV (ci := 10) hR hK (hR.2.2.2.2.1.1) rfl) rfl rfl hl.1 rfl (lv_room (Nat.le_of_ble_eq_true rfl)) dX10_isAhead_23 ⟨by show _ ≤ 0; omega, by show _ ≤ 0; omega⟩) hS (fun w13 H locs hp hR hS => ?_)
  subst hp
  refine lv_imul hx hb dX10_isAhead_26 ?_
  refine lv_aload_n hx hb dX10_isAhead_27 rfl (lv_at hl 1 rfl) ?_
  refine lv_iload_n hx hb dX10_isAhead_28 rfl (lv_at hl 2 rfl) ?_
  refine lv_iconst (v := 1) hx hb dX10_isAhead_29 (by decide) ?_
  obtain ⟨r14, hc15, hf⟩ := g_b1_e hf
  refine g_call (va_runV (As := [.int p1, .int (1 : Int32)]) (rest := [.int (r8 * r11)]) ⟨hx, hb, hml, hown, hts⟩ (c10_of l G E μ _ _ _ _ hc15) (cwV 2 hts gX10_isAhead_X10_of rfl rfl rfl (by decide +kernel) ⟨Nat.le_of_ble_eq_true rfl, Nat.le_of_ble_eq_true rfl⟩) (g_preV (ci := 10) hR hK (hR.2.2.2.2.1.1) rfl) rfl rfl hl.1 rfl (lv_room (Nat.le_of_ble_eq_true rfl)) dX10_isAhead_30 ⟨by show _ ≤ 0; omega, by show _ ≤ 0; omega⟩) hS (fun w16 H locs hp hR hS => ?_)
  subst hp
  refine lv_aload_n hx hb dX10_isAhead_33 rfl (lv_at hl 1 rfl) ?_
  refine lv_iload_n hx hb dX10_isAhead_34 rfl (lv_at hl 2 rfl) ?_
  refine lv_iconst (v := 2) hx hb dX10_isAhead_35 (by decide) ?_
  obtain ⟨r17, hc18, hf⟩ := g_b1_e hf
  refine g_call (va_runV (As := [.int p1, .int (2 : Int32)]) (rest := [.int r14, .int (r8 * r11)]) ⟨hx, hb, hml, hown, hts⟩ (c10_of l G E μ _ _ _ _ hc18) (cwV 2 hts gX10_isAhead_X10_of rfl rfl rfl (by decide +kernel) ⟨Nat.le_of_ble_eq_true rfl, Nat.le_of_ble_eq_true rfl⟩) (g_preV (ci := 10) hR hK (hR.2.2.2.2.1.1) rfl) rfl rfl hl.1 rfl (lv_room (Nat.le_of_ble_eq_true rfl)) dX10_isAhead_36 ⟨by show _ ≤ 0; omega, by show _ ≤ 0; omega⟩) hS (fun w19 H locs hp hR hS => ?_)
  subst hp
  refine lv_imul hx hb dX10_isAhead_39 ?_
  refine lv_isub hx hb dX10_isAhead_40 ?_
  refine lv_topi (fun t20 et20 => ?_)
  replace hf := g_let_at hf et20
  refine lv_istore (lv' := [(4, .int t20), (3, .int t7), (0, .ref (G.2.2 + 54)), (1, .int p1), (2, .int p2)]) hx hb dX10_isAhead_41 hl (by decide) rfl (fun ls hl => ?_)
  refine lv_iload_n hx hb dX10_isAhead_43 rfl (lv_at hl 1 rfl) ?_
  refine lv_if_lt (tgt := 66) hx hb dX10_isAhead_44 (by decide) (fun c21 => ?_) (fun c21 => ?_)
  · replace hf := g_it hf c21
    refine lv_iconst (v := 1) hx hb dX10_isAhead_66 (by decide) ?_
    refine lv_goto (tgt := 71) hx hb dX10_isAhead_67 (by decide) ?_
    obtain rfl := g_s1 hf
    exact g_zret hx hb hlocks hr hS hR g_le.rf (by decide) ⟨rfl, rfl⟩ (by omega) (by omega) dX10_isAhead_71
  · replace hf := g_if hf c21
    refine lv_iload_n hx hb dX10_isAhead_47 rfl (lv_at hl 1 rfl) ?_
    refine lv_if_ne (tgt := 70) hx hb dX10_isAhead_48 (by decide) (fun c22 => ?_) (fun c22 => ?_)
    · replace hf := g_it hf c22
      refine lv_iconst (v := 0) hx hb dX10_isAhead_70 (by decide) ?_
      obtain rfl := g_s1 hf
      exact g_zret hx hb hlocks hr hS hR g_le.rf (by decide) ⟨rfl, rfl⟩ (by omega) (by omega) dX10_isAhead_71
    · replace hf := g_if hf (fun q => q c22)
      refine lv_iload hx hb dX10_isAhead_51 (lv_at hl 0 rfl) ?_
      refine lv_if_lt (tgt := 66) hx hb dX10_isAhead_53 (by decide) (fun c23 => ?_) (fun c23 => ?_)
      · replace hf := g_it hf c23
        refine lv_iconst (v := 1) hx hb dX10_isAhead_66 (by decide) ?_
        refine lv_goto (tgt := 71) hx hb dX10_isAhead_67 (by decide) ?_
        obtain rfl := g_s1 hf
        exact g_zret hx hb hlocks hr hS hR g_le.rf (by decide) ⟨rfl, rfl⟩ (by omega) (by omega) dX10_isAhead_71
      · replace hf := g_if hf c23
        refine lv_iload hx hb dX10_isAhead_56 (lv_at hl 0 rfl) ?_
        refine lv_if_ne (tgt := 70) hx hb dX10_isAhead_58 (by decide) (fun c24 => ?_) (fun c24 => ?_)
        · replace hf := g_it hf c24
          refine lv_iconst (v := 0) hx hb dX10_isAhead_70 (by decide) ?_
          obtain rfl := g_s1 hf
          exact g_zret hx hb hlocks hr hS hR g_le.rf (by decide) ⟨rfl, rfl⟩ (by omega) (by omega) dX10_isAhead_71
        · replace hf := g_if hf (fun q => q c24)
          refine lv_iload_n hx hb dX10_isAhead_61 rfl (lv_at hl 3 rfl) ?_
          refine lv_iload_n hx hb dX10_isAhead_62 rfl (lv_at hl 4 rfl) ?_
          refine lv_icmp_ge (tgt := 70) hx hb dX10_isAhead_63 (by decide) (fun c25 => ?_) (fun c25 => ?_)
          · replace hf := g_it hf c25
            refine lv_iconst (v := 0) hx hb dX10_isAhead_70 (by decide) ?_
            obtain rfl := g_s1 hf
            exact g_zret hx hb hlocks hr hS hR g_le.rf (by decide) ⟨rfl, rfl⟩ (by omega) (by omega) dX10_isAhead_71
          · replace hf := g_if hf c25
            refine lv_iconst (v := 1) hx hb dX10_isAhead_66 (by decide) ?_
            refine lv_goto (tgt := 71) hx hb dX10_isAhead_67 (by decide) ?_
            obtain rfl := g_s1 hf
            exact g_zret hx hb hlocks hr hS hR g_le.rf (by decide) ⟨rfl, rfl⟩ (by omega) (by omega) dX10_isAhead_71
set_option maxHeartbeats 4000000 in
set_option maxRecDepth 100000 in
theorem c10_first (l : Launch) (G : gG) (E : gEn) (μ : gMu) (z0 : gMo) (p1 : Int32) (ro : Int32) (hf : f10_first z0 p1 = some ro) : Met l yX10_first wsX10_first ({ frames := 2, cells := 0, slots := 0, locals := 46 } : Room) (g_Pre G E (g_setM μ z0) [.ref (G.2.2 + 54), .int p1]) (g_Q G E (g_setM μ z0) (fun E' v => E' = E ∧ v = some (.int ro))) 0 0 (g_A G) := by
  refine Met.ofW (cc := cX10_first) (maxL := 4) (ret := some .int) (by decide) rfl ?_
  intro p e s m args below meth c s₁ B hml hv
  obtain ⟨rfl, hR, hK⟩ := hv
  have hx := B.exec
  have hb := B.bytes
  have hr := B.returns
  have hts := atoms_spec (ws := wsX10_first) B.pre
  have hown : s.vm.findClass RX10 = some m.cls := findClass_of_methodNamed B.named
  have hlocks := B.notSynchronized
  have hS : va_S (g_A G) s.heap s.heap [] := va_S.rf
  have hl := lv_entry ([.ref (G.2.2 + 54), .int p1]) (n := 4) (Nat.le_of_ble_eq_true rfl)
  rw [lg_entry_eq]
  generalize (lg_sl ([.ref (G.2.2 + 54), .int p1]) ++ List.replicate (4 - (lg_sl ([.ref (G.2.2 + 54), .int p1])).length) Slot.unset).toArray = ls at hl ⊢
  have hl : lv_has ls 4 [(0, .ref (G.2.2 + 54)), (1, .int p1)] := hl
  have in_10 : ∀ w ∈ u_ws RX10 TX10 9, w ∈ wsX10_first := ifX10_first_10
  have l_7 := hts (.fieldLink RX10 7 "GlassRacksModel" "now" "[I") (by decide +kernel)
  have hB5 : ∀ (n : Nat) (z0 : gMo) (x1 : Int32) (x2 : Int32) (x3 : Int32) (H : Heap) (locs : List Loc) (ls : Array Slot), f10_first_5 n z0 x1 x2 x3 = some ro → g_R G E (g_setM μ z0) H → va_S (g_A G) s.heap H locs → lv_has ls 4 [(0, .ref (G.2.2 + 54)), (1, .int x1), (2, .int x2), (3, .int x3)] → W p l e (headSpec wsX10_first ({ frames := 2, cells := 0, slots := 0, locals := 46 } : Room)).room s m ([.ref (G.2.2 + 54), .int p1] : List Value).toArray below meth c H locs 0 0 (MQ below (g_Q G E (g_setM μ z0) (fun E' v => E' = E ∧ v = some (.int ro))) ([.ref (G.2.2 + 54), .int p1] : List Value).toArray s 0 0 (g_A G)) (F0 m 5 ls []) := by
    intro n
    induction n with
    | zero =>
      intro z0 x1 x2 x3 H locs ls hf
      rw [f10_first_5] at hf
      cases hf
    | succ n ih =>
      intro z0 x1 x2 x3 H locs ls hf  hR hS hl
      rw [f10_first_5] at hf
      refine lv_iload_n hx hb dX10_first_5 rfl (lv_at hl 3 rfl) ?_
      refine lv_aload_n hx hb dX10_first_6 rfl (lv_at hl 0 rfl) ?_
      refine g_get hx hb hts in_10 hown hK hR.2.2.2.2.1.1 rfl 0 (by decide) l_7 rfl rfl dX10_first_7 ?_
      refine lv_bipush (v := 7) hx hb dX10_first_10 (by decide) ?_
      refine g_aild hx hb hK hR (by decide) (by decide) dX10_first_12 ?_
      refine lv_icmp_ge (tgt := 55) hx hb dX10_first_13 (by decide) (fun c1 => ?_) (fun c1 => ?_)
      · replace hf := g_it hf c1
        refine lv_iload_n hx hb dX10_first_55 rfl (lv_at hl 2 rfl) ?_
        obtain rfl := g_s1 hf
        exact g_iret hx hb hlocks hr hS hR g_le.rf ⟨rfl, rfl⟩ (by omega) (by omega) dX10_first_56
      · replace hf := g_if hf c1
        refine lv_aload_n hx hb dX10_first_16 rfl (lv_at hl 0 rfl) ?_
        refine lv_iload_n hx hb dX10_first_17 rfl (lv_at hl 3 rfl) ?_
        obtain ⟨r2, hc3, hf⟩ := g_b1_e hf
        refine g_call (va_runV (As := [.int x3]) (rest := []) ⟨hx, hb, hml, hown, hts⟩ (c10_isOpen l G E μ _ _ _ hc3) (cwV 1 hts gX10_first_X10_isOpen rfl rfl rfl (by decide +kernel) ⟨Nat.le_of_ble_eq_true rfl, Nat.le_of_ble_eq_true rfl⟩) (g_preV (ci := 10) hR hK (hR.2.2.2.2.1.1) rfl) rfl rfl hl.1 rfl (lv_room (Nat.le_of_ble_eq_true rfl)) dX10_first_18 ⟨by show _ ≤ 0; omega, by show _ ≤ 0; omega⟩) hS (fun w4 H locs hp hR hS => ?_)
        subst hp
        refine lv_if_eq (tgt := 49) hx hb dX10_first_21 (by decide) (fun c5 => ?_) (fun c5 => ?_)
        · replace hf := g_it hf c5
          refine lv_iinc (v := x3 + 1) (lv' := [(3, .int (x3 + 1)), (0, .ref (G.2.2 + 54)), (1, .int x1), (2, .int x2)]) hx hb dX10_first_49 hl (k := 3) rfl rfl (by decide) rfl (fun ls hl => ?_)
          refine lv_goto (tgt := 5) hx hb dX10_first_52 (by decide) ?_
          exact ih _ _ _ _ _ _ _ hf  hR hS (lv_sub hl [1, 2, 3, 0] rfl)
        · replace hf := g_if hf c5
          refine lv_iload_n hx hb dX10_first_24 rfl (lv_at hl 1 rfl) ?_
          refine lv_iload_n hx hb dX10_first_25 rfl (lv_at hl 3 rfl) ?_
          refine lv_ishr hx hb dX10_first_26 ?_
          refine lv_iconst (v := 1) hx hb dX10_first_27 (by decide) ?_
          refine lv_iand hx hb dX10_first_28 ?_
          refine lv_if_ne (tgt := 49) hx hb dX10_first_29 (by decide) (fun c6 => ?_) (fun c6 => ?_)
          · replace hf := g_it hf c6
            refine lv_iinc (v := x3 + 1) (lv' := [(3, .int (x3 + 1)), (0, .ref (G.2.2 + 54)), (1, .int x1), (2, .int x2)]) hx hb dX10_first_49 hl (k := 3) rfl rfl (by decide) rfl (fun ls hl => ?_)
            refine lv_goto (tgt := 5) hx hb dX10_first_52 (by decide) ?_
            exact ih _ _ _ _ _ _ _ hf  hR hS (lv_sub hl [1, 2, 3, 0] rfl)
          · replace hf := g_if hf (fun q => q c6)
            refine lv_iload_n hx hb dX10_first_32 rfl (lv_at hl 2 rfl) ?_
            refine lv_bipush (v := -5) hx hb dX10_first_33 (by decide) ?_
            refine lv_icmp_eq (tgt := 47) hx hb dX10_first_35 (by decide) (fun c7 => ?_) (fun c7 => ?_)
            · replace hf := g_it hf c7
              refine lv_iload_n hx hb dX10_first_47 rfl (lv_at hl 3 rfl) ?_
              refine lv_istore_n (lv' := [(2, .int x3), (0, .ref (G.2.2 + 54)), (1, .int x1), (3, .int x3)]) hx hb dX10_first_48 rfl hl (by decide) rfl (fun ls hl => ?_)
              refine lv_iinc (v := x3 + 1) (lv' := [(3, .int (x3 + 1)), (2, .int x3), (0, .ref (G.2.2 + 54)), (1, .int x1)]) hx hb dX10_first_49 hl (k := 3) rfl rfl (by decide) rfl (fun ls hl => ?_)
              refine lv_goto (tgt := 5) hx hb dX10_first_52 (by decide) ?_
              exact ih _ _ _ _ _ _ _ hf  hR hS (lv_sub hl [2, 3, 1, 0] rfl)
            · replace hf := g_if hf c7
              refine lv_aload_n hx hb dX10_first_38 rfl (lv_at hl 0 rfl) ?_
              refine lv_iload_n hx hb dX10_first_39 rfl (lv_at hl 3 rfl) ?_
              refine lv_iload_n hx hb dX10_first_40 rfl (lv_at hl 2 rfl) ?_
              obtain ⟨r8, hc9, hf⟩ := g_b1_e hf
              refine g_call (va_runV (As := [.int x3, .int x2]) (rest := []) ⟨hx, hb, hml, hown, hts⟩ (c10_isAhead l G E μ _ _ _ _ hc9) (cwV 2 hts gX10_first_X10_isAhead rfl rfl rfl (by decide +kernel) ⟨Nat.le_of_ble_eq_true rfl, Nat.le_of_ble_eq_true rfl⟩) (g_preV (ci := 10) hR hK (hR.2.2.2.2.1.1) rfl) rfl rfl hl.1 rfl (lv_room (Nat.le_of_ble_eq_true rfl)) dX10_first_41 ⟨by show _ ≤ 0; omega, by show _ ≤ 0; omega⟩) hS (fun w10 H locs hp hR hS => ?_)
              subst hp
              refine lv_if_eq (tgt := 49) hx hb dX10_first_44 (by decide) (fun c11 => ?_) (fun c11 => ?_)
              · replace hf := g_it hf c11
                refine lv_iinc (v := x3 + 1) (lv' := [(3, .int (x3 + 1)), (0, .ref (G.2.2 + 54)), (1, .int x1), (2, .int x2)]) hx hb dX10_first_49 hl (k := 3) rfl rfl (by decide) rfl (fun ls hl => ?_)
                refine lv_goto (tgt := 5) hx hb dX10_first_52 (by decide) ?_
                exact ih _ _ _ _ _ _ _ hf  hR hS (lv_sub hl [1, 2, 3, 0] rfl)
              · replace hf := g_if hf c11
                refine lv_iload_n hx hb dX10_first_47 rfl (lv_at hl 3 rfl) ?_
                refine lv_istore_n (lv' := [(2, .int x3), (0, .ref (G.2.2 + 54)), (1, .int x1), (3, .int x3)]) hx hb dX10_first_48 rfl hl (by decide) rfl (fun ls hl => ?_)
                refine lv_iinc (v := x3 + 1) (lv' := [(3, .int (x3 + 1)), (2, .int x3), (0, .ref (G.2.2 + 54)), (1, .int x1)]) hx hb dX10_first_49 hl (k := 3) rfl rfl (by decide) rfl (fun ls hl => ?_)
                refine lv_goto (tgt := 5) hx hb dX10_first_52 (by decide) ?_
                exact ih _ _ _ _ _ _ _ hf  hR hS (lv_sub hl [2, 3, 1, 0] rfl)
  unfold f10_first at hf
  refine lv_bipush (v := -5) hx hb dX10_first_0 (by decide) ?_
  refine lv_istore_n (lv' := [(2, .int (-5 : Int32)), (0, .ref (G.2.2 + 54)), (1, .int p1)]) hx hb dX10_first_2 rfl hl (by decide) rfl (fun ls hl => ?_)
  refine lv_iconst (v := 0) hx hb dX10_first_3 (by decide) ?_
  refine lv_istore_n (lv' := [(3, .int (0 : Int32)), (2, .int (-5 : Int32)), (0, .ref (G.2.2 + 54)), (1, .int p1)]) hx hb dX10_first_4 rfl hl (by decide) rfl (fun ls hl => ?_)
  exact hB5 70 _ _ _ _ _ _ _ hf  hR hS (lv_sub hl [2, 3, 1, 0] rfl)
set_option maxHeartbeats 4000000 in
set_option maxRecDepth 100000 in
theorem c10_plans (l : Launch) (G : gG) (E : gEn) (μ : gMu) (z0 : gMo) (p1 : Int32) (ro : Int32) (zo : gMo) (hf : f10_plans z0 p1 = some (ro, zo)) : Met l yX10_plans wsX10_plans ({ frames := 8, cells := 0, slots := 0, locals := 194 } : Room) (g_Pre G E (g_setM μ z0) [.ref (G.2.2 + 54), .int p1]) (g_Q G E (g_setM μ zo) (fun E' v => E' = E ∧ v = some (.int ro))) 0 0 (g_A G) := by
  refine Met.ofW (cc := cX10_plans) (maxL := 6) (ret := some .int) (by decide) rfl ?_
  intro p e s m args below meth c s₁ B hml hv
  obtain ⟨rfl, hR, hK⟩ := hv
  have hx := B.exec
  have hb := B.bytes
  have hr := B.returns
  have hts := atoms_spec (ws := wsX10_plans) B.pre
  have hown : s.vm.findClass RX10 = some m.cls := findClass_of_methodNamed B.named
  have hlocks := B.notSynchronized
  have hS : va_S (g_A G) s.heap s.heap [] := va_S.rf
  have hl := lv_entry ([.ref (G.2.2 + 54), .int p1]) (n := 6) (Nat.le_of_ble_eq_true rfl)
  rw [lg_entry_eq]
  generalize (lg_sl ([.ref (G.2.2 + 54), .int p1]) ++ List.replicate (6 - (lg_sl ([.ref (G.2.2 + 54), .int p1])).length) Slot.unset).toArray = ls at hl ⊢
  have hl : lv_has ls 6 [(0, .ref (G.2.2 + 54)), (1, .int p1)] := hl
  have hB11 : ∀ (n : Nat) (z0 : gMo) (x1 : Int32) (x2 : Int32) (x3 : Int32) (x4 : Int32) (H : Heap) (locs : List Loc) (ls : Array Slot), f10_plans_11 n z0 x1 x2 x3 x4 = some (ro, zo) → g_R G E (g_setM μ z0) H → va_S (g_A G) s.heap H locs → lv_has ls 6 [(0, .ref (G.2.2 + 54)), (1, .int x1), (2, .int x2), (3, .int x3), (4, .int x4)] → W p l e (headSpec wsX10_plans ({ frames := 8, cells := 0, slots := 0, locals := 194 } : Room)).room s m ([.ref (G.2.2 + 54), .int p1] : List Value).toArray below meth c H locs 0 0 (MQ below (g_Q G E (g_setM μ zo) (fun E' v => E' = E ∧ v = some (.int ro))) ([.ref (G.2.2 + 54), .int p1] : List Value).toArray s 0 0 (g_A G)) (F0 m 11 ls []) := by
    intro n
    induction n with
    | zero =>
      intro z0 x1 x2 x3 x4 H locs ls hf
      rw [f10_plans_11] at hf
      cases hf
    | succ n ih =>
      intro z0 x1 x2 x3 x4 H locs ls hf  hR hS hl
      rw [f10_plans_11] at hf
      refine lv_iload hx hb dX10_plans_11 (lv_at hl 4 rfl) ?_
      refine lv_bipush (v := -5) hx hb dX10_plans_13 (by decide) ?_
      refine lv_icmp_eq (tgt := 72) hx hb dX10_plans_15 (by decide) (fun c4 => ?_) (fun c4 => ?_)
      · replace hf := g_it hf c4
        refine lv_iload_n hx hb dX10_plans_72 rfl (lv_at hl 3 rfl) ?_
        obtain ⟨rfl, rfl⟩ := g_sp hf
        exact g_iret hx hb hlocks hr hS hR g_le.rf ⟨rfl, rfl⟩ (by omega) (by omega) dX10_plans_73
      · replace hf := g_if hf c4
        refine lv_iload_n hx hb dX10_plans_18 rfl (lv_at hl 2 rfl) ?_
        refine lv_iconst (v := 1) hx hb dX10_plans_19 (by decide) ?_
        refine lv_iload hx hb dX10_plans_20 (lv_at hl 4 rfl) ?_
        refine lv_ishl hx hb dX10_plans_22 ?_
        refine lv_ior hx hb dX10_plans_23 ?_
        refine lv_topi (fun t5 et5 => ?_)
        replace hf := g_let_at hf et5
        refine lv_istore_n (lv' := [(2, .int t5), (0, .ref (G.2.2 + 54)), (1, .int x1), (3, .int x3), (4, .int x4)]) hx hb dX10_plans_24 rfl hl (by decide) rfl (fun ls hl => ?_)
        refine lv_aload_n hx hb dX10_plans_25 rfl (lv_at hl 1 rfl) ?_
        refine lv_iload hx hb dX10_plans_26 (lv_at hl 4 rfl) ?_
        refine lv_iload_n hx hb dX10_plans_28 rfl (lv_at hl 2 rfl) ?_
        obtain ⟨r6, hc7, hf⟩ := g_b1_e hf
        refine g_call (va_runV (As := [.int x4, .int x1]) (rest := []) ⟨hx, hb, hml, hown, hts⟩ (c10_chosen l G E μ _ _ _ _ hc7) (cwV 2 hts gX10_plans_X10_chosen rfl rfl rfl (by decide +kernel) ⟨Nat.le_of_ble_eq_true rfl, Nat.le_of_ble_eq_true rfl⟩) (g_preV (ci := 10) hR hK (hR.2.2.2.2.1.1) rfl) rfl rfl hl.1 rfl (lv_room (Nat.le_of_ble_eq_true rfl)) dX10_plans_29 ⟨by show _ ≤ 0; omega, by show _ ≤ 0; omega⟩) hS (fun w8 H locs hp hR hS => ?_)
        subst hp
        refine lv_istore (lv' := [(5, .int r6), (2, .int t5), (0, .ref (G.2.2 + 54)), (1, .int x1), (3, .int x3), (4, .int x4)]) hx hb dX10_plans_32 hl (by decide) rfl (fun ls hl => ?_)
        refine lv_iload_n hx hb dX10_plans_34 rfl (lv_at hl 4 rfl) ?_
        refine lv_iload hx hb dX10_plans_35 (lv_at hl 0 rfl) ?_
        refine lv_bipush (v := -5) hx hb dX10_plans_37 (by decide) ?_
        refine lv_icmp_eq (tgt := 59) hx hb dX10_plans_39 (by decide) (fun c9 => ?_) (fun c9 => ?_)
        · replace hf := g_it hf c9
          refine lv_iconst (v := 0) hx hb dX10_plans_59 (by decide) ?_
          refine lv_iadd hx hb dX10_plans_60 ?_
          refine lv_topi (fun t10 et10 => ?_)
          replace hf := g_let_at hf et10
          refine lv_istore_n (lv' := [(3, .int t10), (5, .int r6), (2, .int t5), (0, .ref (G.2.2 + 54)), (1, .int x1), (4, .int x4)]) hx hb dX10_plans_61 rfl hl (by decide) rfl (fun ls hl => ?_)
          refine lv_aload_n hx hb dX10_plans_62 rfl (lv_at hl 3 rfl) ?_
          refine lv_iload_n hx hb dX10_plans_63 rfl (lv_at hl 2 rfl) ?_
          obtain ⟨r11, hc12, hf⟩ := g_b1_e hf
          refine g_call (va_runV (As := [.int t5]) (rest := []) ⟨hx, hb, hml, hown, hts⟩ (c10_first l G E μ _ _ _ hc12) (cwV 1 hts gX10_plans_X10_first rfl rfl rfl (by decide +kernel) ⟨Nat.le_of_ble_eq_true rfl, Nat.le_of_ble_eq_true rfl⟩) (g_preV (ci := 10) hR hK (hR.2.2.2.2.1.1) rfl) rfl rfl hl.1 rfl (lv_room (Nat.le_of_ble_eq_true rfl)) dX10_plans_64 ⟨by show _ ≤ 0; omega, by show _ ≤ 0; omega⟩) hS (fun w13 H locs hp hR hS => ?_)
          subst hp
          refine lv_istore (lv' := [(4, .int r11), (3, .int t10), (5, .int r6), (2, .int t5), (0, .ref (G.2.2 + 54)), (1, .int x1)]) hx hb dX10_plans_67 hl (by decide) rfl (fun ls hl => ?_)
          refine lv_goto (tgt := 11) hx hb dX10_plans_69 (by decide) ?_
          exact ih _ _ _ _ _ _ _ _ hf  hR hS (lv_sub hl [4, 5, 3, 1, 0] rfl)
        · replace hf := g_if hf c9
          refine lv_aload_n hx hb dX10_plans_42 rfl (lv_at hl 2 rfl) ?_
          refine lv_iload hx hb dX10_plans_43 (lv_at hl 5 rfl) ?_
          refine lv_iload hx hb dX10_plans_45 (lv_at hl 0 rfl) ?_
          obtain ⟨r14, z15, hc16, hf⟩ := g_bd_e hf
          refine g_call (va_runV (As := [.int x4, .int r6]) (rest := [.int x3]) ⟨hx, hb, hml, hown, hts⟩ (c10_cuts l G E μ _ _ _ _ _ hc16) (cwV 2 hts gX10_plans_X10_cuts rfl rfl rfl (by decide +kernel) ⟨Nat.le_of_ble_eq_true rfl, Nat.le_of_ble_eq_true rfl⟩) (g_preV (ci := 10) hR hK (hR.2.2.2.2.1.1) rfl) rfl rfl hl.1 rfl (lv_room (Nat.le_of_ble_eq_true rfl)) dX10_plans_47 ⟨by show _ ≤ 0; omega, by show _ ≤ 0; omega⟩) hS (fun w17 H locs hp hR hS => ?_)
          subst hp
          refine lv_bipush (v := 10) hx hb dX10_plans_50 (by decide) ?_
          refine lv_icmp_ge (tgt := 59) hx hb dX10_plans_52 (by decide) (fun c18 => ?_) (fun c18 => ?_)
          · replace hf := g_it hf c18
            refine lv_iconst (v := 0) hx hb dX10_plans_59 (by decide) ?_
            refine lv_iadd hx hb dX10_plans_60 ?_
            refine lv_topi (fun t19 et19 => ?_)
            replace hf := g_let_at hf et19
            refine lv_istore_n (lv' := [(3, .int t19), (5, .int r6), (2, .int t5), (0, .ref (G.2.2 + 54)), (1, .int x1), (4, .int x4)]) hx hb dX10_plans_61 rfl hl (by decide) rfl (fun ls hl => ?_)
            refine lv_aload_n hx hb dX10_plans_62 rfl (lv_at hl 3 rfl) ?_
            refine lv_iload_n hx hb dX10_plans_63 rfl (lv_at hl 2 rfl) ?_
            obtain ⟨r20, hc21, hf⟩ := g_b1_e hf
            refine g_call (va_runV (As := [.int t5]) (rest := []) ⟨hx, hb, hml, hown, hts⟩ (c10_first l G E μ _ _ _ hc21) (cwV 1 hts gX10_plans_X10_first rfl rfl rfl (by decide +kernel) ⟨Nat.le_of_ble_eq_true rfl, Nat.le_of_ble_eq_true rfl⟩) (g_preV (ci := 10) hR hK (hR.2.2.2.2.1.1) rfl) rfl rfl hl.1 rfl (lv_room (Nat.le_of_ble_eq_true rfl)) dX10_plans_64 ⟨by show _ ≤ 0; omega, by show _ ≤ 0; omega⟩) hS (fun w22 H locs hp hR hS => ?_)
            subst hp
            refine lv_istore (lv' := [(4, .int r20), (3, .int t19), (5, .int r6), (2, .int t5), (0, .ref (G.2.2 + 54)), (1, .int x1)]) hx hb dX10_plans_67 hl (by decide) rfl (fun ls hl => ?_)
            refine lv_goto (tgt := 11) hx hb dX10_plans_69 (by decide) ?_
            exact ih _ _ _ _ _ _ _ _ hf  hR hS (lv_sub hl [4, 5, 3, 1, 0] rfl)
          · replace hf := g_if hf c18
            refine lv_iconst (v := 1) hx hb dX10_plans_55 (by decide) ?_
            refine lv_goto (tgt := 60) hx hb dX10_plans_56 (by decide) ?_
            refine lv_iadd hx hb dX10_plans_60 ?_
            refine lv_topi (fun t23 et23 => ?_)
            replace hf := g_let_at hf et23
            refine lv_istore_n (lv' := [(3, .int t23), (5, .int r6), (2, .int t5), (0, .ref (G.2.2 + 54)), (1, .int x1), (4, .int x4)]) hx hb dX10_plans_61 rfl hl (by decide) rfl (fun ls hl => ?_)
            refine lv_aload_n hx hb dX10_plans_62 rfl (lv_at hl 3 rfl) ?_
            refine lv_iload_n hx hb dX10_plans_63 rfl (lv_at hl 2 rfl) ?_
            obtain ⟨r24, hc25, hf⟩ := g_b1_e hf
            refine g_call (va_runV (As := [.int t5]) (rest := []) ⟨hx, hb, hml, hown, hts⟩ (c10_first l G E μ _ _ _ hc25) (cwV 1 hts gX10_plans_X10_first rfl rfl rfl (by decide +kernel) ⟨Nat.le_of_ble_eq_true rfl, Nat.le_of_ble_eq_true rfl⟩) (g_preV (ci := 10) hR hK (hR.2.2.2.2.1.1) rfl) rfl rfl hl.1 rfl (lv_room (Nat.le_of_ble_eq_true rfl)) dX10_plans_64 ⟨by show _ ≤ 0; omega, by show _ ≤ 0; omega⟩) hS (fun w26 H locs hp hR hS => ?_)
            subst hp
            refine lv_istore (lv' := [(4, .int r24), (3, .int t23), (5, .int r6), (2, .int t5), (0, .ref (G.2.2 + 54)), (1, .int x1)]) hx hb dX10_plans_67 hl (by decide) rfl (fun ls hl => ?_)
            refine lv_goto (tgt := 11) hx hb dX10_plans_69 (by decide) ?_
            exact ih _ _ _ _ _ _ _ _ hf  hR hS (lv_sub hl [4, 5, 3, 1, 0] rfl)
  unfold f10_plans at hf
  refine lv_iconst (v := 0) hx hb dX10_plans_0 (by decide) ?_
  refine lv_istore_n (lv' := [(2, .int (0 : Int32)), (0, .ref (G.2.2 + 54)), (1, .int p1)]) hx hb dX10_plans_1 rfl hl (by decide) rfl (fun ls hl => ?_)
  refine lv_iconst (v := 0) hx hb dX10_plans_2 (by decide) ?_
  refine lv_istore_n (lv' := [(3, .int (0 : Int32)), (2, .int (0 : Int32)), (0, .ref (G.2.2 + 54)), (1, .int p1)]) hx hb dX10_plans_3 rfl hl (by decide) rfl (fun ls hl => ?_)
  refine lv_aload_n hx hb dX10_plans_4 rfl (lv_at hl 2 rfl) ?_
  refine lv_iconst (v := 0) hx hb dX10_plans_5 (by decide) ?_
  obtain ⟨r1, hc2, hf⟩ := g_b1_e hf
  refine g_call (va_runV (As := [.int (0 : Int32)]) (rest := []) ⟨hx, hb, hml, hown, hts⟩ (c10_first l G E μ _ _ _ hc2) (cwV 1 hts gX10_plans_X10_first rfl rfl rfl (by decide +kernel) ⟨Nat.le_of_ble_eq_true rfl, Nat.le_of_ble_eq_true rfl⟩) (g_preV (ci := 10) hR hK (hR.2.2.2.2.1.1) rfl) rfl rfl hl.1 rfl (lv_room (Nat.le_of_ble_eq_true rfl)) dX10_plans_6 ⟨by show _ ≤ 0; omega, by show _ ≤ 0; omega⟩) hS (fun w3 H locs hp hR hS => ?_)
  subst hp
  refine lv_istore (lv' := [(4, .int r1), (3, .int (0 : Int32)), (2, .int (0 : Int32)), (0, .ref (G.2.2 + 54)), (1, .int p1)]) hx hb dX10_plans_9 hl (by decide) rfl (fun ls hl => ?_)
  exact hB11 70 _ _ _ _ _ _ _ _ hf  hR hS (lv_sub hl [3, 4, 2, 1, 0] rfl)
set_option maxHeartbeats 4000000 in
set_option maxRecDepth 100000 in
theorem c10_stands (l : Launch) (G : gG) (E : gEn) (μ : gMu) (z0 : gMo) (p1 : Int32) (ro : Int32) (zo : gMo) (hf : f10_stands z0 p1 = some (ro, zo)) : Met l yX10_stands wsX10_stands ({ frames := 0, cells := 0, slots := 0, locals := 0 } : Room) (g_Pre G E (g_setM μ z0) [.ref (G.2.2 + 54), .int p1]) (g_Q G E (g_setM μ zo) (fun E' v => E' = E ∧ v = some (.int ro))) 0 0 (g_A G) := by
  refine Met.ofW (cc := cX10_stands) (maxL := 3) (ret := some .boolean) (by decide) rfl ?_
  intro p e s m args below meth c s₁ B hml hv
  obtain ⟨rfl, hR, hK⟩ := hv
  have hx := B.exec
  have hb := B.bytes
  have hr := B.returns
  have hts := atoms_spec (ws := wsX10_stands) B.pre
  have hown : s.vm.findClass RX10 = some m.cls := findClass_of_methodNamed B.named
  have hlocks := B.notSynchronized
  have hS : va_S (g_A G) s.heap s.heap [] := va_S.rf
  have hl := lv_entry ([.ref (G.2.2 + 54), .int p1]) (n := 3) (Nat.le_of_ble_eq_true rfl)
  rw [lg_entry_eq]
  generalize (lg_sl ([.ref (G.2.2 + 54), .int p1]) ++ List.replicate (3 - (lg_sl ([.ref (G.2.2 + 54), .int p1])).length) Slot.unset).toArray = ls at hl ⊢
  have hl : lv_has ls 3 [(0, .ref (G.2.2 + 54)), (1, .int p1)] := hl
  have in_10 : ∀ w ∈ u_ws RX10 TX10 9, w ∈ wsX10_stands := ifX10_stands_10
  have l_146 := hts (.fieldLink RX10 146 "GlassRacksModel" "at" "I") (by decide +kernel)
  have l_149 := hts (.fieldLink RX10 149 "GlassRacksModel" "length" "I") (by decide +kernel)
  have l_22 := hts (.fieldLink RX10 22 "GlassRacksModel" "text" "[I") (by decide +kernel)
  have hB44 : ∀ (z0 : gMo) (x2 : Int32) (y1 : Int32) (y2 : Int32) (H : Heap) (locs : List Loc) (ls : Array Slot), f10_stands_44 z0 x2 y1 y2 = some (ro, zo) → g_R G E (g_setM μ z0) H → va_S (g_A G) s.heap H locs → lv_has ls 3 [(2, .int x2)] → W p l e (headSpec wsX10_stands ({ frames := 0, cells := 0, slots := 0, locals := 0 } : Room)).room s m ([.ref (G.2.2 + 54), .int p1] : List Value).toArray below meth c H locs 0 0 (MQ below (g_Q G E (g_setM μ zo) (fun E' v => E' = E ∧ v = some (.int ro))) ([.ref (G.2.2 + 54), .int p1] : List Value).toArray s 0 0 (g_A G)) (F0 m 44 ls [.int y2, .int y1, .ref (G.2.2 + 54)]) := by
    intro z0 x2 y1 y2 H locs ls hf  hR hS hl
    unfold f10_stands_44 at hf
    refine lv_iadd hx hb dX10_stands_44 ?_
    refine g_p10_8 hx hb hts in_10 hown hK hS hR l_146 dX10_stands_45 (fun H locs hR hS => ?_)
    obtain ⟨z3, ez3, hf⟩ := g_let_e hf
    replace hR : g_R G E (g_setM μ z3) H := by rw [ez3]; exact hR
    refine lv_iload_n hx hb dX10_stands_48 rfl (lv_at hl 0 rfl) ?_
    obtain ⟨hz4, hf⟩ := g_gd hf
    obtain ⟨rfl, rfl⟩ := g_sp hf
    exact g_zret hx hb hlocks hr hS hR g_le.rf hz4 ⟨rfl, rfl⟩ (by omega) (by omega) dX10_stands_49
  have hB29 : ∀ (z0 : gMo) (y0 : Int32) (H : Heap) (locs : List Loc) (ls : Array Slot), f10_stands_29 z0 y0 = some (ro, zo) → g_R G E (g_setM μ z0) H → va_S (g_A G) s.heap H locs → lv_has ls 3 [(0, .ref (G.2.2 + 54))] → W p l e (headSpec wsX10_stands ({ frames := 0, cells := 0, slots := 0, locals := 0 } : Room)).room s m ([.ref (G.2.2 + 54), .int p1] : List Value).toArray below meth c H locs 0 0 (MQ below (g_Q G E (g_setM μ zo) (fun E' v => E' = E ∧ v = some (.int ro))) ([.ref (G.2.2 + 54), .int p1] : List Value).toArray s 0 0 (g_A G)) (F0 m 29 ls [.int y0]) := by
    intro z0 y0 H locs ls hf  hR hS hl
    unfold f10_stands_29 at hf
    refine lv_istore_n (lv' := [(2, .int y0), (0, .ref (G.2.2 + 54))]) hx hb dX10_stands_29 rfl hl (by decide) rfl (fun ls hl => ?_)
    refine lv_aload_n hx hb dX10_stands_30 rfl (lv_at hl 1 rfl) ?_
    refine lv_dup hx hb dX10_stands_31 rfl ?_
    refine g_get hx hb hts in_10 hown hK hR.2.2.2.2.1.1 rfl 8 (by decide) l_146 rfl rfl dX10_stands_32 ?_
    refine lv_iload_n hx hb dX10_stands_35 rfl (lv_at hl 0 rfl) ?_
    refine lv_if_eq (tgt := 43) hx hb dX10_stands_36 (by decide) (fun c2 => ?_) (fun c2 => ?_)
    · replace hf := g_it hf c2
      refine lv_iconst (v := 0) hx hb dX10_stands_43 (by decide) ?_
      exact hB44 _ _ _ _ _ _ _ hf  hR hS (lv_sub hl [0] rfl)
    · replace hf := g_if hf c2
      refine lv_iconst (v := 1) hx hb dX10_stands_39 (by decide) ?_
      refine lv_goto (tgt := 44) hx hb dX10_stands_40 (by decide) ?_
      exact hB44 _ _ _ _ _ _ _ hf  hR hS (lv_sub hl [0] rfl)
  have hB28 : ∀ (z0 : gMo)  (H : Heap) (locs : List Loc) (ls : Array Slot), f10_stands_28 z0 = some (ro, zo) → g_R G E (g_setM μ z0) H → va_S (g_A G) s.heap H locs → lv_has ls 3 [(0, .ref (G.2.2 + 54))] → W p l e (headSpec wsX10_stands ({ frames := 0, cells := 0, slots := 0, locals := 0 } : Room)).room s m ([.ref (G.2.2 + 54), .int p1] : List Value).toArray below meth c H locs 0 0 (MQ below (g_Q G E (g_setM μ zo) (fun E' v => E' = E ∧ v = some (.int ro))) ([.ref (G.2.2 + 54), .int p1] : List Value).toArray s 0 0 (g_A G)) (F0 m 28 ls []) := by
    intro z0  H locs ls hf  hR hS hl
    unfold f10_stands_28 at hf
    refine lv_iconst (v := 0) hx hb dX10_stands_28 (by decide) ?_
    exact hB29 _ _ _ _ _ hf  hR hS (lv_sub hl [0] rfl)
  unfold f10_stands at hf
  refine lv_aload_n hx hb dX10_stands_0 rfl (lv_at hl 0 rfl) ?_
  refine g_get hx hb hts in_10 hown hK hR.2.2.2.2.1.1 rfl 8 (by decide) l_146 rfl rfl dX10_stands_1 ?_
  refine lv_aload_n hx hb dX10_stands_4 rfl (lv_at hl 0 rfl) ?_
  refine g_get hx hb hts in_10 hown hK hR.2.2.2.2.1.1 rfl 6 (by decide) l_149 rfl rfl dX10_stands_5 ?_
  refine lv_icmp_ge (tgt := 28) hx hb dX10_stands_8 (by decide) (fun c1 => ?_) (fun c1 => ?_)
  · replace hf := g_it hf c1
    exact hB28 _  _ _ _ hf  hR hS (lv_sub hl [0] rfl)
  · replace hf := g_if hf c1
    refine lv_aload_n hx hb dX10_stands_11 rfl (lv_at hl 0 rfl) ?_
    refine g_get hx hb hts in_10 hown hK hR.2.2.2.2.1.1 rfl 4 (by decide) l_22 rfl rfl dX10_stands_12 ?_
    refine lv_aload_n hx hb dX10_stands_15 rfl (lv_at hl 0 rfl) ?_
    refine g_get hx hb hts in_10 hown hK hR.2.2.2.2.1.1 rfl 8 (by decide) l_146 rfl rfl dX10_stands_16 ?_
    obtain ⟨hg5, hf⟩ := g_gd hf
    refine g_aild hx hb hK hR (by decide) hg5 dX10_stands_19 ?_
    refine lv_iload_n hx hb dX10_stands_20 rfl (lv_at hl 1 rfl) ?_
    refine lv_icmp_ne (tgt := 28) hx hb dX10_stands_21 (by decide) (fun c6 => ?_) (fun c6 => ?_)
    · replace hf := g_it hf c6
      exact hB28 _  _ _ _ hf  hR hS (lv_sub hl [0] rfl)
    · replace hf := g_if hf (fun q => q c6)
      refine lv_iconst (v := 1) hx hb dX10_stands_24 (by decide) ?_
      refine lv_goto (tgt := 29) hx hb dX10_stands_25 (by decide) ?_
      exact hB29 _ _ _ _ _ hf  hR hS (lv_sub hl [0] rfl)
set_option maxHeartbeats 4000000 in
set_option maxRecDepth 100000 in
theorem c10_command (l : Launch) (G : gG) (E : gEn) (μ : gMu) (z0 : gMo) (p1 : Int32) (ro : Int32) (zo : gMo) (hf : f10_command z0 p1 = some (ro, zo)) : Met l yX10_command wsX10_command ({ frames := 9, cells := 0, slots := 0, locals := 219 } : Room) (g_Pre G E (g_setM μ z0) [.ref (G.2.2 + 54), .int p1]) (g_Q G E (g_setM μ zo) (fun E' v => E' = E ∧ v = some (.int ro))) 0 0 (g_A G) := by
  refine Met.ofW (cc := cX10_command) (maxL := 9) (ret := some .int) (by decide) rfl ?_
  intro p e s m args below meth c s₁ B hml hv
  obtain ⟨rfl, hR, hK⟩ := hv
  have hx := B.exec
  have hb := B.bytes
  have hr := B.returns
  have hts := atoms_spec (ws := wsX10_command) B.pre
  have hown : s.vm.findClass RX10 = some m.cls := findClass_of_methodNamed B.named
  have hlocks := B.notSynchronized
  have hS : va_S (g_A G) s.heap s.heap [] := va_S.rf
  have hl := lv_entry ([.ref (G.2.2 + 54), .int p1]) (n := 9) (Nat.le_of_ble_eq_true rfl)
  rw [lg_entry_eq]
  generalize (lg_sl ([.ref (G.2.2 + 54), .int p1]) ++ List.replicate (9 - (lg_sl ([.ref (G.2.2 + 54), .int p1])).length) Slot.unset).toArray = ls at hl ⊢
  have hl : lv_has ls 9 [(0, .ref (G.2.2 + 54)), (1, .int p1)] := hl
  have hB233 : ∀ (z0 : gMo) (x1 : Int32) (x2 : Int32) (x3 : Int32) (x4 : Int32) (x5 : Int32) (x6 : Int32) (x7 : Int32) (y0 : Int32) (H : Heap) (locs : List Loc) (ls : Array Slot), f10_command_233 z0 x1 x2 x3 x4 x5 x6 x7 y0 = some (ro, zo) → g_R G E (g_setM μ z0) H → va_S (g_A G) s.heap H locs → lv_has ls 9 [(0, .ref (G.2.2 + 54)), (1, .int x1), (2, .int x2), (3, .int x3), (4, .int x4), (5, .int x5), (6, .int x6), (7, .int x7)] → W p l e (headSpec wsX10_command ({ frames := 9, cells := 0, slots := 0, locals := 219 } : Room)).room s m ([.ref (G.2.2 + 54), .int p1] : List Value).toArray below meth c H locs 0 0 (MQ below (g_Q G E (g_setM μ zo) (fun E' v => E' = E ∧ v = some (.int ro))) ([.ref (G.2.2 + 54), .int p1] : List Value).toArray s 0 0 (g_A G)) (F0 m 233 ls [.int y0]) := by
    intro z0 x1 x2 x3 x4 x5 x6 x7 y0 H locs ls hf  hR hS hl
    unfold f10_command_233 at hf
    refine lv_istore (lv' := [(8, .int y0), (0, .ref (G.2.2 + 54)), (1, .int x1), (2, .int x2), (3, .int x3), (4, .int x4), (5, .int x5), (6, .int x6), (7, .int x7)]) hx hb dX10_command_233 hl (by decide) rfl (fun ls hl => ?_)
    refine lv_iload hx hb dX10_command_235 (lv_at hl 0 rfl) ?_
    refine lv_if_ge (tgt := 242) hx hb dX10_command_237 (by decide) (fun c50 => ?_) (fun c50 => ?_)
    · replace hf := g_it hf c50
      refine lv_iload_n hx hb dX10_command_242 rfl (lv_at hl 2 rfl) ?_
      refine lv_if_ne (tgt := 250) hx hb dX10_command_243 (by decide) (fun c51 => ?_) (fun c51 => ?_)
      · replace hf := g_it hf c51
        refine lv_iload_n hx hb dX10_command_250 rfl (lv_at hl 4 rfl) ?_
        refine lv_if_eq (tgt := 269) hx hb dX10_command_251 (by decide) (fun c52 => ?_) (fun c52 => ?_)
        · replace hf := g_it hf c52
          refine lv_aload_n hx hb dX10_command_269 rfl (lv_at hl 1 rfl) ?_
          refine lv_iload hx hb dX10_command_270 (lv_at hl 6 rfl) ?_
          refine lv_iload hx hb dX10_command_272 (lv_at hl 7 rfl) ?_
          refine lv_iload hx hb dX10_command_274 (lv_at hl 8 rfl) ?_
          refine lv_iload hx hb dX10_command_276 (lv_at hl 0 rfl) ?_
          obtain ⟨r53, z54, hc55, hf⟩ := g_bd_e hf
          refine g_call (va_runV (As := [.int x5, .int x6, .int x7, .int y0]) (rest := []) ⟨hx, hb, hml, hown, hts⟩ (c10_orders l G E μ _ _ _ _ _ _ _ hc55) (cwV 4 hts gX10_command_X10_orders rfl rfl rfl (by decide +kernel) ⟨Nat.le_of_ble_eq_true rfl, Nat.le_of_ble_eq_true rfl⟩) (g_preV (ci := 10) hR hK (hR.2.2.2.2.1.1) rfl) rfl rfl hl.1 rfl (lv_room (Nat.le_of_ble_eq_true rfl)) dX10_command_278 ⟨by show _ ≤ 0; omega, by show _ ≤ 0; omega⟩) hS (fun w56 H locs hp hR hS => ?_)
          subst hp
          obtain ⟨rfl, rfl⟩ := g_sp hf
          exact g_iret hx hb hlocks hr hS hR g_le.rf ⟨rfl, rfl⟩ (by omega) (by omega) dX10_command_281
        · replace hf := g_if hf c52
          refine lv_aload_n hx hb dX10_command_254 rfl (lv_at hl 1 rfl) ?_
          refine lv_iload hx hb dX10_command_255 (lv_at hl 5 rfl) ?_
          refine lv_iload hx hb dX10_command_257 (lv_at hl 6 rfl) ?_
          refine lv_iload hx hb dX10_command_259 (lv_at hl 7 rfl) ?_
          refine lv_iload hx hb dX10_command_261 (lv_at hl 8 rfl) ?_
          obtain ⟨r57, z58, hc59, hf⟩ := g_bd_e hf
          refine g_call (va_runV (As := [.int x4, .int x5, .int x6, .int x7]) (rest := []) ⟨hx, hb, hml, hown, hts⟩ (c10_buys l G E μ _ _ _ _ _ _ _ hc59) (cwV 4 hts gX10_command_X10_buys rfl rfl rfl (by decide +kernel) ⟨Nat.le_of_ble_eq_true rfl, Nat.le_of_ble_eq_true rfl⟩) (g_preV (ci := 10) hR hK (hR.2.2.2.2.1.1) rfl) rfl rfl hl.1 rfl (lv_room (Nat.le_of_ble_eq_true rfl)) dX10_command_263 ⟨by show _ ≤ 0; omega, by show _ ≤ 0; omega⟩) hS (fun w60 H locs hp hR hS => ?_)
          subst hp
          refine lv_goto (tgt := 281) hx hb dX10_command_266 (by decide) ?_
          obtain ⟨rfl, rfl⟩ := g_sp hf
          exact g_iret hx hb hlocks hr hS hR g_le.rf ⟨rfl, rfl⟩ (by omega) (by omega) dX10_command_281
      · replace hf := g_if hf (fun q => q c51)
        refine lv_iconst (v := 0) hx hb dX10_command_246 (by decide) ?_
        refine lv_goto (tgt := 281) hx hb dX10_command_247 (by decide) ?_
        obtain ⟨rfl, rfl⟩ := g_sp hf
        exact g_iret hx hb hlocks hr hS hR g_le.rf ⟨rfl, rfl⟩ (by omega) (by omega) dX10_command_281
    · replace hf := g_if hf c50
      refine lv_iload_n hx hb dX10_command_240 rfl (lv_at hl 3 rfl) ?_
      obtain ⟨rfl, rfl⟩ := g_sp hf
      exact g_iret hx hb hlocks hr hS hR g_le.rf ⟨rfl, rfl⟩ (by omega) (by omega) dX10_command_241
  have hB217 : ∀ (z0 : gMo) (x1 : Int32) (x2 : Int32) (x3 : Int32) (x4 : Int32) (x5 : Int32) (x6 : Int32) (x7 : Int32) (H : Heap) (locs : List Loc) (ls : Array Slot), f10_command_217 z0 x1 x2 x3 x4 x5 x6 x7 = some (ro, zo) → g_R G E (g_setM μ z0) H → va_S (g_A G) s.heap H locs → lv_has ls 9 [(0, .ref (G.2.2 + 54)), (1, .int x1), (2, .int x2), (3, .int x3), (4, .int x4), (5, .int x5), (6, .int x6), (7, .int x7)] → W p l e (headSpec wsX10_command ({ frames := 9, cells := 0, slots := 0, locals := 219 } : Room)).room s m ([.ref (G.2.2 + 54), .int p1] : List Value).toArray below meth c H locs 0 0 (MQ below (g_Q G E (g_setM μ zo) (fun E' v => E' = E ∧ v = some (.int ro))) ([.ref (G.2.2 + 54), .int p1] : List Value).toArray s 0 0 (g_A G)) (F0 m 217 ls []) := by
    intro z0 x1 x2 x3 x4 x5 x6 x7 H locs ls hf  hR hS hl
    unfold f10_command_217 at hf
    refine lv_iload_n hx hb dX10_command_217 rfl (lv_at hl 3 rfl) ?_
    refine lv_if_eq (tgt := 225) hx hb dX10_command_218 (by decide) (fun c45 => ?_) (fun c45 => ?_)
    · replace hf := g_it hf c45
      refine lv_aload_n hx hb dX10_command_225 rfl (lv_at hl 0 rfl) ?_
      refine lv_iconst (v := 0) hx hb dX10_command_226 (by decide) ?_
      refine lv_sipush (v := 999) hx hb dX10_command_227 (by decide) ?_
      obtain ⟨r46, z47, hc48, hf⟩ := g_bd_e hf
      refine g_call (va_runV (As := [.int (0 : Int32), .int (999 : Int32)]) (rest := []) ⟨hx, hb, hml, hown, hts⟩ (c10_number l G E μ _ _ _ _ _ hc48) (cwV 2 hts gX10_command_X10_number rfl rfl rfl (by decide +kernel) ⟨Nat.le_of_ble_eq_true rfl, Nat.le_of_ble_eq_true rfl⟩) (g_preV (ci := 10) hR hK (hR.2.2.2.2.1.1) rfl) rfl rfl hl.1 rfl (lv_room (Nat.le_of_ble_eq_true rfl)) dX10_command_230 ⟨by show _ ≤ 0; omega, by show _ ≤ 0; omega⟩) hS (fun w49 H locs hp hR hS => ?_)
      subst hp
      exact hB233 _ _ _ _ _ _ _ _ _ _ _ _ hf  hR hS (lv_sub hl [0, 1, 2, 3, 4, 5, 6, 7] rfl)
    · replace hf := g_if hf c45
      refine lv_iconst (v := 0) hx hb dX10_command_221 (by decide) ?_
      refine lv_goto (tgt := 233) hx hb dX10_command_222 (by decide) ?_
      exact hB233 _ _ _ _ _ _ _ _ _ _ _ _ hf  hR hS (lv_sub hl [0, 1, 2, 3, 4, 5, 6, 7] rfl)
  have hB139 : ∀ (z0 : gMo) (x1 : Int32) (x2 : Int32) (x3 : Int32) (x4 : Int32) (H : Heap) (locs : List Loc) (ls : Array Slot), f10_command_139 z0 x1 x2 x3 x4 = some (ro, zo) → g_R G E (g_setM μ z0) H → va_S (g_A G) s.heap H locs → lv_has ls 9 [(0, .ref (G.2.2 + 54)), (1, .int x1), (2, .int x2), (3, .int x3), (4, .int x4)] → W p l e (headSpec wsX10_command ({ frames := 9, cells := 0, slots := 0, locals := 219 } : Room)).room s m ([.ref (G.2.2 + 54), .int p1] : List Value).toArray below meth c H locs 0 0 (MQ below (g_Q G E (g_setM μ zo) (fun E' v => E' = E ∧ v = some (.int ro))) ([.ref (G.2.2 + 54), .int p1] : List Value).toArray s 0 0 (g_A G)) (F0 m 139 ls []) := by
    intro z0 x1 x2 x3 x4 H locs ls hf  hR hS hl
    unfold f10_command_139 at hf
    refine lv_aload_n hx hb dX10_command_139 rfl (lv_at hl 0 rfl) ?_
    refine lv_iconst (v := 0) hx hb dX10_command_140 (by decide) ?_
    refine lv_iconst (v := 2) hx hb dX10_command_141 (by decide) ?_
    obtain ⟨r19, z20, hc21, hf⟩ := g_bd_e hf
    refine g_call (va_runV (As := [.int (0 : Int32), .int (2 : Int32)]) (rest := []) ⟨hx, hb, hml, hown, hts⟩ (c10_number l G E μ _ _ _ _ _ hc21) (cwV 2 hts gX10_command_X10_number rfl rfl rfl (by decide +kernel) ⟨Nat.le_of_ble_eq_true rfl, Nat.le_of_ble_eq_true rfl⟩) (g_preV (ci := 10) hR hK (hR.2.2.2.2.1.1) rfl) rfl rfl hl.1 rfl (lv_room (Nat.le_of_ble_eq_true rfl)) dX10_command_142 ⟨by show _ ≤ 0; omega, by show _ ≤ 0; omega⟩) hS (fun w22 H locs hp hR hS => ?_)
    subst hp
    refine lv_istore (lv' := [(5, .int r19), (0, .ref (G.2.2 + 54)), (1, .int x1), (2, .int x2), (3, .int x3), (4, .int x4)]) hx hb dX10_command_145 hl (by decide) rfl (fun ls hl => ?_)
    refine lv_iload hx hb dX10_command_147 (lv_at hl 0 rfl) ?_
    refine lv_if_lt (tgt := 161) hx hb dX10_command_149 (by decide) (fun c23 => ?_) (fun c23 => ?_)
    · replace hf := g_it hf c23
      refine lv_iload_n hx hb dX10_command_161 rfl (lv_at hl 3 rfl) ?_
      obtain ⟨rfl, rfl⟩ := g_sp hf
      exact g_iret hx hb hlocks hr hS hR g_le.rf ⟨rfl, rfl⟩ (by omega) (by omega) dX10_command_162
    · replace hf := g_if hf c23
      refine lv_aload_n hx hb dX10_command_152 rfl (lv_at hl 1 rfl) ?_
      refine lv_bipush (v := 44) hx hb dX10_command_153 (by decide) ?_
      obtain ⟨r24, z25, hc26, hf⟩ := g_bd_e hf
      refine g_call (va_runV (As := [.int (44 : Int32)]) (rest := []) ⟨hx, hb, hml, hown, hts⟩ (c10_stands l G E μ _ _ _ _ hc26) (cwV 1 hts gX10_command_X10_stands rfl rfl rfl (by decide +kernel) ⟨Nat.le_of_ble_eq_true rfl, Nat.le_of_ble_eq_true rfl⟩) (g_preV (ci := 10) hR hK (hR.2.2.2.2.1.1) rfl) rfl rfl hl.1 rfl (lv_room (Nat.le_of_ble_eq_true rfl)) dX10_command_155 ⟨by show _ ≤ 0; omega, by show _ ≤ 0; omega⟩) hS (fun w27 H locs hp hR hS => ?_)
      subst hp
      refine lv_if_ne (tgt := 163) hx hb dX10_command_158 (by decide) (fun c28 => ?_) (fun c28 => ?_)
      · replace hf := g_it hf c28
        refine lv_aload_n hx hb dX10_command_163 rfl (lv_at hl 1 rfl) ?_
        refine lv_iconst (v := 1) hx hb dX10_command_164 (by decide) ?_
        refine lv_bipush (v := 99) hx hb dX10_command_165 (by decide) ?_
        obtain ⟨r29, z30, hc31, hf⟩ := g_bd_e hf
        refine g_call (va_runV (As := [.int (1 : Int32), .int (99 : Int32)]) (rest := []) ⟨hx, hb, hml, hown, hts⟩ (c10_number l G E μ _ _ _ _ _ hc31) (cwV 2 hts gX10_command_X10_number rfl rfl rfl (by decide +kernel) ⟨Nat.le_of_ble_eq_true rfl, Nat.le_of_ble_eq_true rfl⟩) (g_preV (ci := 10) hR hK (hR.2.2.2.2.1.1) rfl) rfl rfl hl.1 rfl (lv_room (Nat.le_of_ble_eq_true rfl)) dX10_command_167 ⟨by show _ ≤ 0; omega, by show _ ≤ 0; omega⟩) hS (fun w32 H locs hp hR hS => ?_)
        subst hp
        refine lv_istore (lv' := [(6, .int r29), (5, .int r19), (0, .ref (G.2.2 + 54)), (1, .int x1), (2, .int x2), (3, .int x3), (4, .int x4)]) hx hb dX10_command_170 hl (by decide) rfl (fun ls hl => ?_)
        refine lv_iload hx hb dX10_command_172 (lv_at hl 0 rfl) ?_
        refine lv_if_lt (tgt := 186) hx hb dX10_command_174 (by decide) (fun c33 => ?_) (fun c33 => ?_)
        · replace hf := g_it hf c33
          refine lv_iload_n hx hb dX10_command_186 rfl (lv_at hl 4 rfl) ?_
          obtain ⟨rfl, rfl⟩ := g_sp hf
          exact g_iret hx hb hlocks hr hS hR g_le.rf ⟨rfl, rfl⟩ (by omega) (by omega) dX10_command_187
        · replace hf := g_if hf c33
          refine lv_aload_n hx hb dX10_command_177 rfl (lv_at hl 2 rfl) ?_
          refine lv_bipush (v := 120) hx hb dX10_command_178 (by decide) ?_
          obtain ⟨r34, z35, hc36, hf⟩ := g_bd_e hf
          refine g_call (va_runV (As := [.int (120 : Int32)]) (rest := []) ⟨hx, hb, hml, hown, hts⟩ (c10_stands l G E μ _ _ _ _ hc36) (cwV 1 hts gX10_command_X10_stands rfl rfl rfl (by decide +kernel) ⟨Nat.le_of_ble_eq_true rfl, Nat.le_of_ble_eq_true rfl⟩) (g_preV (ci := 10) hR hK (hR.2.2.2.2.1.1) rfl) rfl rfl hl.1 rfl (lv_room (Nat.le_of_ble_eq_true rfl)) dX10_command_180 ⟨by show _ ≤ 0; omega, by show _ ≤ 0; omega⟩) hS (fun w37 H locs hp hR hS => ?_)
          subst hp
          refine lv_if_ne (tgt := 188) hx hb dX10_command_183 (by decide) (fun c38 => ?_) (fun c38 => ?_)
          · replace hf := g_it hf c38
            refine lv_aload_n hx hb dX10_command_188 rfl (lv_at hl 2 rfl) ?_
            refine lv_iconst (v := 1) hx hb dX10_command_189 (by decide) ?_
            refine lv_bipush (v := 99) hx hb dX10_command_190 (by decide) ?_
            obtain ⟨r39, z40, hc41, hf⟩ := g_bd_e hf
            refine g_call (va_runV (As := [.int (1 : Int32), .int (99 : Int32)]) (rest := []) ⟨hx, hb, hml, hown, hts⟩ (c10_number l G E μ _ _ _ _ _ hc41) (cwV 2 hts gX10_command_X10_number rfl rfl rfl (by decide +kernel) ⟨Nat.le_of_ble_eq_true rfl, Nat.le_of_ble_eq_true rfl⟩) (g_preV (ci := 10) hR hK (hR.2.2.2.2.1.1) rfl) rfl rfl hl.1 rfl (lv_room (Nat.le_of_ble_eq_true rfl)) dX10_command_192 ⟨by show _ ≤ 0; omega, by show _ ≤ 0; omega⟩) hS (fun w42 H locs hp hR hS => ?_)
            subst hp
            refine lv_istore (lv' := [(7, .int r39), (6, .int r29), (5, .int r19), (0, .ref (G.2.2 + 54)), (1, .int x1), (2, .int x2), (3, .int x3), (4, .int x4)]) hx hb dX10_command_195 hl (by decide) rfl (fun ls hl => ?_)
            refine lv_iload hx hb dX10_command_197 (lv_at hl 0 rfl) ?_
            refine lv_if_lt (tgt := 215) hx hb dX10_command_199 (by decide) (fun c43 => ?_) (fun c43 => ?_)
            · replace hf := g_it hf c43
              refine lv_iload_n hx hb dX10_command_215 rfl (lv_at hl 5 rfl) ?_
              obtain ⟨rfl, rfl⟩ := g_sp hf
              exact g_iret hx hb hlocks hr hS hR g_le.rf ⟨rfl, rfl⟩ (by omega) (by omega) dX10_command_216
            · replace hf := g_if hf c43
              refine lv_iload_n hx hb dX10_command_202 rfl (lv_at hl 6 rfl) ?_
              refine lv_if_ne (tgt := 217) hx hb dX10_command_203 (by decide) (fun c44 => ?_) (fun c44 => ?_)
              · replace hf := g_it hf c44
                exact hB217 _ _ _ _ _ _ _ _ _ _ _ hf  hR hS (lv_sub hl [3, 4, 5, 6, 7, 2, 1, 0] rfl)
              · replace hf := g_if hf (fun q => q c44)
                refine lv_aload_n hx hb dX10_command_206 rfl (lv_at hl 3 rfl) ?_
                refine lv_bipush (v := 64) hx hb dX10_command_207 (by decide) ?_
                obtain ⟨r61, z62, hc63, hf⟩ := g_bd_e hf
                refine g_call (va_runV (As := [.int (64 : Int32)]) (rest := []) ⟨hx, hb, hml, hown, hts⟩ (c10_stands l G E μ _ _ _ _ hc63) (cwV 1 hts gX10_command_X10_stands rfl rfl rfl (by decide +kernel) ⟨Nat.le_of_ble_eq_true rfl, Nat.le_of_ble_eq_true rfl⟩) (g_preV (ci := 10) hR hK (hR.2.2.2.2.1.1) rfl) rfl rfl hl.1 rfl (lv_room (Nat.le_of_ble_eq_true rfl)) dX10_command_209 ⟨by show _ ≤ 0; omega, by show _ ≤ 0; omega⟩) hS (fun w64 H locs hp hR hS => ?_)
                subst hp
                refine lv_if_ne (tgt := 217) hx hb dX10_command_212 (by decide) (fun c65 => ?_) (fun c65 => ?_)
                · replace hf := g_it hf c65
                  exact hB217 _ _ _ _ _ _ _ _ _ _ _ hf  hR hS (lv_sub hl [3, 4, 5, 6, 7, 2, 1, 0] rfl)
                · replace hf := g_if hf (fun q => q c65)
                  refine lv_iload_n hx hb dX10_command_215 rfl (lv_at hl 5 rfl) ?_
                  obtain ⟨rfl, rfl⟩ := g_sp hf
                  exact g_iret hx hb hlocks hr hS hR g_le.rf ⟨rfl, rfl⟩ (by omega) (by omega) dX10_command_216
          · replace hf := g_if hf (fun q => q c38)
            refine lv_iload_n hx hb dX10_command_186 rfl (lv_at hl 4 rfl) ?_
            obtain ⟨rfl, rfl⟩ := g_sp hf
            exact g_iret hx hb hlocks hr hS hR g_le.rf ⟨rfl, rfl⟩ (by omega) (by omega) dX10_command_187
      · replace hf := g_if hf (fun q => q c28)
        refine lv_iload_n hx hb dX10_command_161 rfl (lv_at hl 3 rfl) ?_
        obtain ⟨rfl, rfl⟩ := g_sp hf
        exact g_iret hx hb hlocks hr hS hR g_le.rf ⟨rfl, rfl⟩ (by omega) (by omega) dX10_command_162
  have hB117 : ∀ (z0 : gMo) (x1 : Int32) (x2 : Int32) (x3 : Int32) (y0 : Int32) (H : Heap) (locs : List Loc) (ls : Array Slot), f10_command_117 z0 x1 x2 x3 y0 = some (ro, zo) → g_R G E (g_setM μ z0) H → va_S (g_A G) s.heap H locs → lv_has ls 9 [(0, .ref (G.2.2 + 54)), (1, .int x1), (2, .int x2), (3, .int x3)] → W p l e (headSpec wsX10_command ({ frames := 9, cells := 0, slots := 0, locals := 219 } : Room)).room s m ([.ref (G.2.2 + 54), .int p1] : List Value).toArray below meth c H locs 0 0 (MQ below (g_Q G E (g_setM μ zo) (fun E' v => E' = E ∧ v = some (.int ro))) ([.ref (G.2.2 + 54), .int p1] : List Value).toArray s 0 0 (g_A G)) (F0 m 117 ls [.int y0]) := by
    intro z0 x1 x2 x3 y0 H locs ls hf  hR hS hl
    unfold f10_command_117 at hf
    refine lv_istore (lv' := [(4, .int y0), (0, .ref (G.2.2 + 54)), (1, .int x1), (2, .int x2), (3, .int x3)]) hx hb dX10_command_117 hl (by decide) rfl (fun ls hl => ?_)
    refine lv_iload hx hb dX10_command_119 (lv_at hl 0 rfl) ?_
    refine lv_if_lt (tgt := 137) hx hb dX10_command_121 (by decide) (fun c17 => ?_) (fun c17 => ?_)
    · replace hf := g_it hf c17
      refine lv_iload_n hx hb dX10_command_137 rfl (lv_at hl 3 rfl) ?_
      obtain ⟨rfl, rfl⟩ := g_sp hf
      exact g_iret hx hb hlocks hr hS hR g_le.rf ⟨rfl, rfl⟩ (by omega) (by omega) dX10_command_138
    · replace hf := g_if hf c17
      refine lv_iload_n hx hb dX10_command_124 rfl (lv_at hl 4 rfl) ?_
      refine lv_if_eq (tgt := 139) hx hb dX10_command_125 (by decide) (fun c18 => ?_) (fun c18 => ?_)
      · replace hf := g_it hf c18
        exact hB139 _ _ _ _ _ _ _ _ hf  hR hS (lv_sub hl [1, 2, 3, 4, 0] rfl)
      · replace hf := g_if hf c18
        refine lv_aload_n hx hb dX10_command_128 rfl (lv_at hl 1 rfl) ?_
        refine lv_bipush (v := 58) hx hb dX10_command_129 (by decide) ?_
        obtain ⟨r66, z67, hc68, hf⟩ := g_bd_e hf
        refine g_call (va_runV (As := [.int (58 : Int32)]) (rest := []) ⟨hx, hb, hml, hown, hts⟩ (c10_stands l G E μ _ _ _ _ hc68) (cwV 1 hts gX10_command_X10_stands rfl rfl rfl (by decide +kernel) ⟨Nat.le_of_ble_eq_true rfl, Nat.le_of_ble_eq_true rfl⟩) (g_preV (ci := 10) hR hK (hR.2.2.2.2.1.1) rfl) rfl rfl hl.1 rfl (lv_room (Nat.le_of_ble_eq_true rfl)) dX10_command_131 ⟨by show _ ≤ 0; omega, by show _ ≤ 0; omega⟩) hS (fun w69 H locs hp hR hS => ?_)
        subst hp
        refine lv_if_ne (tgt := 139) hx hb dX10_command_134 (by decide) (fun c70 => ?_) (fun c70 => ?_)
        · replace hf := g_it hf c70
          exact hB139 _ _ _ _ _ _ _ _ hf  hR hS (lv_sub hl [1, 2, 3, 4, 0] rfl)
        · replace hf := g_if hf (fun q => q c70)
          refine lv_iload_n hx hb dX10_command_137 rfl (lv_at hl 3 rfl) ?_
          obtain ⟨rfl, rfl⟩ := g_sp hf
          exact g_iret hx hb hlocks hr hS hR g_le.rf ⟨rfl, rfl⟩ (by omega) (by omega) dX10_command_138
  have hB103 : ∀ (z0 : gMo) (x1 : Int32) (x2 : Int32) (x3 : Int32) (H : Heap) (locs : List Loc) (ls : Array Slot), f10_command_103 z0 x1 x2 x3 = some (ro, zo) → g_R G E (g_setM μ z0) H → va_S (g_A G) s.heap H locs → lv_has ls 9 [(0, .ref (G.2.2 + 54)), (1, .int x1), (2, .int x2), (3, .int x3)] → W p l e (headSpec wsX10_command ({ frames := 9, cells := 0, slots := 0, locals := 219 } : Room)).room s m ([.ref (G.2.2 + 54), .int p1] : List Value).toArray below meth c H locs 0 0 (MQ below (g_Q G E (g_setM μ zo) (fun E' v => E' = E ∧ v = some (.int ro))) ([.ref (G.2.2 + 54), .int p1] : List Value).toArray s 0 0 (g_A G)) (F0 m 103 ls []) := by
    intro z0 x1 x2 x3 H locs ls hf  hR hS hl
    unfold f10_command_103 at hf
    refine lv_iload_n hx hb dX10_command_103 rfl (lv_at hl 3 rfl) ?_
    refine lv_if_eq (tgt := 116) hx hb dX10_command_104 (by decide) (fun c16 => ?_) (fun c16 => ?_)
    · replace hf := g_it hf c16
      refine lv_iconst (v := 0) hx hb dX10_command_116 (by decide) ?_
      exact hB117 _ _ _ _ _ _ _ _ hf  hR hS (lv_sub hl [0, 1, 2, 3] rfl)
    · replace hf := g_if hf c16
      refine lv_aload_n hx hb dX10_command_107 rfl (lv_at hl 0 rfl) ?_
      refine lv_iconst (v := 0) hx hb dX10_command_108 (by decide) ?_
      refine lv_iconst (v := 3) hx hb dX10_command_109 (by decide) ?_
      obtain ⟨r71, z72, hc73, hf⟩ := g_bd_e hf
      refine g_call (va_runV (As := [.int (0 : Int32), .int (3 : Int32)]) (rest := []) ⟨hx, hb, hml, hown, hts⟩ (c10_number l G E μ _ _ _ _ _ hc73) (cwV 2 hts gX10_command_X10_number rfl rfl rfl (by decide +kernel) ⟨Nat.le_of_ble_eq_true rfl, Nat.le_of_ble_eq_true rfl⟩) (g_preV (ci := 10) hR hK (hR.2.2.2.2.1.1) rfl) rfl rfl hl.1 rfl (lv_room (Nat.le_of_ble_eq_true rfl)) dX10_command_110 ⟨by show _ ≤ 0; omega, by show _ ≤ 0; omega⟩) hS (fun w74 H locs hp hR hS => ?_)
      subst hp
      refine lv_goto (tgt := 117) hx hb dX10_command_113 (by decide) ?_
      exact hB117 _ _ _ _ _ _ _ _ hf  hR hS (lv_sub hl [0, 1, 2, 3] rfl)
  unfold f10_command at hf
  refine lv_sipush (v := -1000) hx hb dX10_command_0 (by decide) ?_
  refine lv_istore_n (lv' := [(2, .int (-1000 : Int32)), (0, .ref (G.2.2 + 54)), (1, .int p1)]) hx hb dX10_command_3 rfl hl (by decide) rfl (fun ls hl => ?_)
  refine lv_aload_n hx hb dX10_command_4 rfl (lv_at hl 1 rfl) ?_
  refine lv_bipush (v := 112) hx hb dX10_command_5 (by decide) ?_
  obtain ⟨r1, z2, hc3, hf⟩ := g_bd_e hf
  refine g_call (va_runV (As := [.int (112 : Int32)]) (rest := []) ⟨hx, hb, hml, hown, hts⟩ (c10_stands l G E μ _ _ _ _ hc3) (cwV 1 hts gX10_command_X10_stands rfl rfl rfl (by decide +kernel) ⟨Nat.le_of_ble_eq_true rfl, Nat.le_of_ble_eq_true rfl⟩) (g_preV (ci := 10) hR hK (hR.2.2.2.2.1.1) rfl) rfl rfl hl.1 rfl (lv_room (Nat.le_of_ble_eq_true rfl)) dX10_command_7 ⟨by show _ ≤ 0; omega, by show _ ≤ 0; omega⟩) hS (fun w4 H locs hp hR hS => ?_)
  subst hp
  refine lv_if_eq (tgt := 42) hx hb dX10_command_10 (by decide) (fun c5 => ?_) (fun c5 => ?_)
  · replace hf := g_it hf c5
    refine lv_aload_n hx hb dX10_command_42 rfl (lv_at hl 1 rfl) ?_
    refine lv_bipush (v := 100) hx hb dX10_command_43 (by decide) ?_
    obtain ⟨r6, z7, hc8, hf⟩ := g_bd_e hf
    refine g_call (va_runV (As := [.int (100 : Int32)]) (rest := []) ⟨hx, hb, hml, hown, hts⟩ (c10_stands l G E μ _ _ _ _ hc8) (cwV 1 hts gX10_command_X10_stands rfl rfl rfl (by decide +kernel) ⟨Nat.le_of_ble_eq_true rfl, Nat.le_of_ble_eq_true rfl⟩) (g_preV (ci := 10) hR hK (hR.2.2.2.2.1.1) rfl) rfl rfl hl.1 rfl (lv_room (Nat.le_of_ble_eq_true rfl)) dX10_command_45 ⟨by show _ ≤ 0; omega, by show _ ≤ 0; omega⟩) hS (fun w9 H locs hp hR hS => ?_)
    subst hp
    refine lv_if_eq (tgt := 81) hx hb dX10_command_48 (by decide) (fun c10 => ?_) (fun c10 => ?_)
    · replace hf := g_it hf c10
      refine lv_aload_n hx hb dX10_command_81 rfl (lv_at hl 1 rfl) ?_
      refine lv_bipush (v := 115) hx hb dX10_command_82 (by decide) ?_
      obtain ⟨r11, z12, hc13, hf⟩ := g_bd_e hf
      refine g_call (va_runV (As := [.int (115 : Int32)]) (rest := []) ⟨hx, hb, hml, hown, hts⟩ (c10_stands l G E μ _ _ _ _ hc13) (cwV 1 hts gX10_command_X10_stands rfl rfl rfl (by decide +kernel) ⟨Nat.le_of_ble_eq_true rfl, Nat.le_of_ble_eq_true rfl⟩) (g_preV (ci := 10) hR hK (hR.2.2.2.2.1.1) rfl) rfl rfl hl.1 rfl (lv_room (Nat.le_of_ble_eq_true rfl)) dX10_command_84 ⟨by show _ ≤ 0; omega, by show _ ≤ 0; omega⟩) hS (fun w14 H locs hp hR hS => ?_)
      subst hp
      refine lv_istore_n (lv' := [(3, .int r11), (2, .int (-1000 : Int32)), (0, .ref (G.2.2 + 54)), (1, .int p1)]) hx hb dX10_command_87 rfl hl (by decide) rfl (fun ls hl => ?_)
      refine lv_iload_n hx hb dX10_command_88 rfl (lv_at hl 0 rfl) ?_
      refine lv_if_ne (tgt := 103) hx hb dX10_command_89 (by decide) (fun c15 => ?_) (fun c15 => ?_)
      · replace hf := g_it hf c15
        exact hB103 _ _ _ _ _ _ _ hf  hR hS (lv_sub hl [2, 3, 1, 0] rfl)
      · replace hf := g_if hf (fun q => q c15)
        refine lv_aload_n hx hb dX10_command_92 rfl (lv_at hl 2 rfl) ?_
        refine lv_bipush (v := 111) hx hb dX10_command_93 (by decide) ?_
        obtain ⟨r75, z76, hc77, hf⟩ := g_bd_e hf
        refine g_call (va_runV (As := [.int (111 : Int32)]) (rest := []) ⟨hx, hb, hml, hown, hts⟩ (c10_stands l G E μ _ _ _ _ hc77) (cwV 1 hts gX10_command_X10_stands rfl rfl rfl (by decide +kernel) ⟨Nat.le_of_ble_eq_true rfl, Nat.le_of_ble_eq_true rfl⟩) (g_preV (ci := 10) hR hK (hR.2.2.2.2.1.1) rfl) rfl rfl hl.1 rfl (lv_room (Nat.le_of_ble_eq_true rfl)) dX10_command_95 ⟨by show _ ≤ 0; omega, by show _ ≤ 0; omega⟩) hS (fun w78 H locs hp hR hS => ?_)
        subst hp
        refine lv_if_ne (tgt := 103) hx hb dX10_command_98 (by decide) (fun c79 => ?_) (fun c79 => ?_)
        · replace hf := g_it hf c79
          exact hB103 _ _ _ _ _ _ _ hf  hR hS (lv_sub hl [2, 3, 1, 0] rfl)
        · replace hf := g_if hf (fun q => q c79)
          refine lv_iload_n hx hb dX10_command_101 rfl (lv_at hl 1 rfl) ?_
          obtain ⟨rfl, rfl⟩ := g_sp hf
          exact g_iret hx hb hlocks hr hS hR g_le.rf ⟨rfl, rfl⟩ (by omega) (by omega) dX10_command_102
    · replace hf := g_if hf c10
      refine lv_aload_n hx hb dX10_command_51 rfl (lv_at hl 1 rfl) ?_
      refine lv_iconst (v := 1) hx hb dX10_command_52 (by decide) ?_
      refine lv_bipush (v := 99) hx hb dX10_command_53 (by decide) ?_
      obtain ⟨r80, z81, hc82, hf⟩ := g_bd_e hf
      refine g_call (va_runV (As := [.int (1 : Int32), .int (99 : Int32)]) (rest := []) ⟨hx, hb, hml, hown, hts⟩ (c10_number l G E μ _ _ _ _ _ hc82) (cwV 2 hts gX10_command_X10_number rfl rfl rfl (by decide +kernel) ⟨Nat.le_of_ble_eq_true rfl, Nat.le_of_ble_eq_true rfl⟩) (g_preV (ci := 10) hR hK (hR.2.2.2.2.1.1) rfl) rfl rfl hl.1 rfl (lv_room (Nat.le_of_ble_eq_true rfl)) dX10_command_55 ⟨by show _ ≤ 0; omega, by show _ ≤ 0; omega⟩) hS (fun w83 H locs hp hR hS => ?_)
      subst hp
      refine lv_istore_n (lv' := [(3, .int r80), (2, .int (-1000 : Int32)), (0, .ref (G.2.2 + 54)), (1, .int p1)]) hx hb dX10_command_58 rfl hl (by decide) rfl (fun ls hl => ?_)
      refine lv_iload_n hx hb dX10_command_59 rfl (lv_at hl 0 rfl) ?_
      refine lv_if_ge (tgt := 67) hx hb dX10_command_60 (by decide) (fun c84 => ?_) (fun c84 => ?_)
      · replace hf := g_it hf c84
        refine lv_iload_n hx hb dX10_command_67 rfl (lv_at hl 3 rfl) ?_
        refine lv_if_eq (tgt := 79) hx hb dX10_command_68 (by decide) (fun c85 => ?_) (fun c85 => ?_)
        · replace hf := g_it hf c85
          refine lv_iconst (v := 0) hx hb dX10_command_79 (by decide) ?_
          obtain ⟨rfl, rfl⟩ := g_sp hf
          exact g_iret hx hb hlocks hr hS hR g_le.rf ⟨rfl, rfl⟩ (by omega) (by omega) dX10_command_80
        · replace hf := g_if hf c85
          refine lv_aload_n hx hb dX10_command_71 rfl (lv_at hl 2 rfl) ?_
          refine lv_iload_n hx hb dX10_command_72 rfl (lv_at hl 0 rfl) ?_
          obtain ⟨r86, z87, hc88, hf⟩ := g_bd_e hf
          refine g_call (va_runV (As := [.int r80]) (rest := []) ⟨hx, hb, hml, hown, hts⟩ (c10_passes l G E μ _ _ _ _ hc88) (cwV 1 hts gX10_command_X10_passes rfl rfl rfl (by decide +kernel) ⟨Nat.le_of_ble_eq_true rfl, Nat.le_of_ble_eq_true rfl⟩) (g_preV (ci := 10) hR hK (hR.2.2.2.2.1.1) rfl) rfl rfl hl.1 rfl (lv_room (Nat.le_of_ble_eq_true rfl)) dX10_command_73 ⟨by show _ ≤ 0; omega, by show _ ≤ 0; omega⟩) hS (fun w89 H locs hp hR hS => ?_)
          subst hp
          refine lv_goto (tgt := 80) hx hb dX10_command_76 (by decide) ?_
          obtain ⟨rfl, rfl⟩ := g_sp hf
          exact g_iret hx hb hlocks hr hS hR g_le.rf ⟨rfl, rfl⟩ (by omega) (by omega) dX10_command_80
      · replace hf := g_if hf c84
        refine lv_iload_n hx hb dX10_command_63 rfl (lv_at hl 1 rfl) ?_
        refine lv_goto (tgt := 80) hx hb dX10_command_64 (by decide) ?_
        obtain ⟨rfl, rfl⟩ := g_sp hf
        exact g_iret hx hb hlocks hr hS hR g_le.rf ⟨rfl, rfl⟩ (by omega) (by omega) dX10_command_80
  · replace hf := g_if hf c5
    refine lv_aload_n hx hb dX10_command_13 rfl (lv_at hl 1 rfl) ?_
    refine lv_iconst (v := 0) hx hb dX10_command_14 (by decide) ?_
    refine lv_iconst (v := 2) hx hb dX10_command_15 (by decide) ?_
    obtain ⟨r90, z91, hc92, hf⟩ := g_bd_e hf
    refine g_call (va_runV (As := [.int (0 : Int32), .int (2 : Int32)]) (rest := []) ⟨hx, hb, hml, hown, hts⟩ (c10_number l G E μ _ _ _ _ _ hc92) (cwV 2 hts gX10_command_X10_number rfl rfl rfl (by decide +kernel) ⟨Nat.le_of_ble_eq_true rfl, Nat.le_of_ble_eq_true rfl⟩) (g_preV (ci := 10) hR hK (hR.2.2.2.2.1.1) rfl) rfl rfl hl.1 rfl (lv_room (Nat.le_of_ble_eq_true rfl)) dX10_command_16 ⟨by show _ ≤ 0; omega, by show _ ≤ 0; omega⟩) hS (fun w93 H locs hp hR hS => ?_)
    subst hp
    refine lv_istore_n (lv' := [(3, .int r90), (2, .int (-1000 : Int32)), (0, .ref (G.2.2 + 54)), (1, .int p1)]) hx hb dX10_command_19 rfl hl (by decide) rfl (fun ls hl => ?_)
    refine lv_iload_n hx hb dX10_command_20 rfl (lv_at hl 0 rfl) ?_
    refine lv_if_ge (tgt := 28) hx hb dX10_command_21 (by decide) (fun c94 => ?_) (fun c94 => ?_)
    · replace hf := g_it hf c94
      refine lv_iload_n hx hb dX10_command_28 rfl (lv_at hl 3 rfl) ?_
      refine lv_if_eq (tgt := 40) hx hb dX10_command_29 (by decide) (fun c95 => ?_) (fun c95 => ?_)
      · replace hf := g_it hf c95
        refine lv_iconst (v := 0) hx hb dX10_command_40 (by decide) ?_
        obtain ⟨rfl, rfl⟩ := g_sp hf
        exact g_iret hx hb hlocks hr hS hR g_le.rf ⟨rfl, rfl⟩ (by omega) (by omega) dX10_command_41
      · replace hf := g_if hf c95
        refine lv_aload_n hx hb dX10_command_32 rfl (lv_at hl 2 rfl) ?_
        refine lv_iload_n hx hb dX10_command_33 rfl (lv_at hl 0 rfl) ?_
        obtain ⟨r96, z97, hc98, hf⟩ := g_bd_e hf
        refine g_call (va_runV (As := [.int r90]) (rest := []) ⟨hx, hb, hml, hown, hts⟩ (c10_plans l G E μ _ _ _ _ hc98) (cwV 1 hts gX10_command_X10_plans rfl rfl rfl (by decide +kernel) ⟨Nat.le_of_ble_eq_true rfl, Nat.le_of_ble_eq_true rfl⟩) (g_preV (ci := 10) hR hK (hR.2.2.2.2.1.1) rfl) rfl rfl hl.1 rfl (lv_room (Nat.le_of_ble_eq_true rfl)) dX10_command_34 ⟨by show _ ≤ 0; omega, by show _ ≤ 0; omega⟩) hS (fun w99 H locs hp hR hS => ?_)
        subst hp
        refine lv_goto (tgt := 41) hx hb dX10_command_37 (by decide) ?_
        obtain ⟨rfl, rfl⟩ := g_sp hf
        exact g_iret hx hb hlocks hr hS hR g_le.rf ⟨rfl, rfl⟩ (by omega) (by omega) dX10_command_41
    · replace hf := g_if hf c94
      refine lv_iload_n hx hb dX10_command_24 rfl (lv_at hl 1 rfl) ?_
      refine lv_goto (tgt := 41) hx hb dX10_command_25 (by decide) ?_
      obtain ⟨rfl, rfl⟩ := g_sp hf
      exact g_iret hx hb hlocks hr hS hR g_le.rf ⟨rfl, rfl⟩ (by omega) (by omega) dX10_command_41
set_option maxHeartbeats 4000000 in
set_option maxRecDepth 100000 in
theorem c10_commands (l : Launch) (G : gG) (E : gEn) (μ : gMu) (z0 : gMo)  (ro : Int32) (zo : gMo) (hf : f10_commands z0 = some (ro, zo)) : Met l yX10_commands wsX10_commands ({ frames := 10, cells := 0, slots := 0, locals := 247 } : Room) (g_Pre G E (g_setM μ z0) [.ref (G.2.2 + 54)]) (g_Q G E (g_setM μ zo) (fun E' v => E' = E ∧ v = some (.int ro))) 0 0 (g_A G) := by
  refine Met.ofW (cc := cX10_commands) (maxL := 2) (ret := some .int) (by decide) rfl ?_
  intro p e s m args below meth c s₁ B hml hv
  obtain ⟨rfl, hR, hK⟩ := hv
  have hx := B.exec
  have hb := B.bytes
  have hr := B.returns
  have hts := atoms_spec (ws := wsX10_commands) B.pre
  have hown : s.vm.findClass RX10 = some m.cls := findClass_of_methodNamed B.named
  have hlocks := B.notSynchronized
  have hS : va_S (g_A G) s.heap s.heap [] := va_S.rf
  have hl := lv_entry ([.ref (G.2.2 + 54)]) (n := 2) (Nat.le_of_ble_eq_true rfl)
  rw [lg_entry_eq]
  generalize (lg_sl ([.ref (G.2.2 + 54)]) ++ List.replicate (2 - (lg_sl ([.ref (G.2.2 + 54)])).length) Slot.unset).toArray = ls at hl ⊢
  have hl : lv_has ls 2 [(0, .ref (G.2.2 + 54))] := hl
  have in_10 : ∀ w ∈ u_ws RX10 TX10 9, w ∈ wsX10_commands := ifX10_commands_10
  have l_146 := hts (.fieldLink RX10 146 "GlassRacksModel" "at" "I") (by decide +kernel)
  have l_149 := hts (.fieldLink RX10 149 "GlassRacksModel" "length" "I") (by decide +kernel)
  have hB7 : ∀ (n : Nat) (z0 : gMo) (x1 : Int32) (H : Heap) (locs : List Loc) (ls : Array Slot), f10_commands_7 n z0 x1 = some (ro, zo) → g_R G E (g_setM μ z0) H → va_S (g_A G) s.heap H locs → lv_has ls 2 [(0, .ref (G.2.2 + 54)), (1, .int x1)] → W p l e (headSpec wsX10_commands ({ frames := 10, cells := 0, slots := 0, locals := 247 } : Room)).room s m ([.ref (G.2.2 + 54)] : List Value).toArray below meth c H locs 0 0 (MQ below (g_Q G E (g_setM μ zo) (fun E' v => E' = E ∧ v = some (.int ro))) ([.ref (G.2.2 + 54)] : List Value).toArray s 0 0 (g_A G)) (F0 m 7 ls []) := by
    intro n
    induction n with
    | zero =>
      intro z0 x1 H locs ls hf
      rw [f10_commands_7] at hf
      cases hf
    | succ n ih =>
      intro z0 x1 H locs ls hf  hR hS hl
      rw [f10_commands_7] at hf
      refine lv_aload_n hx hb dX10_commands_7 rfl (lv_at hl 0 rfl) ?_
      refine lv_iconst (v := 0) hx hb dX10_commands_8 (by decide) ?_
      obtain ⟨r2, z3, hc4, hf⟩ := g_bd_e hf
      refine g_call (va_runV (As := [.int (0 : Int32)]) (rest := []) ⟨hx, hb, hml, hown, hts⟩ (c10_command l G E μ _ _ _ _ hc4) (cwV 1 hts gX10_commands_X10_command rfl rfl rfl (by decide +kernel) ⟨Nat.le_of_ble_eq_true rfl, Nat.le_of_ble_eq_true rfl⟩) (g_preV (ci := 10) hR hK (hR.2.2.2.2.1.1) rfl) rfl rfl hl.1 rfl (lv_room (Nat.le_of_ble_eq_true rfl)) dX10_commands_9 ⟨by show _ ≤ 0; omega, by show _ ≤ 0; omega⟩) hS (fun w5 H locs hp hR hS => ?_)
      subst hp
      refine lv_if_lt (tgt := 42) hx hb dX10_commands_12 (by decide) (fun c6 => ?_) (fun c6 => ?_)
      · replace hf := g_it hf c6
        refine lv_iconst (v := 0) hx hb dX10_commands_42 (by decide) ?_
        obtain ⟨rfl, rfl⟩ := g_sp hf
        exact g_iret hx hb hlocks hr hS hR g_le.rf ⟨rfl, rfl⟩ (by omega) (by omega) dX10_commands_43
      · replace hf := g_if hf c6
        refine lv_iinc (v := x1 + 1) (lv' := [(1, .int (x1 + 1)), (0, .ref (G.2.2 + 54))]) hx hb dX10_commands_15 hl (k := 1) rfl rfl (by decide) rfl (fun ls hl => ?_)
        refine lv_aload_n hx hb dX10_commands_18 rfl (lv_at hl 1 rfl) ?_
        refine g_get hx hb hts in_10 hown hK hR.2.2.2.2.1.1 rfl 8 (by decide) l_146 rfl rfl dX10_commands_19 ?_
        refine lv_aload_n hx hb dX10_commands_22 rfl (lv_at hl 1 rfl) ?_
        refine g_get hx hb hts in_10 hown hK hR.2.2.2.2.1.1 rfl 6 (by decide) l_149 rfl rfl dX10_commands_23 ?_
        refine lv_icmp_ne (tgt := 31) hx hb dX10_commands_26 (by decide) (fun c7 => ?_) (fun c7 => ?_)
        · replace hf := g_it hf c7
          refine lv_aload_n hx hb dX10_commands_31 rfl (lv_at hl 1 rfl) ?_
          refine lv_bipush (v := 59) hx hb dX10_commands_32 (by decide) ?_
          obtain ⟨r8, z9, hc10, hf⟩ := g_bd_e hf
          refine g_call (va_runV (As := [.int (59 : Int32)]) (rest := []) ⟨hx, hb, hml, hown, hts⟩ (c10_stands l G E μ _ _ _ _ hc10) (cwV 1 hts gX10_commands_X10_stands rfl rfl rfl (by decide +kernel) ⟨Nat.le_of_ble_eq_true rfl, Nat.le_of_ble_eq_true rfl⟩) (g_preV (ci := 10) hR hK (hR.2.2.2.2.1.1) rfl) rfl rfl hl.1 rfl (lv_room (Nat.le_of_ble_eq_true rfl)) dX10_commands_34 ⟨by show _ ≤ 0; omega, by show _ ≤ 0; omega⟩) hS (fun w11 H locs hp hR hS => ?_)
          subst hp
          refine lv_if_ne (tgt := 7) hx hb dX10_commands_37 (by decide) (fun c12 => ?_) (fun c12 => ?_)
          · replace hf := g_it hf c12
            exact ih _ _ _ _ _ hf  hR hS (lv_sub hl [1, 0] rfl)
          · replace hf := g_if hf (fun q => q c12)
            refine lv_iconst (v := 0) hx hb dX10_commands_40 (by decide) ?_
            obtain ⟨rfl, rfl⟩ := g_sp hf
            exact g_iret hx hb hlocks hr hS hR g_le.rf ⟨rfl, rfl⟩ (by omega) (by omega) dX10_commands_41
        · replace hf := g_if hf (fun q => q c7)
          refine lv_iload_n hx hb dX10_commands_29 rfl (lv_at hl 0 rfl) ?_
          obtain ⟨rfl, rfl⟩ := g_sp hf
          exact g_iret hx hb hlocks hr hS hR g_le.rf ⟨rfl, rfl⟩ (by omega) (by omega) dX10_commands_30
  unfold f10_commands at hf
  refine lv_aload_n hx hb dX10_commands_0 rfl (lv_at hl 0 rfl) ?_
  refine lv_iconst (v := 0) hx hb dX10_commands_1 (by decide) ?_
  refine g_p10_8 hx hb hts in_10 hown hK hS hR l_146 dX10_commands_2 (fun H locs hR hS => ?_)
  obtain ⟨z1, ez1, hf⟩ := g_let_e hf
  replace hR : g_R G E (g_setM μ z1) H := by rw [ez1]; exact hR
  refine lv_iconst (v := 0) hx hb dX10_commands_5 (by decide) ?_
  refine lv_istore_n (lv' := [(1, .int (0 : Int32)), (0, .ref (G.2.2 + 54))]) hx hb dX10_commands_6 rfl hl (by decide) rfl (fun ls hl => ?_)
  exact hB7 70 _ _ _ _ _ hf  hR hS (lv_sub hl [1, 0] rfl)
set_option maxHeartbeats 4000000 in
set_option maxRecDepth 100000 in
theorem c10_count (l : Launch) (G : gG) (E : gEn) (μ : gMu) (z0 : gMo) (p1 : Int32) (ro : Int32) (hf : f10_count z0 p1 = some ro) : Met l yX10_count wsX10_count ({ frames := 4, cells := 0, slots := 0, locals := 86 } : Room) (g_Pre G E (g_setM μ z0) [.ref (G.2.2 + 54), .int p1]) (g_Q G E (g_setM μ z0) (fun E' v => E' = E ∧ v = some (.int ro))) 0 0 (g_A G) := by
  refine Met.ofW (cc := cX10_count) (maxL := 6) (ret := some .int) (by decide) rfl ?_
  intro p e s m args below meth c s₁ B hml hv
  obtain ⟨rfl, hR, hK⟩ := hv
  have hx := B.exec
  have hb := B.bytes
  have hr := B.returns
  have hts := atoms_spec (ws := wsX10_count) B.pre
  have hown : s.vm.findClass RX10 = some m.cls := findClass_of_methodNamed B.named
  have hlocks := B.notSynchronized
  have hS : va_S (g_A G) s.heap s.heap [] := va_S.rf
  have hl := lv_entry ([.ref (G.2.2 + 54), .int p1]) (n := 6) (Nat.le_of_ble_eq_true rfl)
  rw [lg_entry_eq]
  generalize (lg_sl ([.ref (G.2.2 + 54), .int p1]) ++ List.replicate (6 - (lg_sl ([.ref (G.2.2 + 54), .int p1])).length) Slot.unset).toArray = ls at hl ⊢
  have hl : lv_has ls 6 [(0, .ref (G.2.2 + 54)), (1, .int p1)] := hl
  have in_10 : ∀ w ∈ u_ws RX10 TX10 9, w ∈ wsX10_count := ifX10_count_10
  have l_149 := hts (.fieldLink RX10 149 "GlassRacksModel" "length" "I") (by decide +kernel)
  have l_25 := hts (.fieldLink RX10 25 "GlassRacksModel" "kept" "I") (by decide +kernel)
  have l_7 := hts (.fieldLink RX10 7 "GlassRacksModel" "now" "[I") (by decide +kernel)
  have hB7 : ∀ (n : Nat) (z0 : gMo) (x1 : Int32) (x2 : Int32) (x3 : Int32) (x4 : Int32) (H : Heap) (locs : List Loc) (ls : Array Slot), f10_count_7 n z0 x1 x2 x3 x4 = some ro → g_R G E (g_setM μ z0) H → va_S (g_A G) s.heap H locs → lv_has ls 6 [(0, .ref (G.2.2 + 54)), (1, .int x1), (2, .int x2), (3, .int x3), (4, .int x4)] → W p l e (headSpec wsX10_count ({ frames := 4, cells := 0, slots := 0, locals := 86 } : Room)).room s m ([.ref (G.2.2 + 54), .int p1] : List Value).toArray below meth c H locs 0 0 (MQ below (g_Q G E (g_setM μ z0) (fun E' v => E' = E ∧ v = some (.int ro))) ([.ref (G.2.2 + 54), .int p1] : List Value).toArray s 0 0 (g_A G)) (F0 m 7 ls []) := by
    intro n
    induction n with
    | zero =>
      intro z0 x1 x2 x3 x4 H locs ls hf
      rw [f10_count_7] at hf
      cases hf
    | succ n ih =>
      intro z0 x1 x2 x3 x4 H locs ls hf  hR hS hl
      rw [f10_count_7] at hf
      refine lv_iload hx hb dX10_count_7 (lv_at hl 4 rfl) ?_
      refine lv_aload_n hx hb dX10_count_9 rfl (lv_at hl 0 rfl) ?_
      refine g_get hx hb hts in_10 hown hK hR.2.2.2.2.1.1 rfl 0 (by decide) l_7 rfl rfl dX10_count_10 ?_
      refine lv_bipush (v := 8) hx hb dX10_count_13 (by decide) ?_
      refine g_aild hx hb hK hR (by decide) (by decide) dX10_count_15 ?_
      refine lv_icmp_ge (tgt := 73) hx hb dX10_count_16 (by decide) (fun c1 => ?_) (fun c1 => ?_)
      · replace hf := g_it hf c1
        refine lv_iload_n hx hb dX10_count_73 rfl (lv_at hl 1 rfl) ?_
        refine lv_bipush (v := 20) hx hb dX10_count_74 (by decide) ?_
        refine lv_bipush (v := 24) hx hb dX10_count_76 (by decide) ?_
        obtain ⟨r2, hc3, hf⟩ := g_b1_e hf
        refine g_call (va_runS (As := [.int x1, .int (20 : Int32), .int (24 : Int32)]) (rest := []) ⟨hx, hb, hml, hown, hts⟩ (c10_in l G E (g_setM μ z0) _ _ _ _ hc3) (cwS 3 hts gX10_count_X10_in rfl rfl rfl (by decide +kernel) ⟨Nat.le_of_ble_eq_true rfl, Nat.le_of_ble_eq_true rfl⟩) (g_pre hR hK) rfl rfl hl.1 rfl (lv_room (Nat.le_of_ble_eq_true rfl)) dX10_count_78 ⟨by show _ ≤ 0; omega, by show _ ≤ 0; omega⟩) hS (fun w4 H locs hp hR hS => ?_)
        subst hp
        refine lv_if_eq (tgt := 93) hx hb dX10_count_81 (by decide) (fun c5 => ?_) (fun c5 => ?_)
        · replace hf := g_it hf c5
          refine lv_iload_n hx hb dX10_count_93 rfl (lv_at hl 1 rfl) ?_
          refine lv_iconst (v := 0) hx hb dX10_count_94 (by decide) ?_
          refine lv_bipush (v := 14) hx hb dX10_count_95 (by decide) ?_
          obtain ⟨r6, hc7, hf⟩ := g_b1_e hf
          refine g_call (va_runS (As := [.int x1, .int (0 : Int32), .int (14 : Int32)]) (rest := []) ⟨hx, hb, hml, hown, hts⟩ (c10_in l G E (g_setM μ z0) _ _ _ _ hc7) (cwS 3 hts gX10_count_X10_in rfl rfl rfl (by decide +kernel) ⟨Nat.le_of_ble_eq_true rfl, Nat.le_of_ble_eq_true rfl⟩) (g_pre hR hK) rfl rfl hl.1 rfl (lv_room (Nat.le_of_ble_eq_true rfl)) dX10_count_97 ⟨by show _ ≤ 0; omega, by show _ ≤ 0; omega⟩) hS (fun w8 H locs hp hR hS => ?_)
          subst hp
          refine lv_if_ne (tgt := 106) hx hb dX10_count_100 (by decide) (fun c9 => ?_) (fun c9 => ?_)
          · replace hf := g_it hf c9
            refine lv_iload_n hx hb dX10_count_106 rfl (lv_at hl 1 rfl) ?_
            refine lv_iconst (v := 3) hx hb dX10_count_107 (by decide) ?_
            refine lv_icmp_ge (tgt := 135) hx hb dX10_count_108 (by decide) (fun c10 => ?_) (fun c10 => ?_)
            · replace hf := g_it hf c10
              refine lv_iload_n hx hb dX10_count_135 rfl (lv_at hl 1 rfl) ?_
              refine lv_bipush (v := 10) hx hb dX10_count_136 (by decide) ?_
              refine lv_icmp_ge (tgt := 150) hx hb dX10_count_138 (by decide) (fun c11 => ?_) (fun c11 => ?_)
              · replace hf := g_it hf c11
                refine lv_iload_n hx hb dX10_count_150 rfl (lv_at hl 1 rfl) ?_
                refine lv_bipush (v := 10) hx hb dX10_count_151 (by decide) ?_
                refine lv_icmp_ne (tgt := 163) hx hb dX10_count_153 (by decide) (fun c12 => ?_) (fun c12 => ?_)
                · replace hf := g_it hf c12
                  refine lv_iload_n hx hb dX10_count_163 rfl (lv_at hl 1 rfl) ?_
                  refine lv_bipush (v := 11) hx hb dX10_count_164 (by decide) ?_
                  refine lv_icmp_ne (tgt := 176) hx hb dX10_count_166 (by decide) (fun c13 => ?_) (fun c13 => ?_)
                  · replace hf := g_it hf c13
                    refine lv_iload_n hx hb dX10_count_176 rfl (lv_at hl 1 rfl) ?_
                    refine lv_bipush (v := 12) hx hb dX10_count_177 (by decide) ?_
                    refine lv_icmp_ne (tgt := 192) hx hb dX10_count_179 (by decide) (fun c14 => ?_) (fun c14 => ?_)
                    · replace hf := g_it hf c14
                      refine lv_iload_n hx hb dX10_count_192 rfl (lv_at hl 1 rfl) ?_
                      refine lv_bipush (v := 13) hx hb dX10_count_193 (by decide) ?_
                      refine lv_icmp_ne (tgt := 205) hx hb dX10_count_195 (by decide) (fun c15 => ?_) (fun c15 => ?_)
                      · replace hf := g_it hf c15
                        refine lv_aload_n hx hb dX10_count_205 rfl (lv_at hl 0 rfl) ?_
                        refine g_get hx hb hts in_10 hown hK hR.2.2.2.2.1.1 rfl 6 (by decide) l_149 rfl rfl dX10_count_206 ?_
                        obtain rfl := g_s1 hf
                        exact g_iret hx hb hlocks hr hS hR g_le.rf ⟨rfl, rfl⟩ (by omega) (by omega) dX10_count_209
                      · replace hf := g_if hf (fun q => q c15)
                        refine lv_aload_n hx hb dX10_count_198 rfl (lv_at hl 0 rfl) ?_
                        refine g_get hx hb hts in_10 hown hK hR.2.2.2.2.1.1 rfl 5 (by decide) l_25 rfl rfl dX10_count_199 ?_
                        refine lv_goto (tgt := 209) hx hb dX10_count_202 (by decide) ?_
                        obtain rfl := g_s1 hf
                        exact g_iret hx hb hlocks hr hS hR g_le.rf ⟨rfl, rfl⟩ (by omega) (by omega) dX10_count_209
                    · replace hf := g_if hf (fun q => q c14)
                      refine lv_aload_n hx hb dX10_count_182 rfl (lv_at hl 0 rfl) ?_
                      refine g_get hx hb hts in_10 hown hK hR.2.2.2.2.1.1 rfl 0 (by decide) l_7 rfl rfl dX10_count_183 ?_
                      refine lv_bipush (v := 8) hx hb dX10_count_186 (by decide) ?_
                      refine g_aild hx hb hK hR (by decide) (by decide) dX10_count_188 ?_
                      refine lv_goto (tgt := 209) hx hb dX10_count_189 (by decide) ?_
                      obtain rfl := g_s1 hf
                      exact g_iret hx hb hlocks hr hS hR g_le.rf ⟨rfl, rfl⟩ (by omega) (by omega) dX10_count_209
                  · replace hf := g_if hf (fun q => q c13)
                    refine lv_aload_n hx hb dX10_count_169 rfl (lv_at hl 0 rfl) ?_
                    obtain ⟨r16, hc17, hf⟩ := g_b1_e hf
                    refine g_call (va_runV (As := []) (rest := []) ⟨hx, hb, hml, hown, hts⟩ (c10_late l G E μ _ _ hc17) (cwV 0 hts gX10_count_X10_late rfl rfl rfl (by decide +kernel) ⟨Nat.le_of_ble_eq_true rfl, Nat.le_of_ble_eq_true rfl⟩) (g_preV (ci := 10) hR hK (hR.2.2.2.2.1.1) rfl) rfl rfl hl.1 rfl (lv_room (Nat.le_of_ble_eq_true rfl)) dX10_count_170 ⟨by show _ ≤ 0; omega, by show _ ≤ 0; omega⟩) hS (fun w18 H locs hp hR hS => ?_)
                    subst hp
                    refine lv_goto (tgt := 209) hx hb dX10_count_173 (by decide) ?_
                    obtain rfl := g_s1 hf
                    exact g_iret hx hb hlocks hr hS hR g_le.rf ⟨rfl, rfl⟩ (by omega) (by omega) dX10_count_209
                · replace hf := g_if hf (fun q => q c12)
                  refine lv_aload_n hx hb dX10_count_156 rfl (lv_at hl 0 rfl) ?_
                  obtain ⟨r19, hc20, hf⟩ := g_b1_e hf
                  refine g_call (va_runV (As := []) (rest := []) ⟨hx, hb, hml, hown, hts⟩ (c10_open l G E μ _ _ hc20) (cwV 0 hts gX10_count_X10_open rfl rfl rfl (by decide +kernel) ⟨Nat.le_of_ble_eq_true rfl, Nat.le_of_ble_eq_true rfl⟩) (g_preV (ci := 10) hR hK (hR.2.2.2.2.1.1) rfl) rfl rfl hl.1 rfl (lv_room (Nat.le_of_ble_eq_true rfl)) dX10_count_157 ⟨by show _ ≤ 0; omega, by show _ ≤ 0; omega⟩) hS (fun w21 H locs hp hR hS => ?_)
                  subst hp
                  refine lv_goto (tgt := 209) hx hb dX10_count_160 (by decide) ?_
                  obtain rfl := g_s1 hf
                  exact g_iret hx hb hlocks hr hS hR g_le.rf ⟨rfl, rfl⟩ (by omega) (by omega) dX10_count_209
              · replace hf := g_if hf c11
                refine lv_aload_n hx hb dX10_count_141 rfl (lv_at hl 0 rfl) ?_
                refine g_get hx hb hts in_10 hown hK hR.2.2.2.2.1.1 rfl 0 (by decide) l_7 rfl rfl dX10_count_142 ?_
                refine lv_iload_n hx hb dX10_count_145 rfl (lv_at hl 1 rfl) ?_
                refine lv_iconst (v := 2) hx hb dX10_count_146 (by decide) ?_
                refine lv_isub hx hb dX10_count_147 ?_
                obtain ⟨hg22, hf⟩ := g_gd hf
                refine g_aild hx hb hK hR (by decide) hg22 dX10_count_148 ?_
                obtain rfl := g_s1 hf
                exact g_iret hx hb hlocks hr hS hR g_le.rf ⟨rfl, rfl⟩ (by omega) (by omega) dX10_count_149
            · replace hf := g_if hf c10
              refine lv_iload_n hx hb dX10_count_111 rfl (lv_at hl 1 rfl) ?_
              refine lv_if_ne (tgt := 124) hx hb dX10_count_112 (by decide) (fun c23 => ?_) (fun c23 => ?_)
              · replace hf := g_it hf c23
                refine lv_iload_n hx hb dX10_count_124 rfl (lv_at hl 1 rfl) ?_
                refine lv_iconst (v := 1) hx hb dX10_count_125 (by decide) ?_
                refine lv_icmp_ne (tgt := 133) hx hb dX10_count_126 (by decide) (fun c24 => ?_) (fun c24 => ?_)
                · replace hf := g_it hf c24
                  refine lv_iload_n hx hb dX10_count_133 rfl (lv_at hl 3 rfl) ?_
                  obtain rfl := g_s1 hf
                  exact g_iret hx hb hlocks hr hS hR g_le.rf ⟨rfl, rfl⟩ (by omega) (by omega) dX10_count_134
                · replace hf := g_if hf (fun q => q c24)
                  refine lv_iload_n hx hb dX10_count_129 rfl (lv_at hl 2 rfl) ?_
                  refine lv_goto (tgt := 134) hx hb dX10_count_130 (by decide) ?_
                  obtain rfl := g_s1 hf
                  exact g_iret hx hb hlocks hr hS hR g_le.rf ⟨rfl, rfl⟩ (by omega) (by omega) dX10_count_134
              · replace hf := g_if hf (fun q => q c23)
                refine lv_aload_n hx hb dX10_count_115 rfl (lv_at hl 0 rfl) ?_
                refine g_get hx hb hts in_10 hown hK hR.2.2.2.2.1.1 rfl 0 (by decide) l_7 rfl rfl dX10_count_116 ?_
                refine lv_iconst (v := 0) hx hb dX10_count_119 (by decide) ?_
                refine g_aild hx hb hK hR (by decide) (by decide) dX10_count_120 ?_
                refine lv_goto (tgt := 134) hx hb dX10_count_121 (by decide) ?_
                obtain rfl := g_s1 hf
                exact g_iret hx hb hlocks hr hS hR g_le.rf ⟨rfl, rfl⟩ (by omega) (by omega) dX10_count_134
          · replace hf := g_if hf (fun q => q c9)
            refine lv_bipush (v := -2) hx hb dX10_count_103 (by decide) ?_
            obtain rfl := g_s1 hf
            exact g_iret hx hb hlocks hr hS hR g_le.rf ⟨rfl, rfl⟩ (by omega) (by omega) dX10_count_105
        · replace hf := g_if hf c5
          refine lv_aload_n hx hb dX10_count_84 rfl (lv_at hl 0 rfl) ?_
          refine lv_iload_n hx hb dX10_count_85 rfl (lv_at hl 1 rfl) ?_
          refine lv_bipush (v := 20) hx hb dX10_count_86 (by decide) ?_
          refine lv_isub hx hb dX10_count_88 ?_
          obtain ⟨r25, hc26, hf⟩ := g_b1_e hf
          refine g_call (va_runV (As := [.int (x1 - (20 : Int32))]) (rest := []) ⟨hx, hb, hml, hown, hts⟩ (c10_setting l G E μ _ _ _ hc26) (cwV 1 hts gX10_count_X10_setting rfl rfl rfl (by decide +kernel) ⟨Nat.le_of_ble_eq_true rfl, Nat.le_of_ble_eq_true rfl⟩) (g_preV (ci := 10) hR hK (hR.2.2.2.2.1.1) rfl) rfl rfl hl.1 rfl (lv_room (Nat.le_of_ble_eq_true rfl)) dX10_count_89 ⟨by show _ ≤ 0; omega, by show _ ≤ 0; omega⟩) hS (fun w27 H locs hp hR hS => ?_)
          subst hp
          obtain rfl := g_s1 hf
          exact g_iret hx hb hlocks hr hS hR g_le.rf ⟨rfl, rfl⟩ (by omega) (by omega) dX10_count_92
      · replace hf := g_if hf c1
        refine lv_aload_n hx hb dX10_count_19 rfl (lv_at hl 0 rfl) ?_
        refine lv_iload hx hb dX10_count_20 (lv_at hl 4 rfl) ?_
        refine lv_iconst (v := 3) hx hb dX10_count_22 (by decide) ?_
        obtain ⟨r28, hc29, hf⟩ := g_b1_e hf
        refine g_call (va_runV (As := [.int x4, .int (3 : Int32)]) (rest := []) ⟨hx, hb, hml, hown, hts⟩ (c10_its l G E μ _ _ _ _ hc29) (cwV 2 hts gX10_count_X10_its rfl rfl rfl (by decide +kernel) ⟨Nat.le_of_ble_eq_true rfl, Nat.le_of_ble_eq_true rfl⟩) (g_preV (ci := 10) hR hK (hR.2.2.2.2.1.1) rfl) rfl rfl hl.1 rfl (lv_room (Nat.le_of_ble_eq_true rfl)) dX10_count_23 ⟨by show _ ≤ 0; omega, by show _ ≤ 0; omega⟩) hS (fun w30 H locs hp hR hS => ?_)
        subst hp
        refine lv_if_lt (tgt := 33) hx hb dX10_count_26 (by decide) (fun c31 => ?_) (fun c31 => ?_)
        · replace hf := g_it hf c31
          refine lv_iconst (v := 0) hx hb dX10_count_33 (by decide) ?_
          refine lv_istore (lv' := [(5, .int (0 : Int32)), (0, .ref (G.2.2 + 54)), (1, .int x1), (2, .int x2), (3, .int x3), (4, .int x4)]) hx hb dX10_count_34 hl (by decide) rfl (fun ls hl => ?_)
          refine lv_iload_n hx hb dX10_count_36 rfl (lv_at hl 3 rfl) ?_
          refine lv_iload hx hb dX10_count_37 (lv_at hl 0 rfl) ?_
          refine lv_if_eq (tgt := 46) hx hb dX10_count_39 (by decide) (fun _ => ?_) (fun c32 => absurd (by decide) c32)
          refine lv_iconst (v := 0) hx hb dX10_count_46 (by decide) ?_
          refine lv_iadd hx hb dX10_count_47 ?_
          refine lv_topi (fun t33 et33 => ?_)
          replace hf := g_let_at hf et33
          refine lv_istore_n (lv' := [(2, .int t33), (5, .int (0 : Int32)), (0, .ref (G.2.2 + 54)), (1, .int x1), (3, .int x3), (4, .int x4)]) hx hb dX10_count_48 rfl hl (by decide) rfl (fun ls hl => ?_)
          refine lv_iload_n hx hb dX10_count_49 rfl (lv_at hl 4 rfl) ?_
          refine lv_iload hx hb dX10_count_50 (lv_at hl 1 rfl) ?_
          refine lv_if_eq (tgt := 64) hx hb dX10_count_52 (by decide) (fun _ => ?_) (fun c34 => absurd (by decide) c34)
          refine lv_iconst (v := 0) hx hb dX10_count_64 (by decide) ?_
          refine lv_iadd hx hb dX10_count_65 ?_
          refine lv_topi (fun t35 et35 => ?_)
          replace hf := g_let_at hf et35
          refine lv_istore_n (lv' := [(3, .int t35), (2, .int t33), (5, .int (0 : Int32)), (0, .ref (G.2.2 + 54)), (1, .int x1), (4, .int x4)]) hx hb dX10_count_66 rfl hl (by decide) rfl (fun ls hl => ?_)
          refine lv_iinc (v := x4 + 1) (lv' := [(4, .int (x4 + 1)), (3, .int t35), (2, .int t33), (5, .int (0 : Int32)), (0, .ref (G.2.2 + 54)), (1, .int x1)]) hx hb dX10_count_67 hl (k := 5) rfl rfl (by decide) rfl (fun ls hl => ?_)
          refine lv_goto (tgt := 7) hx hb dX10_count_70 (by decide) ?_
          exact ih _ _ _ _ _ _ _ _ hf  hR hS (lv_sub hl [4, 5, 2, 1, 0] rfl)
        · replace hf := g_if hf c31
          refine lv_iconst (v := 1) hx hb dX10_count_29 (by decide) ?_
          refine lv_goto (tgt := 34) hx hb dX10_count_30 (by decide) ?_
          refine lv_istore (lv' := [(5, .int (1 : Int32)), (0, .ref (G.2.2 + 54)), (1, .int x1), (2, .int x2), (3, .int x3), (4, .int x4)]) hx hb dX10_count_34 hl (by decide) rfl (fun ls hl => ?_)
          refine lv_iload_n hx hb dX10_count_36 rfl (lv_at hl 3 rfl) ?_
          refine lv_iload hx hb dX10_count_37 (lv_at hl 0 rfl) ?_
          refine lv_if_eq (tgt := 46) hx hb dX10_count_39 (by decide) (fun c36 => absurd c36 (by decide)) (fun _ => ?_)
          refine lv_iconst (v := 1) hx hb dX10_count_42 (by decide) ?_
          refine lv_goto (tgt := 47) hx hb dX10_count_43 (by decide) ?_
          refine lv_iadd hx hb dX10_count_47 ?_
          refine lv_topi (fun t37 et37 => ?_)
          replace hf := g_let_at hf et37
          refine lv_istore_n (lv' := [(2, .int t37), (5, .int (1 : Int32)), (0, .ref (G.2.2 + 54)), (1, .int x1), (3, .int x3), (4, .int x4)]) hx hb dX10_count_48 rfl hl (by decide) rfl (fun ls hl => ?_)
          refine lv_iload_n hx hb dX10_count_49 rfl (lv_at hl 4 rfl) ?_
          refine lv_iload hx hb dX10_count_50 (lv_at hl 1 rfl) ?_
          refine lv_if_eq (tgt := 64) hx hb dX10_count_52 (by decide) (fun c38 => absurd c38 (by decide)) (fun _ => ?_)
          refine lv_aload_n hx hb dX10_count_55 rfl (lv_at hl 2 rfl) ?_
          refine lv_iload hx hb dX10_count_56 (lv_at hl 5 rfl) ?_
          obtain ⟨r39, hc40, hf⟩ := g_b1_e hf
          refine g_call (va_runV (As := [.int x4]) (rest := [.int x3]) ⟨hx, hb, hml, hown, hts⟩ (c10_area l G E μ _ _ _ hc40) (cwV 1 hts gX10_count_X10_area rfl rfl rfl (by decide +kernel) ⟨Nat.le_of_ble_eq_true rfl, Nat.le_of_ble_eq_true rfl⟩) (g_preV (ci := 10) hR hK (hR.2.2.2.2.1.1) rfl) rfl rfl hl.1 rfl (lv_room (Nat.le_of_ble_eq_true rfl)) dX10_count_58 ⟨by show _ ≤ 0; omega, by show _ ≤ 0; omega⟩) hS (fun w41 H locs hp hR hS => ?_)
          subst hp
          refine lv_goto (tgt := 65) hx hb dX10_count_61 (by decide) ?_
          refine lv_iadd hx hb dX10_count_65 ?_
          refine lv_topi (fun t42 et42 => ?_)
          replace hf := g_let_at hf et42
          refine lv_istore_n (lv' := [(3, .int t42), (2, .int t37), (5, .int (1 : Int32)), (0, .ref (G.2.2 + 54)), (1, .int x1), (4, .int x4)]) hx hb dX10_count_66 rfl hl (by decide) rfl (fun ls hl => ?_)
          refine lv_iinc (v := x4 + 1) (lv' := [(4, .int (x4 + 1)), (3, .int t42), (2, .int t37), (5, .int (1 : Int32)), (0, .ref (G.2.2 + 54)), (1, .int x1)]) hx hb dX10_count_67 hl (k := 5) rfl rfl (by decide) rfl (fun ls hl => ?_)
          refine lv_goto (tgt := 7) hx hb dX10_count_70 (by decide) ?_
          exact ih _ _ _ _ _ _ _ _ hf  hR hS (lv_sub hl [4, 5, 2, 1, 0] rfl)
  unfold f10_count at hf
  refine lv_iconst (v := 0) hx hb dX10_count_0 (by decide) ?_
  refine lv_istore_n (lv' := [(2, .int (0 : Int32)), (0, .ref (G.2.2 + 54)), (1, .int p1)]) hx hb dX10_count_1 rfl hl (by decide) rfl (fun ls hl => ?_)
  refine lv_iconst (v := 0) hx hb dX10_count_2 (by decide) ?_
  refine lv_istore_n (lv' := [(3, .int (0 : Int32)), (2, .int (0 : Int32)), (0, .ref (G.2.2 + 54)), (1, .int p1)]) hx hb dX10_count_3 rfl hl (by decide) rfl (fun ls hl => ?_)
  refine lv_iconst (v := 0) hx hb dX10_count_4 (by decide) ?_
  refine lv_istore (lv' := [(4, .int (0 : Int32)), (3, .int (0 : Int32)), (2, .int (0 : Int32)), (0, .ref (G.2.2 + 54)), (1, .int p1)]) hx hb dX10_count_5 hl (by decide) rfl (fun ls hl => ?_)
  exact hB7 300 _ _ _ _ _ _ _ _ hf  hR hS (lv_sub hl [3, 4, 2, 1, 0] rfl)
set_option maxHeartbeats 4000000 in
set_option maxRecDepth 100000 in
theorem c10_isSheet (l : Launch) (G : gG) (E : gEn) (μ : gMu) (z0 : gMo) (p1 : Int32) (ro : Int32) (hf : f10_isSheet z0 p1 = some ro) : Met l yX10_isSheet wsX10_isSheet ({ frames := 1, cells := 0, slots := 0, locals := 22 } : Room) (g_Pre G E (g_setM μ z0) [.ref (G.2.2 + 54), .int p1]) (g_Q G E (g_setM μ z0) (fun E' v => E' = E ∧ v = some (.int ro))) 0 0 (g_A G) := by
  refine Met.ofW (cc := cX10_isSheet) (maxL := 2) (ret := some .boolean) (by decide) rfl ?_
  intro p e s m args below meth c s₁ B hml hv
  obtain ⟨rfl, hR, hK⟩ := hv
  have hx := B.exec
  have hb := B.bytes
  have hr := B.returns
  have hts := atoms_spec (ws := wsX10_isSheet) B.pre
  have hown : s.vm.findClass RX10 = some m.cls := findClass_of_methodNamed B.named
  have hlocks := B.notSynchronized
  have hS : va_S (g_A G) s.heap s.heap [] := va_S.rf
  have hl := lv_entry ([.ref (G.2.2 + 54), .int p1]) (n := 2) (Nat.le_of_ble_eq_true rfl)
  rw [lg_entry_eq]
  generalize (lg_sl ([.ref (G.2.2 + 54), .int p1]) ++ List.replicate (2 - (lg_sl ([.ref (G.2.2 + 54), .int p1])).length) Slot.unset).toArray = ls at hl ⊢
  have hl : lv_has ls 2 [(0, .ref (G.2.2 + 54)), (1, .int p1)] := hl
  have in_10 : ∀ w ∈ u_ws RX10 TX10 9, w ∈ wsX10_isSheet := ifX10_isSheet_10
  have l_7 := hts (.fieldLink RX10 7 "GlassRacksModel" "now" "[I") (by decide +kernel)
  unfold f10_isSheet at hf
  refine lv_iload_n hx hb dX10_isSheet_0 rfl (lv_at hl 1 rfl) ?_
  refine lv_iconst (v := 0) hx hb dX10_isSheet_1 (by decide) ?_
  refine lv_aload_n hx hb dX10_isSheet_2 rfl (lv_at hl 0 rfl) ?_
  refine g_get hx hb hts in_10 hown hK hR.2.2.2.2.1.1 rfl 0 (by decide) l_7 rfl rfl dX10_isSheet_3 ?_
  refine lv_bipush (v := 8) hx hb dX10_isSheet_6 (by decide) ?_
  refine g_aild hx hb hK hR (by decide) (by decide) dX10_isSheet_8 ?_
  refine lv_iconst (v := 1) hx hb dX10_isSheet_9 (by decide) ?_
  refine lv_isub hx hb dX10_isSheet_10 ?_
  obtain ⟨r1, hc2, hf⟩ := g_b1_e hf
  refine g_call (va_runS (As := [.int p1, .int (0 : Int32), .int ((z0.1 0 (8 : Int32).toNatClampNeg) - (1 : Int32))]) (rest := []) ⟨hx, hb, hml, hown, hts⟩ (c10_in l G E (g_setM μ z0) _ _ _ _ hc2) (cwS 3 hts gX10_isSheet_X10_in rfl rfl rfl (by decide +kernel) ⟨Nat.le_of_ble_eq_true rfl, Nat.le_of_ble_eq_true rfl⟩) (g_pre hR hK) rfl rfl hl.1 rfl (lv_room (Nat.le_of_ble_eq_true rfl)) dX10_isSheet_11 ⟨by show _ ≤ 0; omega, by show _ ≤ 0; omega⟩) hS (fun w3 H locs hp hR hS => ?_)
  subst hp
  refine lv_if_eq (tgt := 30) hx hb dX10_isSheet_14 (by decide) (fun c4 => ?_) (fun c4 => ?_)
  · replace hf := g_it hf c4
    refine lv_iconst (v := 0) hx hb dX10_isSheet_30 (by decide) ?_
    obtain rfl := g_s1 hf
    exact g_zret hx hb hlocks hr hS hR g_le.rf (by decide) ⟨rfl, rfl⟩ (by omega) (by omega) dX10_isSheet_31
  · replace hf := g_if hf c4
    refine lv_aload_n hx hb dX10_isSheet_17 rfl (lv_at hl 0 rfl) ?_
    refine lv_iload_n hx hb dX10_isSheet_18 rfl (lv_at hl 1 rfl) ?_
    refine lv_iconst (v := 3) hx hb dX10_isSheet_19 (by decide) ?_
    obtain ⟨r5, hc6, hf⟩ := g_b1_e hf
    refine g_call (va_runV (As := [.int p1, .int (3 : Int32)]) (rest := []) ⟨hx, hb, hml, hown, hts⟩ (c10_its l G E μ _ _ _ _ hc6) (cwV 2 hts gX10_isSheet_X10_its rfl rfl rfl (by decide +kernel) ⟨Nat.le_of_ble_eq_true rfl, Nat.le_of_ble_eq_true rfl⟩) (g_preV (ci := 10) hR hK (hR.2.2.2.2.1.1) rfl) rfl rfl hl.1 rfl (lv_room (Nat.le_of_ble_eq_true rfl)) dX10_isSheet_20 ⟨by show _ ≤ 0; omega, by show _ ≤ 0; omega⟩) hS (fun w7 H locs hp hR hS => ?_)
    subst hp
    refine lv_if_lt (tgt := 30) hx hb dX10_isSheet_23 (by decide) (fun c8 => ?_) (fun c8 => ?_)
    · replace hf := g_it hf c8
      refine lv_iconst (v := 0) hx hb dX10_isSheet_30 (by decide) ?_
      obtain rfl := g_s1 hf
      exact g_zret hx hb hlocks hr hS hR g_le.rf (by decide) ⟨rfl, rfl⟩ (by omega) (by omega) dX10_isSheet_31
    · replace hf := g_if hf c8
      refine lv_iconst (v := 1) hx hb dX10_isSheet_26 (by decide) ?_
      refine lv_goto (tgt := 31) hx hb dX10_isSheet_27 (by decide) ?_
      obtain rfl := g_s1 hf
      exact g_zret hx hb hlocks hr hS hR g_le.rf (by decide) ⟨rfl, rfl⟩ (by omega) (by omega) dX10_isSheet_31
set_option maxHeartbeats 4000000 in
set_option maxRecDepth 100000 in
theorem c10_cut (l : Launch) (G : gG) (E : gEn) (μ : gMu) (z0 : gMo) (p1 : Int32) (p2 : Int32) (ro : Int32) (zo : gMo) (hf : f10_cut z0 p1 p2 = some (ro, zo)) : Met l yX10_cut wsX10_cut ({ frames := 5, cells := 0, slots := 0, locals := 132 } : Room) (g_Pre G E (g_setM μ z0) [.ref (G.2.2 + 54), .int p1, .int p2]) (g_Q G E (g_setM μ zo) (fun E' v => E' = E ∧ v = some (.int ro))) 0 0 (g_A G) := by
  refine Met.ofW (cc := cX10_cut) (maxL := 3) (ret := some .int) (by decide) rfl ?_
  intro p e s m args below meth c s₁ B hml hv
  obtain ⟨rfl, hR, hK⟩ := hv
  have hx := B.exec
  have hb := B.bytes
  have hr := B.returns
  have hts := atoms_spec (ws := wsX10_cut) B.pre
  have hown : s.vm.findClass RX10 = some m.cls := findClass_of_methodNamed B.named
  have hlocks := B.notSynchronized
  have hS : va_S (g_A G) s.heap s.heap [] := va_S.rf
  have hl := lv_entry ([.ref (G.2.2 + 54), .int p1, .int p2]) (n := 3) (Nat.le_of_ble_eq_true rfl)
  rw [lg_entry_eq]
  generalize (lg_sl ([.ref (G.2.2 + 54), .int p1, .int p2]) ++ List.replicate (3 - (lg_sl ([.ref (G.2.2 + 54), .int p1, .int p2])).length) Slot.unset).toArray = ls at hl ⊢
  have hl : lv_has ls 3 [(0, .ref (G.2.2 + 54)), (1, .int p1), (2, .int p2)] := hl
  have in_10 : ∀ w ∈ u_ws RX10 TX10 9, w ∈ wsX10_cut := ifX10_cut_10
  have l_7 := hts (.fieldLink RX10 7 "GlassRacksModel" "now" "[I") (by decide +kernel)
  unfold f10_cut at hf
  refine lv_aload_n hx hb dX10_cut_0 rfl (lv_at hl 0 rfl) ?_
  refine lv_iload_n hx hb dX10_cut_1 rfl (lv_at hl 1 rfl) ?_
  obtain ⟨r1, hc2, hf⟩ := g_b1_e hf
  refine g_call (va_runV (As := [.int p1]) (rest := []) ⟨hx, hb, hml, hown, hts⟩ (c10_isOrder l G E μ _ _ _ hc2) (cwV 1 hts gX10_cut_X10_isOrder rfl rfl rfl (by decide +kernel) ⟨Nat.le_of_ble_eq_true rfl, Nat.le_of_ble_eq_true rfl⟩) (g_preV (ci := 10) hR hK (hR.2.2.2.2.1.1) rfl) rfl rfl hl.1 rfl (lv_room (Nat.le_of_ble_eq_true rfl)) dX10_cut_2 ⟨by show _ ≤ 0; omega, by show _ ≤ 0; omega⟩) hS (fun w3 H locs hp hR hS => ?_)
  subst hp
  refine lv_if_eq (tgt := 16) hx hb dX10_cut_5 (by decide) (fun c4 => ?_) (fun c4 => ?_)
  · replace hf := g_it hf c4
    refine lv_iconst (v := -1) hx hb dX10_cut_16 (by decide) ?_
    obtain ⟨rfl, rfl⟩ := g_sp hf
    exact g_iret hx hb hlocks hr hS hR g_le.rf ⟨rfl, rfl⟩ (by omega) (by omega) dX10_cut_17
  · replace hf := g_if hf c4
    refine lv_aload_n hx hb dX10_cut_8 rfl (lv_at hl 0 rfl) ?_
    refine lv_iload_n hx hb dX10_cut_9 rfl (lv_at hl 2 rfl) ?_
    obtain ⟨r5, hc6, hf⟩ := g_b1_e hf
    refine g_call (va_runV (As := [.int p2]) (rest := []) ⟨hx, hb, hml, hown, hts⟩ (c10_isSheet l G E μ _ _ _ hc6) (cwV 1 hts gX10_cut_X10_isSheet rfl rfl rfl (by decide +kernel) ⟨Nat.le_of_ble_eq_true rfl, Nat.le_of_ble_eq_true rfl⟩) (g_preV (ci := 10) hR hK (hR.2.2.2.2.1.1) rfl) rfl rfl hl.1 rfl (lv_room (Nat.le_of_ble_eq_true rfl)) dX10_cut_10 ⟨by show _ ≤ 0; omega, by show _ ≤ 0; omega⟩) hS (fun w7 H locs hp hR hS => ?_)
    subst hp
    refine lv_if_ne (tgt := 18) hx hb dX10_cut_13 (by decide) (fun c8 => ?_) (fun c8 => ?_)
    · replace hf := g_it hf c8
      refine lv_aload_n hx hb dX10_cut_18 rfl (lv_at hl 0 rfl) ?_
      refine lv_iload_n hx hb dX10_cut_19 rfl (lv_at hl 1 rfl) ?_
      obtain ⟨r9, hc10, hf⟩ := g_b1_e hf
      refine g_call (va_runV (As := [.int p1]) (rest := []) ⟨hx, hb, hml, hown, hts⟩ (c10_isOpen l G E μ _ _ _ hc10) (cwV 1 hts gX10_cut_X10_isOpen rfl rfl rfl (by decide +kernel) ⟨Nat.le_of_ble_eq_true rfl, Nat.le_of_ble_eq_true rfl⟩) (g_preV (ci := 10) hR hK (hR.2.2.2.2.1.1) rfl) rfl rfl hl.1 rfl (lv_room (Nat.le_of_ble_eq_true rfl)) dX10_cut_20 ⟨by show _ ≤ 0; omega, by show _ ≤ 0; omega⟩) hS (fun w11 H locs hp hR hS => ?_)
      subst hp
      refine lv_if_eq (tgt := 35) hx hb dX10_cut_23 (by decide) (fun c12 => ?_) (fun c12 => ?_)
      · replace hf := g_it hf c12
        refine lv_bipush (v := -4) hx hb dX10_cut_35 (by decide) ?_
        obtain ⟨rfl, rfl⟩ := g_sp hf
        exact g_iret hx hb hlocks hr hS hR g_le.rf ⟨rfl, rfl⟩ (by omega) (by omega) dX10_cut_37
      · replace hf := g_if hf c12
        refine lv_aload_n hx hb dX10_cut_26 rfl (lv_at hl 0 rfl) ?_
        refine lv_iload_n hx hb dX10_cut_27 rfl (lv_at hl 1 rfl) ?_
        refine lv_iload_n hx hb dX10_cut_28 rfl (lv_at hl 2 rfl) ?_
        obtain ⟨r13, hc14, hf⟩ := g_b1_e hf
        refine g_call (va_runV (As := [.int p1, .int p2]) (rest := []) ⟨hx, hb, hml, hown, hts⟩ (c10_lies l G E μ _ _ _ _ hc14) (cwV 2 hts gX10_cut_X10_lies rfl rfl rfl (by decide +kernel) ⟨Nat.le_of_ble_eq_true rfl, Nat.le_of_ble_eq_true rfl⟩) (g_preV (ci := 10) hR hK (hR.2.2.2.2.1.1) rfl) rfl rfl hl.1 rfl (lv_room (Nat.le_of_ble_eq_true rfl)) dX10_cut_29 ⟨by show _ ≤ 0; omega, by show _ ≤ 0; omega⟩) hS (fun w15 H locs hp hR hS => ?_)
        subst hp
        refine lv_if_ge (tgt := 38) hx hb dX10_cut_32 (by decide) (fun c16 => ?_) (fun c16 => ?_)
        · replace hf := g_it hf c16
          refine lv_aload_n hx hb dX10_cut_38 rfl (lv_at hl 0 rfl) ?_
          refine lv_aload_n hx hb dX10_cut_39 rfl (lv_at hl 0 rfl) ?_
          refine g_get hx hb hts in_10 hown hK hR.2.2.2.2.1.1 rfl 0 (by decide) l_7 rfl rfl dX10_cut_40 ?_
          obtain ⟨z17, hc18, hf⟩ := g_b1_e hf
          refine g_call (va_runV (As := [.ref (g_maA G 0)]) (rest := []) ⟨hx, hb, hml, hown, hts⟩ (c10_record l G E μ _ 0 (by decide) _ hc18) (cwV 1 hts gX10_cut_X10_record rfl rfl rfl (by decide +kernel) ⟨Nat.le_of_ble_eq_true rfl, Nat.le_of_ble_eq_true rfl⟩) (g_preV (ci := 10) hR hK (hR.2.2.2.2.1.1) rfl) rfl rfl hl.1 rfl (lv_room (Nat.le_of_ble_eq_true rfl)) dX10_cut_43 ⟨by show _ ≤ 0; omega, by show _ ≤ 0; omega⟩) hS (fun w19 H locs hp hR hS => ?_)
          subst hp
          refine lv_aload_n hx hb dX10_cut_46 rfl (lv_at hl 0 rfl) ?_
          refine lv_iload_n hx hb dX10_cut_47 rfl (lv_at hl 1 rfl) ?_
          refine lv_iload_n hx hb dX10_cut_48 rfl (lv_at hl 2 rfl) ?_
          obtain ⟨r20, z21, hc22, hf⟩ := g_bd_e hf
          refine g_call (va_runV (As := [.int p1, .int p2]) (rest := []) ⟨hx, hb, hml, hown, hts⟩ (c10_cuts l G E μ _ _ _ _ _ hc22) (cwV 2 hts gX10_cut_X10_cuts rfl rfl rfl (by decide +kernel) ⟨Nat.le_of_ble_eq_true rfl, Nat.le_of_ble_eq_true rfl⟩) (g_preV (ci := 10) hR hK (hR.2.2.2.2.1.1) rfl) rfl rfl hl.1 rfl (lv_room (Nat.le_of_ble_eq_true rfl)) dX10_cut_49 ⟨by show _ ≤ 0; omega, by show _ ≤ 0; omega⟩) hS (fun w23 H locs hp hR hS => ?_)
          subst hp
          obtain ⟨rfl, rfl⟩ := g_sp hf
          exact g_iret hx hb hlocks hr hS hR g_le.rf ⟨rfl, rfl⟩ (by omega) (by omega) dX10_cut_52
        · replace hf := g_if hf c16
          refine lv_bipush (v := -4) hx hb dX10_cut_35 (by decide) ?_
          obtain ⟨rfl, rfl⟩ := g_sp hf
          exact g_iret hx hb hlocks hr hS hR g_le.rf ⟨rfl, rfl⟩ (by omega) (by omega) dX10_cut_37
    · replace hf := g_if hf (fun q => q c8)
      refine lv_iconst (v := -1) hx hb dX10_cut_16 (by decide) ?_
      obtain ⟨rfl, rfl⟩ := g_sp hf
      exact g_iret hx hb hlocks hr hS hR g_le.rf ⟨rfl, rfl⟩ (by omega) (by omega) dX10_cut_17
set_option maxHeartbeats 4000000 in
set_option maxRecDepth 100000 in
theorem c10_keep (l : Launch) (G : gG) (E : gEn) (μ : gMu) (z0 : gMo)  (ro : Int32) (zo : gMo) (hf : f10_keep z0 = some (ro, zo)) : Met l yX10_keep wsX10_keep ({ frames := 1, cells := 0, slots := 0, locals := 22 } : Room) (g_Pre G E (g_setM μ z0) [.ref (G.2.2 + 54)]) (g_Q G E (g_setM μ zo) (fun E' v => E' = E ∧ v = some (.int ro))) 0 0 (g_A G) := by
  refine Met.ofW (cc := cX10_keep) (maxL := 1) (ret := some .int) (by decide) rfl ?_
  intro p e s m args below meth c s₁ B hml hv
  obtain ⟨rfl, hR, hK⟩ := hv
  have hx := B.exec
  have hb := B.bytes
  have hr := B.returns
  have hts := atoms_spec (ws := wsX10_keep) B.pre
  have hown : s.vm.findClass RX10 = some m.cls := findClass_of_methodNamed B.named
  have hlocks := B.notSynchronized
  have hS : va_S (g_A G) s.heap s.heap [] := va_S.rf
  have hl := lv_entry ([.ref (G.2.2 + 54)]) (n := 1) (Nat.le_of_ble_eq_true rfl)
  rw [lg_entry_eq]
  generalize (lg_sl ([.ref (G.2.2 + 54)]) ++ List.replicate (1 - (lg_sl ([.ref (G.2.2 + 54)])).length) Slot.unset).toArray = ls at hl ⊢
  have hl : lv_has ls 1 [(0, .ref (G.2.2 + 54))] := hl
  have in_10 : ∀ w ∈ u_ws RX10 TX10 9, w ∈ wsX10_keep := ifX10_keep_10
  have l_16 := hts (.fieldLink RX10 16 "GlassRacksModel" "slot" "[I") (by decide +kernel)
  have l_165 := hts (.fieldLink RX10 165 "GlassRacksModel" "isFilled" "Z") (by decide +kernel)
  have l_7 := hts (.fieldLink RX10 7 "GlassRacksModel" "now" "[I") (by decide +kernel)
  unfold f10_keep at hf
  refine lv_aload_n hx hb dX10_keep_0 rfl (lv_at hl 0 rfl) ?_
  refine g_get hx hb hts in_10 hown hK hR.2.2.2.2.1.1 rfl 0 (by decide) l_7 rfl rfl dX10_keep_1 ?_
  refine lv_aload_n hx hb dX10_keep_4 rfl (lv_at hl 0 rfl) ?_
  refine g_get hx hb hts in_10 hown hK hR.2.2.2.2.1.1 rfl 2 (by decide) l_16 rfl rfl dX10_keep_5 ?_
  obtain ⟨z1, hc2, hf⟩ := g_b1_e hf
  refine g_call (va_runS (As := [.ref (g_maA G 0), .ref (g_maA G 2)]) (rest := []) ⟨hx, hb, hml, hown, hts⟩ (c10_copy l G E μ _ 0 (by decide) 2 (by decide) _ hc2) (cwS 2 hts gX10_keep_X10_copy rfl rfl rfl (by decide +kernel) ⟨Nat.le_of_ble_eq_true rfl, Nat.le_of_ble_eq_true rfl⟩) (g_pre hR hK) rfl rfl hl.1 rfl (lv_room (Nat.le_of_ble_eq_true rfl)) dX10_keep_8 ⟨by show _ ≤ 0; omega, by show _ ≤ 0; omega⟩) hS (fun w3 H locs hp hR hS => ?_)
  subst hp
  refine lv_aload_n hx hb dX10_keep_11 rfl (lv_at hl 0 rfl) ?_
  refine lv_iconst (v := 1) hx hb dX10_keep_12 (by decide) ?_
  refine g_p10_7 hx hb hts in_10 hown hK hS hR (by decide) l_165 dX10_keep_13 (fun H locs hR hS => ?_)
  obtain ⟨z4, ez4, hf⟩ := g_let_e hf
  replace hR : g_R G E (g_setM μ z4) H := by rw [ez4]; exact hR
  refine lv_aload_n hx hb dX10_keep_16 rfl (lv_at hl 0 rfl) ?_
  refine g_get hx hb hts in_10 hown hK hR.2.2.2.2.1.1 rfl 0 (by decide) l_7 rfl rfl dX10_keep_17 ?_
  refine lv_iconst (v := 0) hx hb dX10_keep_20 (by decide) ?_
  refine g_aild hx hb hK hR (by decide) (by decide) dX10_keep_21 ?_
  obtain ⟨rfl, rfl⟩ := g_sp hf
  exact g_iret hx hb hlocks hr hS hR g_le.rf ⟨rfl, rfl⟩ (by omega) (by omega) dX10_keep_22
set_option maxHeartbeats 4000000 in
set_option maxRecDepth 100000 in
theorem c10_move (l : Launch) (G : gG) (E : gEn) (μ : gMu) (z0 : gMo) (p1 : Int32) (p2 : Int32) (ro : Int32) (zo : gMo) (hf : f10_move z0 p1 p2 = some (ro, zo)) : Met l yX10_move wsX10_move ({ frames := 4, cells := 0, slots := 0, locals := 94 } : Room) (g_Pre G E (g_setM μ z0) [.ref (G.2.2 + 54), .int p1, .int p2]) (g_Q G E (g_setM μ zo) (fun E' v => E' = E ∧ v = some (.int ro))) 0 0 (g_A G) := by
  refine Met.ofW (cc := cX10_move) (maxL := 4) (ret := some .int) (by decide) rfl ?_
  intro p e s m args below meth c s₁ B hml hv
  obtain ⟨rfl, hR, hK⟩ := hv
  have hx := B.exec
  have hb := B.bytes
  have hr := B.returns
  have hts := atoms_spec (ws := wsX10_move) B.pre
  have hown : s.vm.findClass RX10 = some m.cls := findClass_of_methodNamed B.named
  have hlocks := B.notSynchronized
  have hS : va_S (g_A G) s.heap s.heap [] := va_S.rf
  have hl := lv_entry ([.ref (G.2.2 + 54), .int p1, .int p2]) (n := 4) (Nat.le_of_ble_eq_true rfl)
  rw [lg_entry_eq]
  generalize (lg_sl ([.ref (G.2.2 + 54), .int p1, .int p2]) ++ List.replicate (4 - (lg_sl ([.ref (G.2.2 + 54), .int p1, .int p2])).length) Slot.unset).toArray = ls at hl ⊢
  have hl : lv_has ls 4 [(0, .ref (G.2.2 + 54)), (1, .int p1), (2, .int p2)] := hl
  have in_10 : ∀ w ∈ u_ws RX10 TX10 9, w ∈ wsX10_move := ifX10_move_10
  have l_7 := hts (.fieldLink RX10 7 "GlassRacksModel" "now" "[I") (by decide +kernel)
  have hB42 : ∀ (z0 : gMo) (x1 : Int32) (x2 : Int32) (H : Heap) (locs : List Loc) (ls : Array Slot), f10_move_42 z0 x1 x2 = some (ro, zo) → g_R G E (g_setM μ z0) H → va_S (g_A G) s.heap H locs → lv_has ls 4 [(0, .ref (G.2.2 + 54)), (1, .int x1), (2, .int x2)] → W p l e (headSpec wsX10_move ({ frames := 4, cells := 0, slots := 0, locals := 94 } : Room)).room s m ([.ref (G.2.2 + 54), .int p1, .int p2] : List Value).toArray below meth c H locs 0 0 (MQ below (g_Q G E (g_setM μ zo) (fun E' v => E' = E ∧ v = some (.int ro))) ([.ref (G.2.2 + 54), .int p1, .int p2] : List Value).toArray s 0 0 (g_A G)) (F0 m 42 ls []) := by
    intro z0 x1 x2 H locs ls hf  hR hS hl
    unfold f10_move_42 at hf
    refine lv_aload_n hx hb dX10_move_42 rfl (lv_at hl 0 rfl) ?_
    refine lv_aload_n hx hb dX10_move_43 rfl (lv_at hl 0 rfl) ?_
    refine g_get hx hb hts in_10 hown hK hR.2.2.2.2.1.1 rfl 0 (by decide) l_7 rfl rfl dX10_move_44 ?_
    obtain ⟨z13, hc14, hf⟩ := g_b1_e hf
    refine g_call (va_runV (As := [.ref (g_maA G 0)]) (rest := []) ⟨hx, hb, hml, hown, hts⟩ (c10_record l G E μ _ 0 (by decide) _ hc14) (cwV 1 hts gX10_move_X10_record rfl rfl rfl (by decide +kernel) ⟨Nat.le_of_ble_eq_true rfl, Nat.le_of_ble_eq_true rfl⟩) (g_preV (ci := 10) hR hK (hR.2.2.2.2.1.1) rfl) rfl rfl hl.1 rfl (lv_room (Nat.le_of_ble_eq_true rfl)) dX10_move_47 ⟨by show _ ≤ 0; omega, by show _ ≤ 0; omega⟩) hS (fun w15 H locs hp hR hS => ?_)
    subst hp
    refine lv_aload_n hx hb dX10_move_50 rfl (lv_at hl 0 rfl) ?_
    refine g_get hx hb hts in_10 hown hK hR.2.2.2.2.1.1 rfl 0 (by decide) l_7 rfl rfl dX10_move_51 ?_
    refine lv_bipush (v := 6) hx hb dX10_move_54 (by decide) ?_
    refine g_aild hx hb hK hR (by decide) (by decide) dX10_move_56 ?_
    refine lv_topi (fun t16 et16 => ?_)
    replace hf := g_let_at hf et16
    refine lv_istore_n (lv' := [(3, .int t16), (0, .ref (G.2.2 + 54)), (1, .int x1), (2, .int x2)]) hx hb dX10_move_57 rfl hl (by decide) rfl (fun ls hl => ?_)
    refine lv_aload_n hx hb dX10_move_58 rfl (lv_at hl 1 rfl) ?_
    refine lv_iload_n hx hb dX10_move_59 rfl (lv_at hl 2 rfl) ?_
    obtain ⟨r17, z18, hc19, hf⟩ := g_bd_e hf
    refine g_call (va_runV (As := [.int x1]) (rest := []) ⟨hx, hb, hml, hown, hts⟩ (c10_takes l G E μ _ _ _ _ hc19) (cwV 1 hts gX10_move_X10_takes rfl rfl rfl (by decide +kernel) ⟨Nat.le_of_ble_eq_true rfl, Nat.le_of_ble_eq_true rfl⟩) (g_preV (ci := 10) hR hK (hR.2.2.2.2.1.1) rfl) rfl rfl hl.1 rfl (lv_room (Nat.le_of_ble_eq_true rfl)) dX10_move_60 ⟨by show _ ≤ 0; omega, by show _ ≤ 0; omega⟩) hS (fun w20 H locs hp hR hS => ?_)
    subst hp
    refine lv_if_eq (tgt := 72) hx hb dX10_move_63 (by decide) (fun c21 => ?_) (fun c21 => ?_)
    · replace hf := g_it hf c21
      refine lv_aload_n hx hb dX10_move_72 rfl (lv_at hl 1 rfl) ?_
      refine g_get hx hb hts in_10 hown hK hR.2.2.2.2.1.1 rfl 0 (by decide) l_7 rfl rfl dX10_move_73 ?_
      refine lv_bipush (v := 6) hx hb dX10_move_76 (by decide) ?_
      refine g_aild hx hb hK hR (by decide) (by decide) dX10_move_78 ?_
      refine lv_iload_n hx hb dX10_move_79 rfl (lv_at hl 0 rfl) ?_
      refine lv_isub hx hb dX10_move_80 ?_
      obtain ⟨rfl, rfl⟩ := g_sp hf
      exact g_iret hx hb hlocks hr hS hR g_le.rf ⟨rfl, rfl⟩ (by omega) (by omega) dX10_move_81
    · replace hf := g_if hf c21
      refine lv_aload_n hx hb dX10_move_66 rfl (lv_at hl 1 rfl) ?_
      refine lv_iload_n hx hb dX10_move_67 rfl (lv_at hl 3 rfl) ?_
      refine lv_iload_n hx hb dX10_move_68 rfl (lv_at hl 2 rfl) ?_
      obtain ⟨z22, hc23, hf⟩ := g_b1_e hf
      refine g_call (va_runV (As := [.int x2, .int x1]) (rest := []) ⟨hx, hb, hml, hown, hts⟩ (c10_leans l G E μ _ _ _ _ hc23) (cwV 2 hts gX10_move_X10_leans rfl rfl rfl (by decide +kernel) ⟨Nat.le_of_ble_eq_true rfl, Nat.le_of_ble_eq_true rfl⟩) (g_preV (ci := 10) hR hK (hR.2.2.2.2.1.1) rfl) rfl rfl hl.1 rfl (lv_room (Nat.le_of_ble_eq_true rfl)) dX10_move_69 ⟨by show _ ≤ 0; omega, by show _ ≤ 0; omega⟩) hS (fun w24 H locs hp hR hS => ?_)
      subst hp
      refine lv_aload_n hx hb dX10_move_72 rfl (lv_at hl 1 rfl) ?_
      refine g_get hx hb hts in_10 hown hK hR.2.2.2.2.1.1 rfl 0 (by decide) l_7 rfl rfl dX10_move_73 ?_
      refine lv_bipush (v := 6) hx hb dX10_move_76 (by decide) ?_
      refine g_aild hx hb hK hR (by decide) (by decide) dX10_move_78 ?_
      refine lv_iload_n hx hb dX10_move_79 rfl (lv_at hl 0 rfl) ?_
      refine lv_isub hx hb dX10_move_80 ?_
      obtain ⟨rfl, rfl⟩ := g_sp hf
      exact g_iret hx hb hlocks hr hS hR g_le.rf ⟨rfl, rfl⟩ (by omega) (by omega) dX10_move_81
  unfold f10_move at hf
  refine lv_aload_n hx hb dX10_move_0 rfl (lv_at hl 0 rfl) ?_
  refine lv_iload_n hx hb dX10_move_1 rfl (lv_at hl 1 rfl) ?_
  obtain ⟨r1, hc2, hf⟩ := g_b1_e hf
  refine g_call (va_runV (As := [.int p1]) (rest := []) ⟨hx, hb, hml, hown, hts⟩ (c10_isSheet l G E μ _ _ _ hc2) (cwV 1 hts gX10_move_X10_isSheet rfl rfl rfl (by decide +kernel) ⟨Nat.le_of_ble_eq_true rfl, Nat.le_of_ble_eq_true rfl⟩) (g_preV (ci := 10) hR hK (hR.2.2.2.2.1.1) rfl) rfl rfl hl.1 rfl (lv_room (Nat.le_of_ble_eq_true rfl)) dX10_move_2 ⟨by show _ ≤ 0; omega, by show _ ≤ 0; omega⟩) hS (fun w3 H locs hp hR hS => ?_)
  subst hp
  refine lv_if_eq (tgt := 17) hx hb dX10_move_5 (by decide) (fun c4 => ?_) (fun c4 => ?_)
  · replace hf := g_it hf c4
    refine lv_iconst (v := -1) hx hb dX10_move_17 (by decide) ?_
    obtain ⟨rfl, rfl⟩ := g_sp hf
    exact g_iret hx hb hlocks hr hS hR g_le.rf ⟨rfl, rfl⟩ (by omega) (by omega) dX10_move_18
  · replace hf := g_if hf c4
    refine lv_iload_n hx hb dX10_move_8 rfl (lv_at hl 2 rfl) ?_
    refine lv_iconst (v := 0) hx hb dX10_move_9 (by decide) ?_
    refine lv_iconst (v := 3) hx hb dX10_move_10 (by decide) ?_
    obtain ⟨r5, hc6, hf⟩ := g_b1_e hf
    refine g_call (va_runS (As := [.int p2, .int (0 : Int32), .int (3 : Int32)]) (rest := []) ⟨hx, hb, hml, hown, hts⟩ (c10_in l G E (g_setM μ z0) _ _ _ _ hc6) (cwS 3 hts gX10_move_X10_in rfl rfl rfl (by decide +kernel) ⟨Nat.le_of_ble_eq_true rfl, Nat.le_of_ble_eq_true rfl⟩) (g_pre hR hK) rfl rfl hl.1 rfl (lv_room (Nat.le_of_ble_eq_true rfl)) dX10_move_11 ⟨by show _ ≤ 0; omega, by show _ ≤ 0; omega⟩) hS (fun w7 H locs hp hR hS => ?_)
    subst hp
    refine lv_if_ne (tgt := 19) hx hb dX10_move_14 (by decide) (fun c8 => ?_) (fun c8 => ?_)
    · replace hf := g_it hf c8
      refine lv_aload_n hx hb dX10_move_19 rfl (lv_at hl 0 rfl) ?_
      refine lv_iload_n hx hb dX10_move_20 rfl (lv_at hl 1 rfl) ?_
      refine lv_iconst (v := 3) hx hb dX10_move_21 (by decide) ?_
      obtain ⟨r9, hc10, hf⟩ := g_b1_e hf
      refine g_call (va_runV (As := [.int p1, .int (3 : Int32)]) (rest := []) ⟨hx, hb, hml, hown, hts⟩ (c10_its l G E μ _ _ _ _ hc10) (cwV 2 hts gX10_move_X10_its rfl rfl rfl (by decide +kernel) ⟨Nat.le_of_ble_eq_true rfl, Nat.le_of_ble_eq_true rfl⟩) (g_preV (ci := 10) hR hK (hR.2.2.2.2.1.1) rfl) rfl rfl hl.1 rfl (lv_room (Nat.le_of_ble_eq_true rfl)) dX10_move_22 ⟨by show _ ≤ 0; omega, by show _ ≤ 0; omega⟩) hS (fun w11 H locs hp hR hS => ?_)
      subst hp
      refine lv_iload_n hx hb dX10_move_25 rfl (lv_at hl 2 rfl) ?_
      refine lv_icmp_eq (tgt := 42) hx hb dX10_move_26 (by decide) (fun c12 => ?_) (fun c12 => ?_)
      · replace hf := g_it hf c12
        exact hB42 _ _ _ _ _ _ hf  hR hS (lv_sub hl [0, 1, 2] rfl)
      · replace hf := g_if hf c12
        refine lv_aload_n hx hb dX10_move_29 rfl (lv_at hl 0 rfl) ?_
        refine lv_iload_n hx hb dX10_move_30 rfl (lv_at hl 2 rfl) ?_
        obtain ⟨r25, hc26, hf⟩ := g_b1_e hf
        refine g_call (va_runV (As := [.int p2]) (rest := []) ⟨hx, hb, hml, hown, hts⟩ (c10_many l G E μ _ _ _ hc26) (cwV 1 hts gX10_move_X10_many rfl rfl rfl (by decide +kernel) ⟨Nat.le_of_ble_eq_true rfl, Nat.le_of_ble_eq_true rfl⟩) (g_preV (ci := 10) hR hK (hR.2.2.2.2.1.1) rfl) rfl rfl hl.1 rfl (lv_room (Nat.le_of_ble_eq_true rfl)) dX10_move_31 ⟨by show _ ≤ 0; omega, by show _ ≤ 0; omega⟩) hS (fun w27 H locs hp hR hS => ?_)
        subst hp
        refine lv_bipush (v := 8) hx hb dX10_move_34 (by decide) ?_
        refine lv_icmp_ne (tgt := 42) hx hb dX10_move_36 (by decide) (fun c28 => ?_) (fun c28 => ?_)
        · replace hf := g_it hf c28
          exact hB42 _ _ _ _ _ _ hf  hR hS (lv_sub hl [0, 1, 2] rfl)
        · replace hf := g_if hf (fun q => q c28)
          refine lv_bipush (v := -3) hx hb dX10_move_39 (by decide) ?_
          obtain ⟨rfl, rfl⟩ := g_sp hf
          exact g_iret hx hb hlocks hr hS hR g_le.rf ⟨rfl, rfl⟩ (by omega) (by omega) dX10_move_41
    · replace hf := g_if hf (fun q => q c8)
      refine lv_iconst (v := -1) hx hb dX10_move_17 (by decide) ?_
      obtain ⟨rfl, rfl⟩ := g_sp hf
      exact g_iret hx hb hlocks hr hS hR g_le.rf ⟨rfl, rfl⟩ (by omega) (by omega) dX10_move_18
set_option maxHeartbeats 4000000 in
set_option maxRecDepth 100000 in
theorem c10_next (l : Launch) (G : gG) (E : gEn) (μ : gMu) (z0 : gMo) (p1 : Int32) (ro : Int32) (hf : f10_next z0 p1 = some ro) : Met l yX10_next wsX10_next ({ frames := 3, cells := 0, slots := 0, locals := 69 } : Room) (g_Pre G E (g_setM μ z0) [.ref (G.2.2 + 54), .int p1]) (g_Q G E (g_setM μ z0) (fun E' v => E' = E ∧ v = some (.int ro))) 0 0 (g_A G) := by
  refine Met.ofW (cc := cX10_next) (maxL := 5) (ret := some .int) (by decide) rfl ?_
  intro p e s m args below meth c s₁ B hml hv
  obtain ⟨rfl, hR, hK⟩ := hv
  have hx := B.exec
  have hb := B.bytes
  have hr := B.returns
  have hts := atoms_spec (ws := wsX10_next) B.pre
  have hown : s.vm.findClass RX10 = some m.cls := findClass_of_methodNamed B.named
  have hlocks := B.notSynchronized
  have hS : va_S (g_A G) s.heap s.heap [] := va_S.rf
  have hl := lv_entry ([.ref (G.2.2 + 54), .int p1]) (n := 5) (Nat.le_of_ble_eq_true rfl)
  rw [lg_entry_eq]
  generalize (lg_sl ([.ref (G.2.2 + 54), .int p1]) ++ List.replicate (5 - (lg_sl ([.ref (G.2.2 + 54), .int p1])).length) Slot.unset).toArray = ls at hl ⊢
  have hl : lv_has ls 5 [(0, .ref (G.2.2 + 54)), (1, .int p1)] := hl
  have hB18 : ∀ (n : Nat) (z0 : gMo) (x1 : Int32) (x2 : Int32) (x3 : Int32) (x4 : Int32) (H : Heap) (locs : List Loc) (ls : Array Slot), f10_next_18 n z0 x1 x2 x3 x4 = some ro → g_R G E (g_setM μ z0) H → va_S (g_A G) s.heap H locs → lv_has ls 5 [(0, .ref (G.2.2 + 54)), (1, .int x1), (2, .int x2), (3, .int x3), (4, .int x4)] → W p l e (headSpec wsX10_next ({ frames := 3, cells := 0, slots := 0, locals := 69 } : Room)).room s m ([.ref (G.2.2 + 54), .int p1] : List Value).toArray below meth c H locs 0 0 (MQ below (g_Q G E (g_setM μ z0) (fun E' v => E' = E ∧ v = some (.int ro))) ([.ref (G.2.2 + 54), .int p1] : List Value).toArray s 0 0 (g_A G)) (F0 m 18 ls []) := by
    intro n
    induction n with
    | zero =>
      intro z0 x1 x2 x3 x4 H locs ls hf
      rw [f10_next_18] at hf
      cases hf
    | succ n ih =>
      intro z0 x1 x2 x3 x4 H locs ls hf  hR hS hl
      rw [f10_next_18] at hf
      refine lv_iload hx hb dX10_next_18 (lv_at hl 4 rfl) ?_
      refine lv_iload_n hx hb dX10_next_20 rfl (lv_at hl 1 rfl) ?_
      refine lv_icmp_ge (tgt := 48) hx hb dX10_next_21 (by decide) (fun c5 => ?_) (fun c5 => ?_)
      · replace hf := g_it hf c5
        refine lv_iload_n hx hb dX10_next_48 rfl (lv_at hl 3 rfl) ?_
        obtain rfl := g_s1 hf
        exact g_iret hx hb hlocks hr hS hR g_le.rf ⟨rfl, rfl⟩ (by omega) (by omega) dX10_next_49
      · replace hf := g_if hf c5
        refine lv_iload_n hx hb dX10_next_24 rfl (lv_at hl 3 rfl) ?_
        refine lv_bipush (v := -5) hx hb dX10_next_25 (by decide) ?_
        refine lv_icmp_eq (tgt := 48) hx hb dX10_next_27 (by decide) (fun c6 => ?_) (fun c6 => ?_)
        · replace hf := g_it hf c6
          refine lv_iload_n hx hb dX10_next_48 rfl (lv_at hl 3 rfl) ?_
          obtain rfl := g_s1 hf
          exact g_iret hx hb hlocks hr hS hR g_le.rf ⟨rfl, rfl⟩ (by omega) (by omega) dX10_next_49
        · replace hf := g_if hf c6
          refine lv_iload_n hx hb dX10_next_30 rfl (lv_at hl 2 rfl) ?_
          refine lv_iconst (v := 1) hx hb dX10_next_31 (by decide) ?_
          refine lv_iload_n hx hb dX10_next_32 rfl (lv_at hl 3 rfl) ?_
          refine lv_ishl hx hb dX10_next_33 ?_
          refine lv_ior hx hb dX10_next_34 ?_
          refine lv_topi (fun t7 et7 => ?_)
          replace hf := g_let_at hf et7
          refine lv_istore_n (lv' := [(2, .int t7), (0, .ref (G.2.2 + 54)), (1, .int x1), (3, .int x3), (4, .int x4)]) hx hb dX10_next_35 rfl hl (by decide) rfl (fun ls hl => ?_)
          refine lv_aload_n hx hb dX10_next_36 rfl (lv_at hl 1 rfl) ?_
          refine lv_iload_n hx hb dX10_next_37 rfl (lv_at hl 0 rfl) ?_
          obtain ⟨r8, hc9, hf⟩ := g_b1_e hf
          refine g_call (va_runV (As := [.int t7]) (rest := []) ⟨hx, hb, hml, hown, hts⟩ (c10_first l G E μ _ _ _ hc9) (cwV 1 hts gX10_next_X10_first rfl rfl rfl (by decide +kernel) ⟨Nat.le_of_ble_eq_true rfl, Nat.le_of_ble_eq_true rfl⟩) (g_preV (ci := 10) hR hK (hR.2.2.2.2.1.1) rfl) rfl rfl hl.1 rfl (lv_room (Nat.le_of_ble_eq_true rfl)) dX10_next_38 ⟨by show _ ≤ 0; omega, by show _ ≤ 0; omega⟩) hS (fun w10 H locs hp hR hS => ?_)
          subst hp
          refine lv_istore_n (lv' := [(3, .int r8), (2, .int t7), (0, .ref (G.2.2 + 54)), (1, .int x1), (4, .int x4)]) hx hb dX10_next_41 rfl hl (by decide) rfl (fun ls hl => ?_)
          refine lv_iinc (v := x4 + 1) (lv' := [(4, .int (x4 + 1)), (3, .int r8), (2, .int t7), (0, .ref (G.2.2 + 54)), (1, .int x1)]) hx hb dX10_next_42 hl (k := 4) rfl rfl (by decide) rfl (fun ls hl => ?_)
          refine lv_goto (tgt := 18) hx hb dX10_next_45 (by decide) ?_
          exact ih _ _ _ _ _ _ _ _ hf  hR hS (lv_sub hl [3, 4, 2, 1, 0] rfl)
  unfold f10_next at hf
  refine lv_iload_n hx hb dX10_next_0 rfl (lv_at hl 1 rfl) ?_
  refine lv_if_ge (tgt := 7) hx hb dX10_next_1 (by decide) (fun c1 => ?_) (fun c1 => ?_)
  · replace hf := g_it hf c1
    refine lv_iconst (v := 0) hx hb dX10_next_7 (by decide) ?_
    refine lv_istore_n (lv' := [(2, .int (0 : Int32)), (0, .ref (G.2.2 + 54)), (1, .int p1)]) hx hb dX10_next_8 rfl hl (by decide) rfl (fun ls hl => ?_)
    refine lv_aload_n hx hb dX10_next_9 rfl (lv_at hl 1 rfl) ?_
    refine lv_iconst (v := 0) hx hb dX10_next_10 (by decide) ?_
    obtain ⟨r2, hc3, hf⟩ := g_b1_e hf
    refine g_call (va_runV (As := [.int (0 : Int32)]) (rest := []) ⟨hx, hb, hml, hown, hts⟩ (c10_first l G E μ _ _ _ hc3) (cwV 1 hts gX10_next_X10_first rfl rfl rfl (by decide +kernel) ⟨Nat.le_of_ble_eq_true rfl, Nat.le_of_ble_eq_true rfl⟩) (g_preV (ci := 10) hR hK (hR.2.2.2.2.1.1) rfl) rfl rfl hl.1 rfl (lv_room (Nat.le_of_ble_eq_true rfl)) dX10_next_11 ⟨by show _ ≤ 0; omega, by show _ ≤ 0; omega⟩) hS (fun w4 H locs hp hR hS => ?_)
    subst hp
    refine lv_istore_n (lv' := [(3, .int r2), (2, .int (0 : Int32)), (0, .ref (G.2.2 + 54)), (1, .int p1)]) hx hb dX10_next_14 rfl hl (by decide) rfl (fun ls hl => ?_)
    refine lv_iconst (v := 0) hx hb dX10_next_15 (by decide) ?_
    refine lv_istore (lv' := [(4, .int (0 : Int32)), (3, .int r2), (2, .int (0 : Int32)), (0, .ref (G.2.2 + 54)), (1, .int p1)]) hx hb dX10_next_16 hl (by decide) rfl (fun ls hl => ?_)
    exact hB18 70 _ _ _ _ _ _ _ _ hf  hR hS (lv_sub hl [3, 4, 2, 1, 0] rfl)
  · replace hf := g_if hf c1
    refine lv_bipush (v := -2) hx hb dX10_next_4 (by decide) ?_
    obtain rfl := g_s1 hf
    exact g_iret hx hb hlocks hr hS hR g_le.rf ⟨rfl, rfl⟩ (by omega) (by omega) dX10_next_6
set_option maxHeartbeats 4000000 in
set_option maxRecDepth 100000 in
theorem c10_order (l : Launch) (G : gG) (E : gEn) (μ : gMu) (z0 : gMo) (p1 : Int32) (p2 : Int32) (p3 : Int32) (p4 : Int32) (ro : Int32) (zo : gMo) (hf : f10_order z0 p1 p2 p3 p4 = some (ro, zo)) : Met l yX10_order wsX10_order ({ frames := 1, cells := 0, slots := 0, locals := 25 } : Room) (g_Pre G E (g_setM μ z0) [.ref (G.2.2 + 54), .int p1, .int p2, .int p3, .int p4]) (g_Q G E (g_setM μ zo) (fun E' v => E' = E ∧ v = some (.int ro))) 0 0 (g_A G) := by
  refine Met.ofW (cc := cX10_order) (maxL := 6) (ret := some .int) (by decide) rfl ?_
  intro p e s m args below meth c s₁ B hml hv
  obtain ⟨rfl, hR, hK⟩ := hv
  have hx := B.exec
  have hb := B.bytes
  have hr := B.returns
  have hts := atoms_spec (ws := wsX10_order) B.pre
  have hown : s.vm.findClass RX10 = some m.cls := findClass_of_methodNamed B.named
  have hlocks := B.notSynchronized
  have hS : va_S (g_A G) s.heap s.heap [] := va_S.rf
  have hl := lv_entry ([.ref (G.2.2 + 54), .int p1, .int p2, .int p3, .int p4]) (n := 6) (Nat.le_of_ble_eq_true rfl)
  rw [lg_entry_eq]
  generalize (lg_sl ([.ref (G.2.2 + 54), .int p1, .int p2, .int p3, .int p4]) ++ List.replicate (6 - (lg_sl ([.ref (G.2.2 + 54), .int p1, .int p2, .int p3, .int p4])).length) Slot.unset).toArray = ls at hl ⊢
  have hl : lv_has ls 6 [(0, .ref (G.2.2 + 54)), (1, .int p1), (2, .int p2), (3, .int p3), (4, .int p4)] := hl
  have in_10 : ∀ w ∈ u_ws RX10 TX10 9, w ∈ wsX10_order := ifX10_order_10
  have l_13 := hts (.fieldLink RX10 13 "GlassRacksModel" "spare" "[I") (by decide +kernel)
  have l_7 := hts (.fieldLink RX10 7 "GlassRacksModel" "now" "[I") (by decide +kernel)
  unfold f10_order at hf
  refine lv_iload_n hx hb dX10_order_0 rfl (lv_at hl 1 rfl) ?_
  refine lv_iconst (v := 0) hx hb dX10_order_1 (by decide) ?_
  refine lv_iconst (v := 2) hx hb dX10_order_2 (by decide) ?_
  obtain ⟨r1, hc2, hf⟩ := g_b1_e hf
  refine g_call (va_runS (As := [.int p1, .int (0 : Int32), .int (2 : Int32)]) (rest := []) ⟨hx, hb, hml, hown, hts⟩ (c10_in l G E (g_setM μ z0) _ _ _ _ hc2) (cwS 3 hts gX10_order_X10_in rfl rfl rfl (by decide +kernel) ⟨Nat.le_of_ble_eq_true rfl, Nat.le_of_ble_eq_true rfl⟩) (g_pre hR hK) rfl rfl hl.1 rfl (lv_room (Nat.le_of_ble_eq_true rfl)) dX10_order_3 ⟨by show _ ≤ 0; omega, by show _ ≤ 0; omega⟩) hS (fun w3 H locs hp hR hS => ?_)
  subst hp
  refine lv_if_ne (tgt := 11) hx hb dX10_order_6 (by decide) (fun c4 => ?_) (fun c4 => ?_)
  · replace hf := g_it hf c4
    refine lv_iload_n hx hb dX10_order_11 rfl (lv_at hl 2 rfl) ?_
    refine lv_iconst (v := 1) hx hb dX10_order_12 (by decide) ?_
    refine lv_bipush (v := 99) hx hb dX10_order_13 (by decide) ?_
    obtain ⟨r5, hc6, hf⟩ := g_b1_e hf
    refine g_call (va_runS (As := [.int p2, .int (1 : Int32), .int (99 : Int32)]) (rest := []) ⟨hx, hb, hml, hown, hts⟩ (c10_in l G E (g_setM μ z0) _ _ _ _ hc6) (cwS 3 hts gX10_order_X10_in rfl rfl rfl (by decide +kernel) ⟨Nat.le_of_ble_eq_true rfl, Nat.le_of_ble_eq_true rfl⟩) (g_pre hR hK) rfl rfl hl.1 rfl (lv_room (Nat.le_of_ble_eq_true rfl)) dX10_order_15 ⟨by show _ ≤ 0; omega, by show _ ≤ 0; omega⟩) hS (fun w7 H locs hp hR hS => ?_)
    subst hp
    refine lv_if_eq (tgt := 43) hx hb dX10_order_18 (by decide) (fun c8 => ?_) (fun c8 => ?_)
    · replace hf := g_it hf c8
      refine lv_bipush (v := -2) hx hb dX10_order_43 (by decide) ?_
      obtain ⟨rfl, rfl⟩ := g_sp hf
      exact g_iret hx hb hlocks hr hS hR g_le.rf ⟨rfl, rfl⟩ (by omega) (by omega) dX10_order_45
    · replace hf := g_if hf c8
      refine lv_iload_n hx hb dX10_order_21 rfl (lv_at hl 3 rfl) ?_
      refine lv_iconst (v := 1) hx hb dX10_order_22 (by decide) ?_
      refine lv_bipush (v := 99) hx hb dX10_order_23 (by decide) ?_
      obtain ⟨r9, hc10, hf⟩ := g_b1_e hf
      refine g_call (va_runS (As := [.int p3, .int (1 : Int32), .int (99 : Int32)]) (rest := []) ⟨hx, hb, hml, hown, hts⟩ (c10_in l G E (g_setM μ z0) _ _ _ _ hc10) (cwS 3 hts gX10_order_X10_in rfl rfl rfl (by decide +kernel) ⟨Nat.le_of_ble_eq_true rfl, Nat.le_of_ble_eq_true rfl⟩) (g_pre hR hK) rfl rfl hl.1 rfl (lv_room (Nat.le_of_ble_eq_true rfl)) dX10_order_25 ⟨by show _ ≤ 0; omega, by show _ ≤ 0; omega⟩) hS (fun w11 H locs hp hR hS => ?_)
      subst hp
      refine lv_if_eq (tgt := 43) hx hb dX10_order_28 (by decide) (fun c12 => ?_) (fun c12 => ?_)
      · replace hf := g_it hf c12
        refine lv_bipush (v := -2) hx hb dX10_order_43 (by decide) ?_
        obtain ⟨rfl, rfl⟩ := g_sp hf
        exact g_iret hx hb hlocks hr hS hR g_le.rf ⟨rfl, rfl⟩ (by omega) (by omega) dX10_order_45
      · replace hf := g_if hf c12
        refine lv_iload hx hb dX10_order_31 (lv_at hl 4 rfl) ?_
        refine lv_iconst (v := 0) hx hb dX10_order_33 (by decide) ?_
        refine lv_sipush (v := 999) hx hb dX10_order_34 (by decide) ?_
        obtain ⟨r13, hc14, hf⟩ := g_b1_e hf
        refine g_call (va_runS (As := [.int p4, .int (0 : Int32), .int (999 : Int32)]) (rest := []) ⟨hx, hb, hml, hown, hts⟩ (c10_in l G E (g_setM μ z0) _ _ _ _ hc14) (cwS 3 hts gX10_order_X10_in rfl rfl rfl (by decide +kernel) ⟨Nat.le_of_ble_eq_true rfl, Nat.le_of_ble_eq_true rfl⟩) (g_pre hR hK) rfl rfl hl.1 rfl (lv_room (Nat.le_of_ble_eq_true rfl)) dX10_order_37 ⟨by show _ ≤ 0; omega, by show _ ≤ 0; omega⟩) hS (fun w15 H locs hp hR hS => ?_)
        subst hp
        refine lv_if_ne (tgt := 46) hx hb dX10_order_40 (by decide) (fun c16 => ?_) (fun c16 => ?_)
        · replace hf := g_it hf c16
          refine lv_aload_n hx hb dX10_order_46 rfl (lv_at hl 0 rfl) ?_
          refine g_get hx hb hts in_10 hown hK hR.2.2.2.2.1.1 rfl 0 (by decide) l_7 rfl rfl dX10_order_47 ?_
          refine lv_aload_n hx hb dX10_order_50 rfl (lv_at hl 0 rfl) ?_
          refine g_get hx hb hts in_10 hown hK hR.2.2.2.2.1.1 rfl 1 (by decide) l_13 rfl rfl dX10_order_51 ?_
          obtain ⟨z17, hc18, hf⟩ := g_b1_e hf
          refine g_call (va_runS (As := [.ref (g_maA G 0), .ref (g_maA G 1)]) (rest := []) ⟨hx, hb, hml, hown, hts⟩ (c10_copy l G E μ _ 0 (by decide) 1 (by decide) _ hc18) (cwS 2 hts gX10_order_X10_copy rfl rfl rfl (by decide +kernel) ⟨Nat.le_of_ble_eq_true rfl, Nat.le_of_ble_eq_true rfl⟩) (g_pre hR hK) rfl rfl hl.1 rfl (lv_room (Nat.le_of_ble_eq_true rfl)) dX10_order_54 ⟨by show _ ≤ 0; omega, by show _ ≤ 0; omega⟩) hS (fun w19 H locs hp hR hS => ?_)
          subst hp
          refine lv_aload_n hx hb dX10_order_57 rfl (lv_at hl 0 rfl) ?_
          refine lv_iload_n hx hb dX10_order_58 rfl (lv_at hl 1 rfl) ?_
          refine lv_iload_n hx hb dX10_order_59 rfl (lv_at hl 2 rfl) ?_
          refine lv_iload_n hx hb dX10_order_60 rfl (lv_at hl 3 rfl) ?_
          refine lv_iload hx hb dX10_order_61 (lv_at hl 4 rfl) ?_
          obtain ⟨r20, z21, hc22, hf⟩ := g_bd_e hf
          refine g_call (va_runV (As := [.int p1, .int p2, .int p3, .int p4]) (rest := []) ⟨hx, hb, hml, hown, hts⟩ (c10_orders l G E μ _ _ _ _ _ _ _ hc22) (cwV 4 hts gX10_order_X10_orders rfl rfl rfl (by decide +kernel) ⟨Nat.le_of_ble_eq_true rfl, Nat.le_of_ble_eq_true rfl⟩) (g_preV (ci := 10) hR hK (hR.2.2.2.2.1.1) rfl) rfl rfl hl.1 rfl (lv_room (Nat.le_of_ble_eq_true rfl)) dX10_order_63 ⟨by show _ ≤ 0; omega, by show _ ≤ 0; omega⟩) hS (fun w23 H locs hp hR hS => ?_)
          subst hp
          refine lv_istore (lv' := [(5, .int r20), (0, .ref (G.2.2 + 54)), (1, .int p1), (2, .int p2), (3, .int p3), (4, .int p4)]) hx hb dX10_order_66 hl (by decide) rfl (fun ls hl => ?_)
          refine lv_iload hx hb dX10_order_68 (lv_at hl 0 rfl) ?_
          refine lv_if_lt (tgt := 81) hx hb dX10_order_70 (by decide) (fun c24 => ?_) (fun c24 => ?_)
          · replace hf := g_it hf c24
            refine lv_iload hx hb dX10_order_81 (lv_at hl 0 rfl) ?_
            obtain ⟨rfl, rfl⟩ := g_sp hf
            exact g_iret hx hb hlocks hr hS hR g_le.rf ⟨rfl, rfl⟩ (by omega) (by omega) dX10_order_83
          · replace hf := g_if hf c24
            refine lv_aload_n hx hb dX10_order_73 rfl (lv_at hl 1 rfl) ?_
            refine lv_aload_n hx hb dX10_order_74 rfl (lv_at hl 1 rfl) ?_
            refine g_get hx hb hts in_10 hown hK hR.2.2.2.2.1.1 rfl 1 (by decide) l_13 rfl rfl dX10_order_75 ?_
            obtain ⟨z25, hc26, hf⟩ := g_b1_e hf
            refine g_call (va_runV (As := [.ref (g_maA G 1)]) (rest := []) ⟨hx, hb, hml, hown, hts⟩ (c10_record l G E μ _ 1 (by decide) _ hc26) (cwV 1 hts gX10_order_X10_record rfl rfl rfl (by decide +kernel) ⟨Nat.le_of_ble_eq_true rfl, Nat.le_of_ble_eq_true rfl⟩) (g_preV (ci := 10) hR hK (hR.2.2.2.2.1.1) rfl) rfl rfl hl.1 rfl (lv_room (Nat.le_of_ble_eq_true rfl)) dX10_order_78 ⟨by show _ ≤ 0; omega, by show _ ≤ 0; omega⟩) hS (fun w27 H locs hp hR hS => ?_)
            subst hp
            refine lv_iload hx hb dX10_order_81 (lv_at hl 0 rfl) ?_
            obtain ⟨rfl, rfl⟩ := g_sp hf
            exact g_iret hx hb hlocks hr hS hR g_le.rf ⟨rfl, rfl⟩ (by omega) (by omega) dX10_order_83
        · replace hf := g_if hf (fun q => q c16)
          refine lv_bipush (v := -2) hx hb dX10_order_43 (by decide) ?_
          obtain ⟨rfl, rfl⟩ := g_sp hf
          exact g_iret hx hb hlocks hr hS hR g_le.rf ⟨rfl, rfl⟩ (by omega) (by omega) dX10_order_45
  · replace hf := g_if hf (fun q => q c4)
    refine lv_iconst (v := -1) hx hb dX10_order_9 (by decide) ?_
    obtain ⟨rfl, rfl⟩ := g_sp hf
    exact g_iret hx hb hlocks hr hS hR g_le.rf ⟨rfl, rfl⟩ (by omega) (by omega) dX10_order_10
set_option maxHeartbeats 4000000 in
set_option maxRecDepth 100000 in
theorem c10_ordered (l : Launch) (G : gG) (E : gEn) (μ : gMu) (z0 : gMo) (p1 : Int32) (p2 : Int32) (ro : Int32) (hf : f10_ordered z0 p1 p2 = some ro) : Met l yX10_ordered wsX10_ordered ({ frames := 3, cells := 0, slots := 0, locals := 64 } : Room) (g_Pre G E (g_setM μ z0) [.ref (G.2.2 + 54), .int p1, .int p2]) (g_Q G E (g_setM μ z0) (fun E' v => E' = E ∧ v = some (.int ro))) 0 0 (g_A G) := by
  refine Met.ofW (cc := cX10_ordered) (maxL := 3) (ret := some .int) (by decide) rfl ?_
  intro p e s m args below meth c s₁ B hml hv
  obtain ⟨rfl, hR, hK⟩ := hv
  have hx := B.exec
  have hb := B.bytes
  have hr := B.returns
  have hts := atoms_spec (ws := wsX10_ordered) B.pre
  have hown : s.vm.findClass RX10 = some m.cls := findClass_of_methodNamed B.named
  have hlocks := B.notSynchronized
  have hS : va_S (g_A G) s.heap s.heap [] := va_S.rf
  have hl := lv_entry ([.ref (G.2.2 + 54), .int p1, .int p2]) (n := 3) (Nat.le_of_ble_eq_true rfl)
  rw [lg_entry_eq]
  generalize (lg_sl ([.ref (G.2.2 + 54), .int p1, .int p2]) ++ List.replicate (3 - (lg_sl ([.ref (G.2.2 + 54), .int p1, .int p2])).length) Slot.unset).toArray = ls at hl ⊢
  have hl : lv_has ls 3 [(0, .ref (G.2.2 + 54)), (1, .int p1), (2, .int p2)] := hl
  have hB63 : ∀ (z0 : gMo) (x1 : Int32) (x2 : Int32) (H : Heap) (locs : List Loc) (ls : Array Slot), f10_ordered_63 z0 x1 x2 = some ro → g_R G E (g_setM μ z0) H → va_S (g_A G) s.heap H locs → lv_has ls 3 [(0, .ref (G.2.2 + 54)), (1, .int x1), (2, .int x2)] → W p l e (headSpec wsX10_ordered ({ frames := 3, cells := 0, slots := 0, locals := 64 } : Room)).room s m ([.ref (G.2.2 + 54), .int p1, .int p2] : List Value).toArray below meth c H locs 0 0 (MQ below (g_Q G E (g_setM μ z0) (fun E' v => E' = E ∧ v = some (.int ro))) ([.ref (G.2.2 + 54), .int p1, .int p2] : List Value).toArray s 0 0 (g_A G)) (F0 m 63 ls []) := by
    intro z0 x1 x2 H locs ls hf  hR hS hl
    unfold f10_ordered_63 at hf
    refine lv_aload_n hx hb dX10_ordered_63 rfl (lv_at hl 0 rfl) ?_
    refine lv_iload_n hx hb dX10_ordered_64 rfl (lv_at hl 1 rfl) ?_
    refine lv_iload_n hx hb dX10_ordered_65 rfl (lv_at hl 2 rfl) ?_
    obtain ⟨r11, hc12, hf⟩ := g_b1_e hf
    refine g_call (va_runV (As := [.int x1, .int x2]) (rest := []) ⟨hx, hb, hml, hown, hts⟩ (c10_of l G E μ _ _ _ _ hc12) (cwV 2 hts gX10_ordered_X10_of rfl rfl rfl (by decide +kernel) ⟨Nat.le_of_ble_eq_true rfl, Nat.le_of_ble_eq_true rfl⟩) (g_preV (ci := 10) hR hK (hR.2.2.2.2.1.1) rfl) rfl rfl hl.1 rfl (lv_room (Nat.le_of_ble_eq_true rfl)) dX10_ordered_66 ⟨by show _ ≤ 0; omega, by show _ ≤ 0; omega⟩) hS (fun w13 H locs hp hR hS => ?_)
    subst hp
    obtain rfl := g_s1 hf
    exact g_iret hx hb hlocks hr hS hR g_le.rf ⟨rfl, rfl⟩ (by omega) (by omega) dX10_ordered_69
  unfold f10_ordered at hf
  refine lv_aload_n hx hb dX10_ordered_0 rfl (lv_at hl 0 rfl) ?_
  refine lv_iload_n hx hb dX10_ordered_1 rfl (lv_at hl 1 rfl) ?_
  obtain ⟨r1, hc2, hf⟩ := g_b1_e hf
  refine g_call (va_runV (As := [.int p1]) (rest := []) ⟨hx, hb, hml, hown, hts⟩ (c10_isOrder l G E μ _ _ _ hc2) (cwV 1 hts gX10_ordered_X10_isOrder rfl rfl rfl (by decide +kernel) ⟨Nat.le_of_ble_eq_true rfl, Nat.le_of_ble_eq_true rfl⟩) (g_preV (ci := 10) hR hK (hR.2.2.2.2.1.1) rfl) rfl rfl hl.1 rfl (lv_room (Nat.le_of_ble_eq_true rfl)) dX10_ordered_2 ⟨by show _ ≤ 0; omega, by show _ ≤ 0; omega⟩) hS (fun w3 H locs hp hR hS => ?_)
  subst hp
  refine lv_if_ne (tgt := 10) hx hb dX10_ordered_5 (by decide) (fun c4 => ?_) (fun c4 => ?_)
  · replace hf := g_it hf c4
    refine lv_iload_n hx hb dX10_ordered_10 rfl (lv_at hl 2 rfl) ?_
    refine lv_iconst (v := 0) hx hb dX10_ordered_11 (by decide) ?_
    refine lv_bipush (v := 7) hx hb dX10_ordered_12 (by decide) ?_
    obtain ⟨r5, hc6, hf⟩ := g_b1_e hf
    refine g_call (va_runS (As := [.int p2, .int (0 : Int32), .int (7 : Int32)]) (rest := []) ⟨hx, hb, hml, hown, hts⟩ (c10_in l G E (g_setM μ z0) _ _ _ _ hc6) (cwS 3 hts gX10_ordered_X10_in rfl rfl rfl (by decide +kernel) ⟨Nat.le_of_ble_eq_true rfl, Nat.le_of_ble_eq_true rfl⟩) (g_pre hR hK) rfl rfl hl.1 rfl (lv_room (Nat.le_of_ble_eq_true rfl)) dX10_ordered_14 ⟨by show _ ≤ 0; omega, by show _ ≤ 0; omega⟩) hS (fun w7 H locs hp hR hS => ?_)
    subst hp
    refine lv_if_ne (tgt := 23) hx hb dX10_ordered_17 (by decide) (fun c8 => ?_) (fun c8 => ?_)
    · replace hf := g_it hf c8
      refine lv_iload_n hx hb dX10_ordered_23 rfl (lv_at hl 2 rfl) ?_
      refine lv_bipush (v := 7) hx hb dX10_ordered_24 (by decide) ?_
      refine lv_icmp_ne (tgt := 43) hx hb dX10_ordered_26 (by decide) (fun c9 => ?_) (fun c9 => ?_)
      · replace hf := g_it hf c9
        refine lv_iload_n hx hb dX10_ordered_43 rfl (lv_at hl 2 rfl) ?_
        refine lv_iconst (v := 4) hx hb dX10_ordered_44 (by decide) ?_
        refine lv_icmp_le (tgt := 63) hx hb dX10_ordered_45 (by decide) (fun c10 => ?_) (fun c10 => ?_)
        · replace hf := g_it hf c10
          exact hB63 _ _ _ _ _ _ hf  hR hS (lv_sub hl [0, 1, 2] rfl)
        · replace hf := g_if hf c10
          refine lv_aload_n hx hb dX10_ordered_48 rfl (lv_at hl 0 rfl) ?_
          refine lv_iload_n hx hb dX10_ordered_49 rfl (lv_at hl 1 rfl) ?_
          refine lv_iconst (v := 4) hx hb dX10_ordered_50 (by decide) ?_
          obtain ⟨r14, hc15, hf⟩ := g_b1_e hf
          refine g_call (va_runV (As := [.int p1, .int (4 : Int32)]) (rest := []) ⟨hx, hb, hml, hown, hts⟩ (c10_of l G E μ _ _ _ _ hc15) (cwV 2 hts gX10_ordered_X10_of rfl rfl rfl (by decide +kernel) ⟨Nat.le_of_ble_eq_true rfl, Nat.le_of_ble_eq_true rfl⟩) (g_preV (ci := 10) hR hK (hR.2.2.2.2.1.1) rfl) rfl rfl hl.1 rfl (lv_room (Nat.le_of_ble_eq_true rfl)) dX10_ordered_51 ⟨by show _ ≤ 0; omega, by show _ ≤ 0; omega⟩) hS (fun w16 H locs hp hR hS => ?_)
          subst hp
          refine lv_iconst (v := 1) hx hb dX10_ordered_54 (by decide) ?_
          refine lv_icmp_eq (tgt := 63) hx hb dX10_ordered_55 (by decide) (fun c17 => ?_) (fun c17 => ?_)
          · replace hf := g_it hf c17
            exact hB63 _ _ _ _ _ _ hf  hR hS (lv_sub hl [0, 1, 2] rfl)
          · replace hf := g_if hf c17
            refine lv_bipush (v := -5) hx hb dX10_ordered_58 (by decide) ?_
            refine lv_goto (tgt := 69) hx hb dX10_ordered_60 (by decide) ?_
            obtain rfl := g_s1 hf
            exact g_iret hx hb hlocks hr hS hR g_le.rf ⟨rfl, rfl⟩ (by omega) (by omega) dX10_ordered_69
      · replace hf := g_if hf (fun q => q c9)
        refine lv_aload_n hx hb dX10_ordered_29 rfl (lv_at hl 0 rfl) ?_
        refine lv_iload_n hx hb dX10_ordered_30 rfl (lv_at hl 1 rfl) ?_
        obtain ⟨r18, hc19, hf⟩ := g_b1_e hf
        refine g_call (va_runV (As := [.int p1]) (rest := []) ⟨hx, hb, hml, hown, hts⟩ (c10_isLate l G E μ _ _ _ hc19) (cwV 1 hts gX10_ordered_X10_isLate rfl rfl rfl (by decide +kernel) ⟨Nat.le_of_ble_eq_true rfl, Nat.le_of_ble_eq_true rfl⟩) (g_preV (ci := 10) hR hK (hR.2.2.2.2.1.1) rfl) rfl rfl hl.1 rfl (lv_room (Nat.le_of_ble_eq_true rfl)) dX10_ordered_31 ⟨by show _ ≤ 0; omega, by show _ ≤ 0; omega⟩) hS (fun w20 H locs hp hR hS => ?_)
        subst hp
        refine lv_if_eq (tgt := 41) hx hb dX10_ordered_34 (by decide) (fun c21 => ?_) (fun c21 => ?_)
        · replace hf := g_it hf c21
          refine lv_iconst (v := 0) hx hb dX10_ordered_41 (by decide) ?_
          obtain rfl := g_s1 hf
          exact g_iret hx hb hlocks hr hS hR g_le.rf ⟨rfl, rfl⟩ (by omega) (by omega) dX10_ordered_42
        · replace hf := g_if hf c21
          refine lv_iconst (v := 1) hx hb dX10_ordered_37 (by decide) ?_
          refine lv_goto (tgt := 42) hx hb dX10_ordered_38 (by decide) ?_
          obtain rfl := g_s1 hf
          exact g_iret hx hb hlocks hr hS hR g_le.rf ⟨rfl, rfl⟩ (by omega) (by omega) dX10_ordered_42
    · replace hf := g_if hf (fun q => q c8)
      refine lv_bipush (v := -2) hx hb dX10_ordered_20 (by decide) ?_
      obtain rfl := g_s1 hf
      exact g_iret hx hb hlocks hr hS hR g_le.rf ⟨rfl, rfl⟩ (by omega) (by omega) dX10_ordered_22
  · replace hf := g_if hf (fun q => q c4)
    refine lv_iconst (v := -1) hx hb dX10_ordered_8 (by decide) ?_
    obtain rfl := g_s1 hf
    exact g_iret hx hb hlocks hr hS hR g_le.rf ⟨rfl, rfl⟩ (by omega) (by omega) dX10_ordered_9
set_option maxHeartbeats 4000000 in
set_option maxRecDepth 100000 in
theorem c10_pass (l : Launch) (G : gG) (E : gEn) (μ : gMu) (z0 : gMo) (p1 : Int32) (ro : Int32) (zo : gMo) (hf : f10_pass z0 p1 = some (ro, zo)) : Met l yX10_pass wsX10_pass ({ frames := 5, cells := 0, slots := 0, locals := 108 } : Room) (g_Pre G E (g_setM μ z0) [.ref (G.2.2 + 54), .int p1]) (g_Q G E (g_setM μ zo) (fun E' v => E' = E ∧ v = some (.int ro))) 0 0 (g_A G) := by
  refine Met.ofW (cc := cX10_pass) (maxL := 3) (ret := some .int) (by decide) rfl ?_
  intro p e s m args below meth c s₁ B hml hv
  obtain ⟨rfl, hR, hK⟩ := hv
  have hx := B.exec
  have hb := B.bytes
  have hr := B.returns
  have hts := atoms_spec (ws := wsX10_pass) B.pre
  have hown : s.vm.findClass RX10 = some m.cls := findClass_of_methodNamed B.named
  have hlocks := B.notSynchronized
  have hS : va_S (g_A G) s.heap s.heap [] := va_S.rf
  have hl := lv_entry ([.ref (G.2.2 + 54), .int p1]) (n := 3) (Nat.le_of_ble_eq_true rfl)
  rw [lg_entry_eq]
  generalize (lg_sl ([.ref (G.2.2 + 54), .int p1]) ++ List.replicate (3 - (lg_sl ([.ref (G.2.2 + 54), .int p1])).length) Slot.unset).toArray = ls at hl ⊢
  have hl : lv_has ls 3 [(0, .ref (G.2.2 + 54)), (1, .int p1)] := hl
  have in_10 : ∀ w ∈ u_ws RX10 TX10 9, w ∈ wsX10_pass := ifX10_pass_10
  have l_13 := hts (.fieldLink RX10 13 "GlassRacksModel" "spare" "[I") (by decide +kernel)
  have l_7 := hts (.fieldLink RX10 7 "GlassRacksModel" "now" "[I") (by decide +kernel)
  unfold f10_pass at hf
  refine lv_iload_n hx hb dX10_pass_0 rfl (lv_at hl 1 rfl) ?_
  refine lv_iconst (v := 1) hx hb dX10_pass_1 (by decide) ?_
  refine lv_bipush (v := 99) hx hb dX10_pass_2 (by decide) ?_
  obtain ⟨r1, hc2, hf⟩ := g_b1_e hf
  refine g_call (va_runS (As := [.int p1, .int (1 : Int32), .int (99 : Int32)]) (rest := []) ⟨hx, hb, hml, hown, hts⟩ (c10_in l G E (g_setM μ z0) _ _ _ _ hc2) (cwS 3 hts gX10_pass_X10_in rfl rfl rfl (by decide +kernel) ⟨Nat.le_of_ble_eq_true rfl, Nat.le_of_ble_eq_true rfl⟩) (g_pre hR hK) rfl rfl hl.1 rfl (lv_room (Nat.le_of_ble_eq_true rfl)) dX10_pass_4 ⟨by show _ ≤ 0; omega, by show _ ≤ 0; omega⟩) hS (fun w3 H locs hp hR hS => ?_)
  subst hp
  refine lv_if_ne (tgt := 13) hx hb dX10_pass_7 (by decide) (fun c4 => ?_) (fun c4 => ?_)
  · replace hf := g_it hf c4
    refine lv_aload_n hx hb dX10_pass_13 rfl (lv_at hl 0 rfl) ?_
    refine g_get hx hb hts in_10 hown hK hR.2.2.2.2.1.1 rfl 0 (by decide) l_7 rfl rfl dX10_pass_14 ?_
    refine lv_aload_n hx hb dX10_pass_17 rfl (lv_at hl 0 rfl) ?_
    refine g_get hx hb hts in_10 hown hK hR.2.2.2.2.1.1 rfl 1 (by decide) l_13 rfl rfl dX10_pass_18 ?_
    obtain ⟨z5, hc6, hf⟩ := g_b1_e hf
    refine g_call (va_runS (As := [.ref (g_maA G 0), .ref (g_maA G 1)]) (rest := []) ⟨hx, hb, hml, hown, hts⟩ (c10_copy l G E μ _ 0 (by decide) 1 (by decide) _ hc6) (cwS 2 hts gX10_pass_X10_copy rfl rfl rfl (by decide +kernel) ⟨Nat.le_of_ble_eq_true rfl, Nat.le_of_ble_eq_true rfl⟩) (g_pre hR hK) rfl rfl hl.1 rfl (lv_room (Nat.le_of_ble_eq_true rfl)) dX10_pass_21 ⟨by show _ ≤ 0; omega, by show _ ≤ 0; omega⟩) hS (fun w7 H locs hp hR hS => ?_)
    subst hp
    refine lv_aload_n hx hb dX10_pass_24 rfl (lv_at hl 0 rfl) ?_
    refine lv_iload_n hx hb dX10_pass_25 rfl (lv_at hl 1 rfl) ?_
    obtain ⟨r8, z9, hc10, hf⟩ := g_bd_e hf
    refine g_call (va_runV (As := [.int p1]) (rest := []) ⟨hx, hb, hml, hown, hts⟩ (c10_passes l G E μ _ _ _ _ hc10) (cwV 1 hts gX10_pass_X10_passes rfl rfl rfl (by decide +kernel) ⟨Nat.le_of_ble_eq_true rfl, Nat.le_of_ble_eq_true rfl⟩) (g_preV (ci := 10) hR hK (hR.2.2.2.2.1.1) rfl) rfl rfl hl.1 rfl (lv_room (Nat.le_of_ble_eq_true rfl)) dX10_pass_26 ⟨by show _ ≤ 0; omega, by show _ ≤ 0; omega⟩) hS (fun w11 H locs hp hR hS => ?_)
    subst hp
    refine lv_istore_n (lv' := [(2, .int r8), (0, .ref (G.2.2 + 54)), (1, .int p1)]) hx hb dX10_pass_29 rfl hl (by decide) rfl (fun ls hl => ?_)
    refine lv_iload_n hx hb dX10_pass_30 rfl (lv_at hl 0 rfl) ?_
    refine lv_if_lt (tgt := 42) hx hb dX10_pass_31 (by decide) (fun c12 => ?_) (fun c12 => ?_)
    · replace hf := g_it hf c12
      refine lv_iload_n hx hb dX10_pass_42 rfl (lv_at hl 0 rfl) ?_
      obtain ⟨rfl, rfl⟩ := g_sp hf
      exact g_iret hx hb hlocks hr hS hR g_le.rf ⟨rfl, rfl⟩ (by omega) (by omega) dX10_pass_43
    · replace hf := g_if hf c12
      refine lv_aload_n hx hb dX10_pass_34 rfl (lv_at hl 1 rfl) ?_
      refine lv_aload_n hx hb dX10_pass_35 rfl (lv_at hl 1 rfl) ?_
      refine g_get hx hb hts in_10 hown hK hR.2.2.2.2.1.1 rfl 1 (by decide) l_13 rfl rfl dX10_pass_36 ?_
      obtain ⟨z13, hc14, hf⟩ := g_b1_e hf
      refine g_call (va_runV (As := [.ref (g_maA G 1)]) (rest := []) ⟨hx, hb, hml, hown, hts⟩ (c10_record l G E μ _ 1 (by decide) _ hc14) (cwV 1 hts gX10_pass_X10_record rfl rfl rfl (by decide +kernel) ⟨Nat.le_of_ble_eq_true rfl, Nat.le_of_ble_eq_true rfl⟩) (g_preV (ci := 10) hR hK (hR.2.2.2.2.1.1) rfl) rfl rfl hl.1 rfl (lv_room (Nat.le_of_ble_eq_true rfl)) dX10_pass_39 ⟨by show _ ≤ 0; omega, by show _ ≤ 0; omega⟩) hS (fun w15 H locs hp hR hS => ?_)
      subst hp
      refine lv_iload_n hx hb dX10_pass_42 rfl (lv_at hl 0 rfl) ?_
      obtain ⟨rfl, rfl⟩ := g_sp hf
      exact g_iret hx hb hlocks hr hS hR g_le.rf ⟨rfl, rfl⟩ (by omega) (by omega) dX10_pass_43
  · replace hf := g_if hf (fun q => q c4)
    refine lv_bipush (v := -2) hx hb dX10_pass_10 (by decide) ?_
    obtain ⟨rfl, rfl⟩ := g_sp hf
    exact g_iret hx hb hlocks hr hS hR g_le.rf ⟨rfl, rfl⟩ (by omega) (by omega) dX10_pass_12
set_option maxHeartbeats 4000000 in
set_option maxRecDepth 100000 in
theorem c10_perform (l : Launch) (G : gG) (E : gEn) (μ : gMu) (z0 : gMo)  (ro : Int32) (zo : gMo) (hf : f10_perform z0 = some (ro, zo)) : Met l yX10_perform wsX10_perform ({ frames := 11, cells := 0, slots := 0, locals := 268 } : Room) (g_Pre G E (g_setM μ z0) [.ref (G.2.2 + 54)]) (g_Q G E (g_setM μ zo) (fun E' v => E' = E ∧ v = some (.int ro))) 0 0 (g_A G) := by
  refine Met.ofW (cc := cX10_perform) (maxL := 4) (ret := some .int) (by decide) rfl ?_
  intro p e s m args below meth c s₁ B hml hv
  obtain ⟨rfl, hR, hK⟩ := hv
  have hx := B.exec
  have hb := B.bytes
  have hr := B.returns
  have hts := atoms_spec (ws := wsX10_perform) B.pre
  have hown : s.vm.findClass RX10 = some m.cls := findClass_of_methodNamed B.named
  have hlocks := B.notSynchronized
  have hS : va_S (g_A G) s.heap s.heap [] := va_S.rf
  have hl := lv_entry ([.ref (G.2.2 + 54)]) (n := 4) (Nat.le_of_ble_eq_true rfl)
  rw [lg_entry_eq]
  generalize (lg_sl ([.ref (G.2.2 + 54)]) ++ List.replicate (4 - (lg_sl ([.ref (G.2.2 + 54)])).length) Slot.unset).toArray = ls at hl ⊢
  have hl : lv_has ls 4 [(0, .ref (G.2.2 + 54))] := hl
  have in_10 : ∀ w ∈ u_ws RX10 TX10 9, w ∈ wsX10_perform := ifX10_perform_10
  have l_13 := hts (.fieldLink RX10 13 "GlassRacksModel" "spare" "[I") (by decide +kernel)
  have l_146 := hts (.fieldLink RX10 146 "GlassRacksModel" "at" "I") (by decide +kernel)
  have l_7 := hts (.fieldLink RX10 7 "GlassRacksModel" "now" "[I") (by decide +kernel)
  have hB35 : ∀ (n : Nat) (z0 : gMo) (x1 : Int32) (x2 : Int32) (H : Heap) (locs : List Loc) (ls : Array Slot), f10_perform_35 n z0 x1 x2 = some (ro, zo) → g_R G E (g_setM μ z0) H → va_S (g_A G) s.heap H locs → lv_has ls 4 [(0, .ref (G.2.2 + 54)), (1, .int x1), (2, .int x2)] → W p l e (headSpec wsX10_perform ({ frames := 11, cells := 0, slots := 0, locals := 268 } : Room)).room s m ([.ref (G.2.2 + 54)] : List Value).toArray below meth c H locs 0 0 (MQ below (g_Q G E (g_setM μ zo) (fun E' v => E' = E ∧ v = some (.int ro))) ([.ref (G.2.2 + 54)] : List Value).toArray s 0 0 (g_A G)) (F0 m 35 ls []) := by
    intro n
    induction n with
    | zero =>
      intro z0 x1 x2 H locs ls hf
      rw [f10_perform_35] at hf
      cases hf
    | succ n ih =>
      intro z0 x1 x2 H locs ls hf  hR hS hl
      rw [f10_perform_35] at hf
      refine lv_iload_n hx hb dX10_perform_35 rfl (lv_at hl 2 rfl) ?_
      refine lv_iload_n hx hb dX10_perform_36 rfl (lv_at hl 1 rfl) ?_
      refine lv_icmp_ge (tgt := 79) hx hb dX10_perform_37 (by decide) (fun c10 => ?_) (fun c10 => ?_)
      · replace hf := g_it hf c10
        refine lv_aload_n hx hb dX10_perform_79 rfl (lv_at hl 0 rfl) ?_
        refine lv_aload_n hx hb dX10_perform_80 rfl (lv_at hl 0 rfl) ?_
        refine g_get hx hb hts in_10 hown hK hR.2.2.2.2.1.1 rfl 1 (by decide) l_13 rfl rfl dX10_perform_81 ?_
        obtain ⟨z11, hc12, hf⟩ := g_b1_e hf
        refine g_call (va_runV (As := [.ref (g_maA G 1)]) (rest := []) ⟨hx, hb, hml, hown, hts⟩ (c10_record l G E μ _ 1 (by decide) _ hc12) (cwV 1 hts gX10_perform_X10_record rfl rfl rfl (by decide +kernel) ⟨Nat.le_of_ble_eq_true rfl, Nat.le_of_ble_eq_true rfl⟩) (g_preV (ci := 10) hR hK (hR.2.2.2.2.1.1) rfl) rfl rfl hl.1 rfl (lv_room (Nat.le_of_ble_eq_true rfl)) dX10_perform_84 ⟨by show _ ≤ 0; omega, by show _ ≤ 0; omega⟩) hS (fun w13 H locs hp hR hS => ?_)
        subst hp
        refine lv_iload_n hx hb dX10_perform_87 rfl (lv_at hl 1 rfl) ?_
        obtain ⟨rfl, rfl⟩ := g_sp hf
        exact g_iret hx hb hlocks hr hS hR g_le.rf ⟨rfl, rfl⟩ (by omega) (by omega) dX10_perform_88
      · replace hf := g_if hf c10
        refine lv_aload_n hx hb dX10_perform_40 rfl (lv_at hl 0 rfl) ?_
        refine lv_iconst (v := 1) hx hb dX10_perform_41 (by decide) ?_
        obtain ⟨r14, z15, hc16, hf⟩ := g_bd_e hf
        refine g_call (va_runV (As := [.int (1 : Int32)]) (rest := []) ⟨hx, hb, hml, hown, hts⟩ (c10_command l G E μ _ _ _ _ hc16) (cwV 1 hts gX10_perform_X10_command rfl rfl rfl (by decide +kernel) ⟨Nat.le_of_ble_eq_true rfl, Nat.le_of_ble_eq_true rfl⟩) (g_preV (ci := 10) hR hK (hR.2.2.2.2.1.1) rfl) rfl rfl hl.1 rfl (lv_room (Nat.le_of_ble_eq_true rfl)) dX10_perform_42 ⟨by show _ ≤ 0; omega, by show _ ≤ 0; omega⟩) hS (fun w17 H locs hp hR hS => ?_)
        subst hp
        refine lv_istore_n (lv' := [(3, .int r14), (0, .ref (G.2.2 + 54)), (1, .int x1), (2, .int x2)]) hx hb dX10_perform_45 rfl hl (by decide) rfl (fun ls hl => ?_)
        refine lv_iload_n hx hb dX10_perform_46 rfl (lv_at hl 0 rfl) ?_
        refine lv_if_ge (tgt := 63) hx hb dX10_perform_47 (by decide) (fun c18 => ?_) (fun c18 => ?_)
        · replace hf := g_it hf c18
          refine lv_aload_n hx hb dX10_perform_63 rfl (lv_at hl 1 rfl) ?_
          refine lv_dup hx hb dX10_perform_64 rfl ?_
          refine g_get hx hb hts in_10 hown hK hR.2.2.2.2.1.1 rfl 8 (by decide) l_146 rfl rfl dX10_perform_65 ?_
          refine lv_iconst (v := 1) hx hb dX10_perform_68 (by decide) ?_
          refine lv_iadd hx hb dX10_perform_69 ?_
          refine g_p10_8 hx hb hts in_10 hown hK hS hR l_146 dX10_perform_70 (fun H locs hR hS => ?_)
          obtain ⟨z19, ez19, hf⟩ := g_let_e hf
          replace hR : g_R G E (g_setM μ z19) H := by rw [ez19]; exact hR
          refine lv_iinc (v := x2 + 1) (lv' := [(2, .int (x2 + 1)), (3, .int r14), (0, .ref (G.2.2 + 54)), (1, .int x1)]) hx hb dX10_perform_73 hl (k := 3) rfl rfl (by decide) rfl (fun ls hl => ?_)
          refine lv_goto (tgt := 35) hx hb dX10_perform_76 (by decide) ?_
          exact ih _ _ _ _ _ _ hf  hR hS (lv_sub hl [2, 3, 0] rfl)
        · replace hf := g_if hf c18
          refine lv_aload_n hx hb dX10_perform_50 rfl (lv_at hl 1 rfl) ?_
          refine g_get hx hb hts in_10 hown hK hR.2.2.2.2.1.1 rfl 1 (by decide) l_13 rfl rfl dX10_perform_51 ?_
          refine lv_aload_n hx hb dX10_perform_54 rfl (lv_at hl 1 rfl) ?_
          refine g_get hx hb hts in_10 hown hK hR.2.2.2.2.1.1 rfl 0 (by decide) l_7 rfl rfl dX10_perform_55 ?_
          obtain ⟨z20, hc21, hf⟩ := g_b1_e hf
          refine g_call (va_runS (As := [.ref (g_maA G 1), .ref (g_maA G 0)]) (rest := []) ⟨hx, hb, hml, hown, hts⟩ (c10_copy l G E μ _ 1 (by decide) 0 (by decide) _ hc21) (cwS 2 hts gX10_perform_X10_copy rfl rfl rfl (by decide +kernel) ⟨Nat.le_of_ble_eq_true rfl, Nat.le_of_ble_eq_true rfl⟩) (g_pre hR hK) rfl rfl hl.1 rfl (lv_room (Nat.le_of_ble_eq_true rfl)) dX10_perform_58 ⟨by show _ ≤ 0; omega, by show _ ≤ 0; omega⟩) hS (fun w22 H locs hp hR hS => ?_)
          subst hp
          refine lv_iload_n hx hb dX10_perform_61 rfl (lv_at hl 0 rfl) ?_
          obtain ⟨rfl, rfl⟩ := g_sp hf
          exact g_iret hx hb hlocks hr hS hR g_le.rf ⟨rfl, rfl⟩ (by omega) (by omega) dX10_perform_62
  unfold f10_perform at hf
  refine lv_aload_n hx hb dX10_perform_0 rfl (lv_at hl 0 rfl) ?_
  obtain ⟨r1, z2, hc3, hf⟩ := g_bd_e hf
  refine g_call (va_runV (As := []) (rest := []) ⟨hx, hb, hml, hown, hts⟩ (c10_commands l G E μ _ _ _ hc3) (cwV 0 hts gX10_perform_X10_commands rfl rfl rfl (by decide +kernel) ⟨Nat.le_of_ble_eq_true rfl, Nat.le_of_ble_eq_true rfl⟩) (g_preV (ci := 10) hR hK (hR.2.2.2.2.1.1) rfl) rfl rfl hl.1 rfl (lv_room (Nat.le_of_ble_eq_true rfl)) dX10_perform_1 ⟨by show _ ≤ 0; omega, by show _ ≤ 0; omega⟩) hS (fun w4 H locs hp hR hS => ?_)
  subst hp
  refine lv_istore_n (lv' := [(1, .int r1), (0, .ref (G.2.2 + 54))]) hx hb dX10_perform_4 rfl hl (by decide) rfl (fun ls hl => ?_)
  refine lv_iload_n hx hb dX10_perform_5 rfl (lv_at hl 0 rfl) ?_
  refine lv_if_ne (tgt := 17) hx hb dX10_perform_6 (by decide) (fun c5 => ?_) (fun c5 => ?_)
  · replace hf := g_it hf c5
    refine lv_aload_n hx hb dX10_perform_17 rfl (lv_at hl 1 rfl) ?_
    refine g_get hx hb hts in_10 hown hK hR.2.2.2.2.1.1 rfl 0 (by decide) l_7 rfl rfl dX10_perform_18 ?_
    refine lv_aload_n hx hb dX10_perform_21 rfl (lv_at hl 1 rfl) ?_
    refine g_get hx hb hts in_10 hown hK hR.2.2.2.2.1.1 rfl 1 (by decide) l_13 rfl rfl dX10_perform_22 ?_
    obtain ⟨z6, hc7, hf⟩ := g_b1_e hf
    refine g_call (va_runS (As := [.ref (g_maA G 0), .ref (g_maA G 1)]) (rest := []) ⟨hx, hb, hml, hown, hts⟩ (c10_copy l G E μ _ 0 (by decide) 1 (by decide) _ hc7) (cwS 2 hts gX10_perform_X10_copy rfl rfl rfl (by decide +kernel) ⟨Nat.le_of_ble_eq_true rfl, Nat.le_of_ble_eq_true rfl⟩) (g_pre hR hK) rfl rfl hl.1 rfl (lv_room (Nat.le_of_ble_eq_true rfl)) dX10_perform_25 ⟨by show _ ≤ 0; omega, by show _ ≤ 0; omega⟩) hS (fun w8 H locs hp hR hS => ?_)
    subst hp
    refine lv_aload_n hx hb dX10_perform_28 rfl (lv_at hl 1 rfl) ?_
    refine lv_iconst (v := 0) hx hb dX10_perform_29 (by decide) ?_
    refine g_p10_8 hx hb hts in_10 hown hK hS hR l_146 dX10_perform_30 (fun H locs hR hS => ?_)
    obtain ⟨z9, ez9, hf⟩ := g_let_e hf
    replace hR : g_R G E (g_setM μ z9) H := by rw [ez9]; exact hR
    refine lv_iconst (v := 0) hx hb dX10_perform_33 (by decide) ?_
    refine lv_istore_n (lv' := [(2, .int (0 : Int32)), (1, .int r1), (0, .ref (G.2.2 + 54))]) hx hb dX10_perform_34 rfl hl (by decide) rfl (fun ls hl => ?_)
    exact hB35 70 _ _ _ _ _ _ hf  hR hS (lv_sub hl [2, 1, 0] rfl)
  · replace hf := g_if hf (fun q => q c5)
    refine lv_bipush (v := -100) hx hb dX10_perform_9 (by decide) ?_
    refine lv_aload_n hx hb dX10_perform_11 rfl (lv_at hl 1 rfl) ?_
    refine g_get hx hb hts in_10 hown hK hR.2.2.2.2.1.1 rfl 8 (by decide) l_146 rfl rfl dX10_perform_12 ?_
    refine lv_isub hx hb dX10_perform_15 ?_
    obtain ⟨rfl, rfl⟩ := g_sp hf
    exact g_iret hx hb hlocks hr hS hR g_le.rf ⟨rfl, rfl⟩ (by omega) (by omega) dX10_perform_16
set_option maxHeartbeats 4000000 in
set_option maxRecDepth 100000 in
theorem c10_plan (l : Launch) (G : gG) (E : gEn) (μ : gMu) (z0 : gMo) (p1 : Int32) (ro : Int32) (zo : gMo) (hf : f10_plan z0 p1 = some (ro, zo)) : Met l yX10_plan wsX10_plan ({ frames := 9, cells := 0, slots := 0, locals := 219 } : Room) (g_Pre G E (g_setM μ z0) [.ref (G.2.2 + 54), .int p1]) (g_Q G E (g_setM μ zo) (fun E' v => E' = E ∧ v = some (.int ro))) 0 0 (g_A G) := by
  refine Met.ofW (cc := cX10_plan) (maxL := 2) (ret := some .int) (by decide) rfl ?_
  intro p e s m args below meth c s₁ B hml hv
  obtain ⟨rfl, hR, hK⟩ := hv
  have hx := B.exec
  have hb := B.bytes
  have hr := B.returns
  have hts := atoms_spec (ws := wsX10_plan) B.pre
  have hown : s.vm.findClass RX10 = some m.cls := findClass_of_methodNamed B.named
  have hlocks := B.notSynchronized
  have hS : va_S (g_A G) s.heap s.heap [] := va_S.rf
  have hl := lv_entry ([.ref (G.2.2 + 54), .int p1]) (n := 2) (Nat.le_of_ble_eq_true rfl)
  rw [lg_entry_eq]
  generalize (lg_sl ([.ref (G.2.2 + 54), .int p1]) ++ List.replicate (2 - (lg_sl ([.ref (G.2.2 + 54), .int p1])).length) Slot.unset).toArray = ls at hl ⊢
  have hl : lv_has ls 2 [(0, .ref (G.2.2 + 54)), (1, .int p1)] := hl
  have in_10 : ∀ w ∈ u_ws RX10 TX10 9, w ∈ wsX10_plan := ifX10_plan_10
  have l_7 := hts (.fieldLink RX10 7 "GlassRacksModel" "now" "[I") (by decide +kernel)
  unfold f10_plan at hf
  refine lv_iload_n hx hb dX10_plan_0 rfl (lv_at hl 1 rfl) ?_
  refine lv_iconst (v := 0) hx hb dX10_plan_1 (by decide) ?_
  refine lv_iconst (v := 2) hx hb dX10_plan_2 (by decide) ?_
  obtain ⟨r1, hc2, hf⟩ := g_b1_e hf
  refine g_call (va_runS (As := [.int p1, .int (0 : Int32), .int (2 : Int32)]) (rest := []) ⟨hx, hb, hml, hown, hts⟩ (c10_in l G E (g_setM μ z0) _ _ _ _ hc2) (cwS 3 hts gX10_plan_X10_in rfl rfl rfl (by decide +kernel) ⟨Nat.le_of_ble_eq_true rfl, Nat.le_of_ble_eq_true rfl⟩) (g_pre hR hK) rfl rfl hl.1 rfl (lv_room (Nat.le_of_ble_eq_true rfl)) dX10_plan_3 ⟨by show _ ≤ 0; omega, by show _ ≤ 0; omega⟩) hS (fun w3 H locs hp hR hS => ?_)
  subst hp
  refine lv_if_ne (tgt := 12) hx hb dX10_plan_6 (by decide) (fun c4 => ?_) (fun c4 => ?_)
  · replace hf := g_it hf c4
    refine lv_aload_n hx hb dX10_plan_12 rfl (lv_at hl 0 rfl) ?_
    obtain ⟨r5, hc6, hf⟩ := g_b1_e hf
    refine g_call (va_runV (As := []) (rest := []) ⟨hx, hb, hml, hown, hts⟩ (c10_open l G E μ _ _ hc6) (cwV 0 hts gX10_plan_X10_open rfl rfl rfl (by decide +kernel) ⟨Nat.le_of_ble_eq_true rfl, Nat.le_of_ble_eq_true rfl⟩) (g_preV (ci := 10) hR hK (hR.2.2.2.2.1.1) rfl) rfl rfl hl.1 rfl (lv_room (Nat.le_of_ble_eq_true rfl)) dX10_plan_13 ⟨by show _ ≤ 0; omega, by show _ ≤ 0; omega⟩) hS (fun w7 H locs hp hR hS => ?_)
    subst hp
    refine lv_if_ne (tgt := 22) hx hb dX10_plan_16 (by decide) (fun c8 => ?_) (fun c8 => ?_)
    · replace hf := g_it hf c8
      refine lv_aload_n hx hb dX10_plan_22 rfl (lv_at hl 0 rfl) ?_
      refine lv_aload_n hx hb dX10_plan_23 rfl (lv_at hl 0 rfl) ?_
      refine g_get hx hb hts in_10 hown hK hR.2.2.2.2.1.1 rfl 0 (by decide) l_7 rfl rfl dX10_plan_24 ?_
      obtain ⟨z9, hc10, hf⟩ := g_b1_e hf
      refine g_call (va_runV (As := [.ref (g_maA G 0)]) (rest := []) ⟨hx, hb, hml, hown, hts⟩ (c10_record l G E μ _ 0 (by decide) _ hc10) (cwV 1 hts gX10_plan_X10_record rfl rfl rfl (by decide +kernel) ⟨Nat.le_of_ble_eq_true rfl, Nat.le_of_ble_eq_true rfl⟩) (g_preV (ci := 10) hR hK (hR.2.2.2.2.1.1) rfl) rfl rfl hl.1 rfl (lv_room (Nat.le_of_ble_eq_true rfl)) dX10_plan_27 ⟨by show _ ≤ 0; omega, by show _ ≤ 0; omega⟩) hS (fun w11 H locs hp hR hS => ?_)
      subst hp
      refine lv_aload_n hx hb dX10_plan_30 rfl (lv_at hl 0 rfl) ?_
      refine lv_iload_n hx hb dX10_plan_31 rfl (lv_at hl 1 rfl) ?_
      obtain ⟨r12, z13, hc14, hf⟩ := g_bd_e hf
      refine g_call (va_runV (As := [.int p1]) (rest := []) ⟨hx, hb, hml, hown, hts⟩ (c10_plans l G E μ _ _ _ _ hc14) (cwV 1 hts gX10_plan_X10_plans rfl rfl rfl (by decide +kernel) ⟨Nat.le_of_ble_eq_true rfl, Nat.le_of_ble_eq_true rfl⟩) (g_preV (ci := 10) hR hK (hR.2.2.2.2.1.1) rfl) rfl rfl hl.1 rfl (lv_room (Nat.le_of_ble_eq_true rfl)) dX10_plan_32 ⟨by show _ ≤ 0; omega, by show _ ≤ 0; omega⟩) hS (fun w15 H locs hp hR hS => ?_)
      subst hp
      obtain ⟨rfl, rfl⟩ := g_sp hf
      exact g_iret hx hb hlocks hr hS hR g_le.rf ⟨rfl, rfl⟩ (by omega) (by omega) dX10_plan_35
    · replace hf := g_if hf (fun q => q c8)
      refine lv_bipush (v := -5) hx hb dX10_plan_19 (by decide) ?_
      obtain ⟨rfl, rfl⟩ := g_sp hf
      exact g_iret hx hb hlocks hr hS hR g_le.rf ⟨rfl, rfl⟩ (by omega) (by omega) dX10_plan_21
  · replace hf := g_if hf (fun q => q c4)
    refine lv_bipush (v := -2) hx hb dX10_plan_9 (by decide) ?_
    obtain ⟨rfl, rfl⟩ := g_sp hf
    exact g_iret hx hb hlocks hr hS hR g_le.rf ⟨rfl, rfl⟩ (by omega) (by omega) dX10_plan_11
set_option maxHeartbeats 4000000 in
set_option maxRecDepth 100000 in
theorem c10_restore (l : Launch) (G : gG) (E : gEn) (μ : gMu) (z0 : gMo)  (ro : Int32) (zo : gMo) (hf : f10_restore z0 = some (ro, zo)) : Met l yX10_restore wsX10_restore ({ frames := 1, cells := 0, slots := 0, locals := 22 } : Room) (g_Pre G E (g_setM μ z0) [.ref (G.2.2 + 54)]) (g_Q G E (g_setM μ zo) (fun E' v => E' = E ∧ v = some (.int ro))) 0 0 (g_A G) := by
  refine Met.ofW (cc := cX10_restore) (maxL := 1) (ret := some .int) (by decide) rfl ?_
  intro p e s m args below meth c s₁ B hml hv
  obtain ⟨rfl, hR, hK⟩ := hv
  have hx := B.exec
  have hb := B.bytes
  have hr := B.returns
  have hts := atoms_spec (ws := wsX10_restore) B.pre
  have hown : s.vm.findClass RX10 = some m.cls := findClass_of_methodNamed B.named
  have hlocks := B.notSynchronized
  have hS : va_S (g_A G) s.heap s.heap [] := va_S.rf
  have hl := lv_entry ([.ref (G.2.2 + 54)]) (n := 1) (Nat.le_of_ble_eq_true rfl)
  rw [lg_entry_eq]
  generalize (lg_sl ([.ref (G.2.2 + 54)]) ++ List.replicate (1 - (lg_sl ([.ref (G.2.2 + 54)])).length) Slot.unset).toArray = ls at hl ⊢
  have hl : lv_has ls 1 [(0, .ref (G.2.2 + 54))] := hl
  have in_10 : ∀ w ∈ u_ws RX10 TX10 9, w ∈ wsX10_restore := ifX10_restore_10
  have l_16 := hts (.fieldLink RX10 16 "GlassRacksModel" "slot" "[I") (by decide +kernel)
  have l_165 := hts (.fieldLink RX10 165 "GlassRacksModel" "isFilled" "Z") (by decide +kernel)
  have l_7 := hts (.fieldLink RX10 7 "GlassRacksModel" "now" "[I") (by decide +kernel)
  unfold f10_restore at hf
  refine lv_aload_n hx hb dX10_restore_0 rfl (lv_at hl 0 rfl) ?_
  refine g_get hx hb hts in_10 hown hK hR.2.2.2.2.1.1 rfl 7 (by decide) l_165 rfl rfl dX10_restore_1 ?_
  refine lv_if_ne (tgt := 10) hx hb dX10_restore_4 (by decide) (fun c1 => ?_) (fun c1 => ?_)
  · replace hf := g_it hf c1
    refine lv_aload_n hx hb dX10_restore_10 rfl (lv_at hl 0 rfl) ?_
    refine lv_aload_n hx hb dX10_restore_11 rfl (lv_at hl 0 rfl) ?_
    refine g_get hx hb hts in_10 hown hK hR.2.2.2.2.1.1 rfl 0 (by decide) l_7 rfl rfl dX10_restore_12 ?_
    obtain ⟨z2, hc3, hf⟩ := g_b1_e hf
    refine g_call (va_runV (As := [.ref (g_maA G 0)]) (rest := []) ⟨hx, hb, hml, hown, hts⟩ (c10_record l G E μ _ 0 (by decide) _ hc3) (cwV 1 hts gX10_restore_X10_record rfl rfl rfl (by decide +kernel) ⟨Nat.le_of_ble_eq_true rfl, Nat.le_of_ble_eq_true rfl⟩) (g_preV (ci := 10) hR hK (hR.2.2.2.2.1.1) rfl) rfl rfl hl.1 rfl (lv_room (Nat.le_of_ble_eq_true rfl)) dX10_restore_15 ⟨by show _ ≤ 0; omega, by show _ ≤ 0; omega⟩) hS (fun w4 H locs hp hR hS => ?_)
    subst hp
    refine lv_aload_n hx hb dX10_restore_18 rfl (lv_at hl 0 rfl) ?_
    refine g_get hx hb hts in_10 hown hK hR.2.2.2.2.1.1 rfl 2 (by decide) l_16 rfl rfl dX10_restore_19 ?_
    refine lv_aload_n hx hb dX10_restore_22 rfl (lv_at hl 0 rfl) ?_
    refine g_get hx hb hts in_10 hown hK hR.2.2.2.2.1.1 rfl 0 (by decide) l_7 rfl rfl dX10_restore_23 ?_
    obtain ⟨z5, hc6, hf⟩ := g_b1_e hf
    refine g_call (va_runS (As := [.ref (g_maA G 2), .ref (g_maA G 0)]) (rest := []) ⟨hx, hb, hml, hown, hts⟩ (c10_copy l G E μ _ 2 (by decide) 0 (by decide) _ hc6) (cwS 2 hts gX10_restore_X10_copy rfl rfl rfl (by decide +kernel) ⟨Nat.le_of_ble_eq_true rfl, Nat.le_of_ble_eq_true rfl⟩) (g_pre hR hK) rfl rfl hl.1 rfl (lv_room (Nat.le_of_ble_eq_true rfl)) dX10_restore_26 ⟨by show _ ≤ 0; omega, by show _ ≤ 0; omega⟩) hS (fun w7 H locs hp hR hS => ?_)
    subst hp
    refine lv_aload_n hx hb dX10_restore_29 rfl (lv_at hl 0 rfl) ?_
    refine g_get hx hb hts in_10 hown hK hR.2.2.2.2.1.1 rfl 0 (by decide) l_7 rfl rfl dX10_restore_30 ?_
    refine lv_iconst (v := 0) hx hb dX10_restore_33 (by decide) ?_
    refine g_aild hx hb hK hR (by decide) (by decide) dX10_restore_34 ?_
    obtain ⟨rfl, rfl⟩ := g_sp hf
    exact g_iret hx hb hlocks hr hS hR g_le.rf ⟨rfl, rfl⟩ (by omega) (by omega) dX10_restore_35
  · replace hf := g_if hf (fun q => q c1)
    refine lv_bipush (v := -5) hx hb dX10_restore_7 (by decide) ?_
    obtain ⟨rfl, rfl⟩ := g_sp hf
    exact g_iret hx hb hlocks hr hS hR g_le.rf ⟨rfl, rfl⟩ (by omega) (by omega) dX10_restore_9
set_option maxHeartbeats 4000000 in
set_option maxRecDepth 100000 in
theorem c10_scrap (l : Launch) (G : gG) (E : gEn) (μ : gMu) (z0 : gMo) (p1 : Int32) (ro : Int32) (zo : gMo) (hf : f10_scrap z0 p1 = some (ro, zo)) : Met l yX10_scrap wsX10_scrap ({ frames := 4, cells := 0, slots := 0, locals := 94 } : Room) (g_Pre G E (g_setM μ z0) [.ref (G.2.2 + 54), .int p1]) (g_Q G E (g_setM μ zo) (fun E' v => E' = E ∧ v = some (.int ro))) 0 0 (g_A G) := by
  refine Met.ofW (cc := cX10_scrap) (maxL := 2) (ret := some .int) (by decide) rfl ?_
  intro p e s m args below meth c s₁ B hml hv
  obtain ⟨rfl, hR, hK⟩ := hv
  have hx := B.exec
  have hb := B.bytes
  have hr := B.returns
  have hts := atoms_spec (ws := wsX10_scrap) B.pre
  have hown : s.vm.findClass RX10 = some m.cls := findClass_of_methodNamed B.named
  have hlocks := B.notSynchronized
  have hS : va_S (g_A G) s.heap s.heap [] := va_S.rf
  have hl := lv_entry ([.ref (G.2.2 + 54), .int p1]) (n := 2) (Nat.le_of_ble_eq_true rfl)
  rw [lg_entry_eq]
  generalize (lg_sl ([.ref (G.2.2 + 54), .int p1]) ++ List.replicate (2 - (lg_sl ([.ref (G.2.2 + 54), .int p1])).length) Slot.unset).toArray = ls at hl ⊢
  have hl : lv_has ls 2 [(0, .ref (G.2.2 + 54)), (1, .int p1)] := hl
  have in_10 : ∀ w ∈ u_ws RX10 TX10 9, w ∈ wsX10_scrap := ifX10_scrap_10
  have l_7 := hts (.fieldLink RX10 7 "GlassRacksModel" "now" "[I") (by decide +kernel)
  have hB40 : ∀ (z0 : gMo) (x1 : Int32) (H : Heap) (locs : List Loc) (ls : Array Slot), f10_scrap_40 z0 x1 = some (ro, zo) → g_R G E (g_setM μ z0) H → va_S (g_A G) s.heap H locs → lv_has ls 2 [(0, .ref (G.2.2 + 54)), (1, .int x1)] → W p l e (headSpec wsX10_scrap ({ frames := 4, cells := 0, slots := 0, locals := 94 } : Room)).room s m ([.ref (G.2.2 + 54), .int p1] : List Value).toArray below meth c H locs 0 0 (MQ below (g_Q G E (g_setM μ zo) (fun E' v => E' = E ∧ v = some (.int ro))) ([.ref (G.2.2 + 54), .int p1] : List Value).toArray s 0 0 (g_A G)) (F0 m 40 ls []) := by
    intro z0 x1 H locs ls hf  hR hS hl
    unfold f10_scrap_40 at hf
    refine lv_aload_n hx hb dX10_scrap_40 rfl (lv_at hl 0 rfl) ?_
    refine lv_iload_n hx hb dX10_scrap_41 rfl (lv_at hl 1 rfl) ?_
    obtain ⟨r13, hc14, hf⟩ := g_b1_e hf
    refine g_call (va_runV (As := [.int x1]) (rest := []) ⟨hx, hb, hml, hown, hts⟩ (c10_area l G E μ _ _ _ hc14) (cwV 1 hts gX10_scrap_X10_area rfl rfl rfl (by decide +kernel) ⟨Nat.le_of_ble_eq_true rfl, Nat.le_of_ble_eq_true rfl⟩) (g_preV (ci := 10) hR hK (hR.2.2.2.2.1.1) rfl) rfl rfl hl.1 rfl (lv_room (Nat.le_of_ble_eq_true rfl)) dX10_scrap_42 ⟨by show _ ≤ 0; omega, by show _ ≤ 0; omega⟩) hS (fun w15 H locs hp hR hS => ?_)
    subst hp
    obtain ⟨rfl, rfl⟩ := g_sp hf
    exact g_iret hx hb hlocks hr hS hR g_le.rf ⟨rfl, rfl⟩ (by omega) (by omega) dX10_scrap_45
  unfold f10_scrap at hf
  refine lv_aload_n hx hb dX10_scrap_0 rfl (lv_at hl 0 rfl) ?_
  refine lv_iload_n hx hb dX10_scrap_1 rfl (lv_at hl 1 rfl) ?_
  obtain ⟨r1, hc2, hf⟩ := g_b1_e hf
  refine g_call (va_runV (As := [.int p1]) (rest := []) ⟨hx, hb, hml, hown, hts⟩ (c10_isSheet l G E μ _ _ _ hc2) (cwV 1 hts gX10_scrap_X10_isSheet rfl rfl rfl (by decide +kernel) ⟨Nat.le_of_ble_eq_true rfl, Nat.le_of_ble_eq_true rfl⟩) (g_preV (ci := 10) hR hK (hR.2.2.2.2.1.1) rfl) rfl rfl hl.1 rfl (lv_room (Nat.le_of_ble_eq_true rfl)) dX10_scrap_2 ⟨by show _ ≤ 0; omega, by show _ ≤ 0; omega⟩) hS (fun w3 H locs hp hR hS => ?_)
  subst hp
  refine lv_if_ne (tgt := 10) hx hb dX10_scrap_5 (by decide) (fun c4 => ?_) (fun c4 => ?_)
  · replace hf := g_it hf c4
    refine lv_aload_n hx hb dX10_scrap_10 rfl (lv_at hl 0 rfl) ?_
    refine lv_aload_n hx hb dX10_scrap_11 rfl (lv_at hl 0 rfl) ?_
    refine g_get hx hb hts in_10 hown hK hR.2.2.2.2.1.1 rfl 0 (by decide) l_7 rfl rfl dX10_scrap_12 ?_
    obtain ⟨z5, hc6, hf⟩ := g_b1_e hf
    refine g_call (va_runV (As := [.ref (g_maA G 0)]) (rest := []) ⟨hx, hb, hml, hown, hts⟩ (c10_record l G E μ _ 0 (by decide) _ hc6) (cwV 1 hts gX10_scrap_X10_record rfl rfl rfl (by decide +kernel) ⟨Nat.le_of_ble_eq_true rfl, Nat.le_of_ble_eq_true rfl⟩) (g_preV (ci := 10) hR hK (hR.2.2.2.2.1.1) rfl) rfl rfl hl.1 rfl (lv_room (Nat.le_of_ble_eq_true rfl)) dX10_scrap_15 ⟨by show _ ≤ 0; omega, by show _ ≤ 0; omega⟩) hS (fun w7 H locs hp hR hS => ?_)
    subst hp
    refine lv_aload_n hx hb dX10_scrap_18 rfl (lv_at hl 0 rfl) ?_
    refine lv_iload_n hx hb dX10_scrap_19 rfl (lv_at hl 1 rfl) ?_
    obtain ⟨r8, z9, hc10, hf⟩ := g_bd_e hf
    refine g_call (va_runV (As := [.int p1]) (rest := []) ⟨hx, hb, hml, hown, hts⟩ (c10_takes l G E μ _ _ _ _ hc10) (cwV 1 hts gX10_scrap_X10_takes rfl rfl rfl (by decide +kernel) ⟨Nat.le_of_ble_eq_true rfl, Nat.le_of_ble_eq_true rfl⟩) (g_preV (ci := 10) hR hK (hR.2.2.2.2.1.1) rfl) rfl rfl hl.1 rfl (lv_room (Nat.le_of_ble_eq_true rfl)) dX10_scrap_20 ⟨by show _ ≤ 0; omega, by show _ ≤ 0; omega⟩) hS (fun w11 H locs hp hR hS => ?_)
    subst hp
    refine lv_if_eq (tgt := 40) hx hb dX10_scrap_23 (by decide) (fun c12 => ?_) (fun c12 => ?_)
    · replace hf := g_it hf c12
      exact hB40 _ _ _ _ _ hf  hR hS (lv_sub hl [0, 1] rfl)
    · replace hf := g_if hf c12
      refine lv_aload_n hx hb dX10_scrap_26 rfl (lv_at hl 0 rfl) ?_
      refine g_get hx hb hts in_10 hown hK hR.2.2.2.2.1.1 rfl 0 (by decide) l_7 rfl rfl dX10_scrap_27 ?_
      refine lv_iconst (v := 3) hx hb dX10_scrap_30 (by decide) ?_
      refine lv_dup2_11 hx hb dX10_scrap_31 rfl rfl ?_
      refine g_aild hx hb hK hR (by decide) (by decide) dX10_scrap_32 ?_
      refine lv_aload_n hx hb dX10_scrap_33 rfl (lv_at hl 0 rfl) ?_
      refine lv_iload_n hx hb dX10_scrap_34 rfl (lv_at hl 1 rfl) ?_
      obtain ⟨r16, hc17, hf⟩ := g_b1_e hf
      refine g_call (va_runV (As := [.int p1]) (rest := [.int (z9.1 0 (3 : Int32).toNatClampNeg), .int (3 : Int32), .ref (g_maA G 0)]) ⟨hx, hb, hml, hown, hts⟩ (c10_area l G E μ _ _ _ hc17) (cwV 1 hts gX10_scrap_X10_area rfl rfl rfl (by decide +kernel) ⟨Nat.le_of_ble_eq_true rfl, Nat.le_of_ble_eq_true rfl⟩) (g_preV (ci := 10) hR hK (hR.2.2.2.2.1.1) rfl) rfl rfl hl.1 rfl (lv_room (Nat.le_of_ble_eq_true rfl)) dX10_scrap_35 ⟨by show _ ≤ 0; omega, by show _ ≤ 0; omega⟩) hS (fun w18 H locs hp hR hS => ?_)
      subst hp
      refine lv_iadd hx hb dX10_scrap_38 ?_
      refine g_aist hx hb hK hS hR (by decide) (by decide) dX10_scrap_39 (fun H locs hR hS => ?_)
      obtain ⟨z19, ez19, hf⟩ := g_let_e hf
      replace hR : g_R G E (g_setM μ z19) H := by rw [ez19]; exact hR
      exact hB40 _ _ _ _ _ hf  hR hS (lv_sub hl [0, 1] rfl)
  · replace hf := g_if hf (fun q => q c4)
    refine lv_iconst (v := -1) hx hb dX10_scrap_8 (by decide) ?_
    obtain ⟨rfl, rfl⟩ := g_sp hf
    exact g_iret hx hb hlocks hr hS hR g_le.rf ⟨rfl, rfl⟩ (by omega) (by omega) dX10_scrap_9
set_option maxHeartbeats 4000000 in
set_option maxRecDepth 100000 in
theorem c10_set (l : Launch) (G : gG) (E : gEn) (μ : gMu) (z0 : gMo) (p1 : Int32) (p2 : Int32) (ro : Int32) (zo : gMo) (hf : f10_set z0 p1 p2 = some (ro, zo)) : Met l yX10_set wsX10_set ({ frames := 1, cells := 0, slots := 0, locals := 22 } : Room) (g_Pre G E (g_setM μ z0) [.ref (G.2.2 + 54), .int p1, .int p2]) (g_Q G E (g_setM μ zo) (fun E' v => E' = E ∧ v = some (.int ro))) 0 0 (g_A G) := by
  refine Met.ofW (cc := cX10_set) (maxL := 6) (ret := some .int) (by decide) rfl ?_
  intro p e s m args below meth c s₁ B hml hv
  obtain ⟨rfl, hR, hK⟩ := hv
  have hx := B.exec
  have hb := B.bytes
  have hr := B.returns
  have hts := atoms_spec (ws := wsX10_set) B.pre
  have hown : s.vm.findClass RX10 = some m.cls := findClass_of_methodNamed B.named
  have hlocks := B.notSynchronized
  have hS : va_S (g_A G) s.heap s.heap [] := va_S.rf
  have hl := lv_entry ([.ref (G.2.2 + 54), .int p1, .int p2]) (n := 6) (Nat.le_of_ble_eq_true rfl)
  rw [lg_entry_eq]
  generalize (lg_sl ([.ref (G.2.2 + 54), .int p1, .int p2]) ++ List.replicate (6 - (lg_sl ([.ref (G.2.2 + 54), .int p1, .int p2])).length) Slot.unset).toArray = ls at hl ⊢
  have hl : lv_has ls 6 [(0, .ref (G.2.2 + 54)), (1, .int p1), (2, .int p2)] := hl
  have in_10 : ∀ w ∈ u_ws RX10 TX10 9, w ∈ wsX10_set := ifX10_set_10
  have l_7 := hts (.fieldLink RX10 7 "GlassRacksModel" "now" "[I") (by decide +kernel)
  have hB40 : ∀ (z0 : gMo) (x1 : Int32) (x2 : Int32) (x3 : Int32) (y0 : Int32) (H : Heap) (locs : List Loc) (ls : Array Slot), f10_set_40 z0 x1 x2 x3 y0 = some (ro, zo) → g_R G E (g_setM μ z0) H → va_S (g_A G) s.heap H locs → lv_has ls 6 [(0, .ref (G.2.2 + 54)), (1, .int x1), (2, .int x2), (3, .int x3)] → W p l e (headSpec wsX10_set ({ frames := 1, cells := 0, slots := 0, locals := 22 } : Room)).room s m ([.ref (G.2.2 + 54), .int p1, .int p2] : List Value).toArray below meth c H locs 0 0 (MQ below (g_Q G E (g_setM μ zo) (fun E' v => E' = E ∧ v = some (.int ro))) ([.ref (G.2.2 + 54), .int p1, .int p2] : List Value).toArray s 0 0 (g_A G)) (F0 m 40 ls [.int y0]) := by
    intro z0 x1 x2 x3 y0 H locs ls hf  hR hS hl
    unfold f10_set_40 at hf
    refine lv_istore (lv' := [(4, .int y0), (0, .ref (G.2.2 + 54)), (1, .int x1), (2, .int x2), (3, .int x3)]) hx hb dX10_set_40 hl (by decide) rfl (fun ls hl => ?_)
    refine lv_iload_n hx hb dX10_set_42 rfl (lv_at hl 2 rfl) ?_
    refine lv_iconst (v := 0) hx hb dX10_set_43 (by decide) ?_
    refine lv_iconst (v := 4) hx hb dX10_set_44 (by decide) ?_
    obtain ⟨r5, hc6, hf⟩ := g_b1_e hf
    refine g_call (va_runS (As := [.int x1, .int (0 : Int32), .int (4 : Int32)]) (rest := []) ⟨hx, hb, hml, hown, hts⟩ (c10_in l G E (g_setM μ z0) _ _ _ _ hc6) (cwS 3 hts gX10_set_X10_in rfl rfl rfl (by decide +kernel) ⟨Nat.le_of_ble_eq_true rfl, Nat.le_of_ble_eq_true rfl⟩) (g_pre hR hK) rfl rfl hl.1 rfl (lv_room (Nat.le_of_ble_eq_true rfl)) dX10_set_45 ⟨by show _ ≤ 0; omega, by show _ ≤ 0; omega⟩) hS (fun w7 H locs hp hR hS => ?_)
    subst hp
    refine lv_if_eq (tgt := 61) hx hb dX10_set_48 (by decide) (fun c8 => ?_) (fun c8 => ?_)
    · replace hf := g_it hf c8
      refine lv_bipush (v := -2) hx hb dX10_set_61 (by decide) ?_
      obtain ⟨rfl, rfl⟩ := g_sp hf
      exact g_iret hx hb hlocks hr hS hR g_le.rf ⟨rfl, rfl⟩ (by omega) (by omega) dX10_set_63
    · replace hf := g_if hf c8
      refine lv_iload_n hx hb dX10_set_51 rfl (lv_at hl 3 rfl) ?_
      refine lv_iload_n hx hb dX10_set_52 rfl (lv_at hl 4 rfl) ?_
      refine lv_iload hx hb dX10_set_53 (lv_at hl 0 rfl) ?_
      obtain ⟨r9, hc10, hf⟩ := g_b1_e hf
      refine g_call (va_runS (As := [.int x2, .int x3, .int y0]) (rest := []) ⟨hx, hb, hml, hown, hts⟩ (c10_in l G E (g_setM μ z0) _ _ _ _ hc10) (cwS 3 hts gX10_set_X10_in rfl rfl rfl (by decide +kernel) ⟨Nat.le_of_ble_eq_true rfl, Nat.le_of_ble_eq_true rfl⟩) (g_pre hR hK) rfl rfl hl.1 rfl (lv_room (Nat.le_of_ble_eq_true rfl)) dX10_set_55 ⟨by show _ ≤ 0; omega, by show _ ≤ 0; omega⟩) hS (fun w11 H locs hp hR hS => ?_)
      subst hp
      refine lv_if_ne (tgt := 64) hx hb dX10_set_58 (by decide) (fun c12 => ?_) (fun c12 => ?_)
      · replace hf := g_it hf c12
        refine lv_aload_n hx hb dX10_set_64 rfl (lv_at hl 1 rfl) ?_
        refine lv_iload_n hx hb dX10_set_65 rfl (lv_at hl 2 rfl) ?_
        obtain ⟨r13, hc14, hf⟩ := g_b1_e hf
        refine g_call (va_runV (As := [.int x1]) (rest := []) ⟨hx, hb, hml, hown, hts⟩ (c10_setting l G E μ _ _ _ hc14) (cwV 1 hts gX10_set_X10_setting rfl rfl rfl (by decide +kernel) ⟨Nat.le_of_ble_eq_true rfl, Nat.le_of_ble_eq_true rfl⟩) (g_preV (ci := 10) hR hK (hR.2.2.2.2.1.1) rfl) rfl rfl hl.1 rfl (lv_room (Nat.le_of_ble_eq_true rfl)) dX10_set_66 ⟨by show _ ≤ 0; omega, by show _ ≤ 0; omega⟩) hS (fun w15 H locs hp hR hS => ?_)
        subst hp
        refine lv_istore (lv' := [(5, .int r13), (4, .int y0), (0, .ref (G.2.2 + 54)), (1, .int x1), (2, .int x2), (3, .int x3)]) hx hb dX10_set_69 hl (by decide) rfl (fun ls hl => ?_)
        refine lv_iload hx hb dX10_set_71 (lv_at hl 0 rfl) ?_
        refine lv_iload_n hx hb dX10_set_73 rfl (lv_at hl 4 rfl) ?_
        refine lv_icmp_ne (tgt := 80) hx hb dX10_set_74 (by decide) (fun c16 => ?_) (fun c16 => ?_)
        · replace hf := g_it hf c16
          refine lv_aload_n hx hb dX10_set_80 rfl (lv_at hl 2 rfl) ?_
          refine lv_aload_n hx hb dX10_set_81 rfl (lv_at hl 2 rfl) ?_
          refine g_get hx hb hts in_10 hown hK hR.2.2.2.2.1.1 rfl 0 (by decide) l_7 rfl rfl dX10_set_82 ?_
          obtain ⟨z17, hc18, hf⟩ := g_b1_e hf
          refine g_call (va_runV (As := [.ref (g_maA G 0)]) (rest := []) ⟨hx, hb, hml, hown, hts⟩ (c10_record l G E μ _ 0 (by decide) _ hc18) (cwV 1 hts gX10_set_X10_record rfl rfl rfl (by decide +kernel) ⟨Nat.le_of_ble_eq_true rfl, Nat.le_of_ble_eq_true rfl⟩) (g_preV (ci := 10) hR hK (hR.2.2.2.2.1.1) rfl) rfl rfl hl.1 rfl (lv_room (Nat.le_of_ble_eq_true rfl)) dX10_set_85 ⟨by show _ ≤ 0; omega, by show _ ≤ 0; omega⟩) hS (fun w19 H locs hp hR hS => ?_)
          subst hp
          refine lv_aload_n hx hb dX10_set_88 rfl (lv_at hl 2 rfl) ?_
          refine g_get hx hb hts in_10 hown hK hR.2.2.2.2.1.1 rfl 0 (by decide) l_7 rfl rfl dX10_set_89 ?_
          refine lv_bipush (v := 9) hx hb dX10_set_92 (by decide) ?_
          refine lv_iload_n hx hb dX10_set_94 rfl (lv_at hl 3 rfl) ?_
          refine lv_iadd hx hb dX10_set_95 ?_
          refine lv_iload_n hx hb dX10_set_96 rfl (lv_at hl 4 rfl) ?_
          obtain ⟨hg20, hf⟩ := g_gd hf
          refine g_aist hx hb hK hS hR (by decide) hg20 dX10_set_97 (fun H locs hR hS => ?_)
          obtain ⟨z21, ez21, hf⟩ := g_let_e hf
          replace hR : g_R G E (g_setM μ z21) H := by rw [ez21]; exact hR
          refine lv_iload hx hb dX10_set_98 (lv_at hl 0 rfl) ?_
          obtain ⟨rfl, rfl⟩ := g_sp hf
          exact g_iret hx hb hlocks hr hS hR g_le.rf ⟨rfl, rfl⟩ (by omega) (by omega) dX10_set_100
        · replace hf := g_if hf (fun q => q c16)
          refine lv_bipush (v := -5) hx hb dX10_set_77 (by decide) ?_
          obtain ⟨rfl, rfl⟩ := g_sp hf
          exact g_iret hx hb hlocks hr hS hR g_le.rf ⟨rfl, rfl⟩ (by omega) (by omega) dX10_set_79
      · replace hf := g_if hf (fun q => q c12)
        refine lv_bipush (v := -2) hx hb dX10_set_61 (by decide) ?_
        obtain ⟨rfl, rfl⟩ := g_sp hf
        exact g_iret hx hb hlocks hr hS hR g_le.rf ⟨rfl, rfl⟩ (by omega) (by omega) dX10_set_63
  have hB10 : ∀ (z0 : gMo) (x1 : Int32) (x2 : Int32) (y0 : Int32) (H : Heap) (locs : List Loc) (ls : Array Slot), f10_set_10 z0 x1 x2 y0 = some (ro, zo) → g_R G E (g_setM μ z0) H → va_S (g_A G) s.heap H locs → lv_has ls 6 [(0, .ref (G.2.2 + 54)), (1, .int x1), (2, .int x2)] → W p l e (headSpec wsX10_set ({ frames := 1, cells := 0, slots := 0, locals := 22 } : Room)).room s m ([.ref (G.2.2 + 54), .int p1, .int p2] : List Value).toArray below meth c H locs 0 0 (MQ below (g_Q G E (g_setM μ zo) (fun E' v => E' = E ∧ v = some (.int ro))) ([.ref (G.2.2 + 54), .int p1, .int p2] : List Value).toArray s 0 0 (g_A G)) (F0 m 10 ls [.int y0]) := by
    intro z0 x1 x2 y0 H locs ls hf  hR hS hl
    unfold f10_set_10 at hf
    refine lv_istore_n (lv' := [(3, .int y0), (0, .ref (G.2.2 + 54)), (1, .int x1), (2, .int x2)]) hx hb dX10_set_10 rfl hl (by decide) rfl (fun ls hl => ?_)
    refine lv_iload_n hx hb dX10_set_11 rfl (lv_at hl 2 rfl) ?_
    refine lv_if_ne (tgt := 19) hx hb dX10_set_12 (by decide) (fun c2 => ?_) (fun c2 => ?_)
    · replace hf := g_it hf c2
      refine lv_iload_n hx hb dX10_set_19 rfl (lv_at hl 2 rfl) ?_
      refine lv_iconst (v := 1) hx hb dX10_set_20 (by decide) ?_
      refine lv_icmp_ne (tgt := 29) hx hb dX10_set_21 (by decide) (fun c3 => ?_) (fun c3 => ?_)
      · replace hf := g_it hf c3
        refine lv_iload_n hx hb dX10_set_29 rfl (lv_at hl 2 rfl) ?_
        refine lv_iconst (v := 3) hx hb dX10_set_30 (by decide) ?_
        refine lv_icmp_ne (tgt := 39) hx hb dX10_set_31 (by decide) (fun c4 => ?_) (fun c4 => ?_)
        · replace hf := g_it hf c4
          refine lv_iconst (v := 1) hx hb dX10_set_39 (by decide) ?_
          exact hB40 _ _ _ _ _ _ _ _ hf  hR hS (lv_sub hl [1, 2, 3, 0] rfl)
        · replace hf := g_if hf (fun q => q c4)
          refine lv_bipush (v := 50) hx hb dX10_set_34 (by decide) ?_
          refine lv_goto (tgt := 40) hx hb dX10_set_36 (by decide) ?_
          exact hB40 _ _ _ _ _ _ _ _ hf  hR hS (lv_sub hl [1, 2, 3, 0] rfl)
      · replace hf := g_if hf (fun q => q c3)
        refine lv_bipush (v := 99) hx hb dX10_set_24 (by decide) ?_
        refine lv_goto (tgt := 40) hx hb dX10_set_26 (by decide) ?_
        exact hB40 _ _ _ _ _ _ _ _ hf  hR hS (lv_sub hl [1, 2, 3, 0] rfl)
    · replace hf := g_if hf (fun q => q c2)
      refine lv_iconst (v := 5) hx hb dX10_set_15 (by decide) ?_
      refine lv_goto (tgt := 40) hx hb dX10_set_16 (by decide) ?_
      exact hB40 _ _ _ _ _ _ _ _ hf  hR hS (lv_sub hl [1, 2, 3, 0] rfl)
  unfold f10_set at hf
  refine lv_iload_n hx hb dX10_set_0 rfl (lv_at hl 1 rfl) ?_
  refine lv_iconst (v := 1) hx hb dX10_set_1 (by decide) ?_
  refine lv_icmp_ne (tgt := 9) hx hb dX10_set_2 (by decide) (fun c1 => ?_) (fun c1 => ?_)
  · replace hf := g_it hf c1
    refine lv_iconst (v := 0) hx hb dX10_set_9 (by decide) ?_
    exact hB10 _ _ _ _ _ _ _ hf  hR hS (lv_sub hl [0, 1, 2] rfl)
  · replace hf := g_if hf (fun q => q c1)
    refine lv_iconst (v := 1) hx hb dX10_set_5 (by decide) ?_
    refine lv_goto (tgt := 10) hx hb dX10_set_6 (by decide) ?_
    exact hB10 _ _ _ _ _ _ _ hf  hR hS (lv_sub hl [0, 1, 2] rfl)
set_option maxHeartbeats 4000000 in
set_option maxRecDepth 100000 in
theorem c10_sheet (l : Launch) (G : gG) (E : gEn) (μ : gMu) (z0 : gMo) (p1 : Int32) (p2 : Int32) (ro : Int32) (hf : f10_sheet z0 p1 p2 = some ro) : Met l yX10_sheet wsX10_sheet ({ frames := 2, cells := 0, slots := 0, locals := 44 } : Room) (g_Pre G E (g_setM μ z0) [.ref (G.2.2 + 54), .int p1, .int p2]) (g_Q G E (g_setM μ z0) (fun E' v => E' = E ∧ v = some (.int ro))) 0 0 (g_A G) := by
  refine Met.ofW (cc := cX10_sheet) (maxL := 3) (ret := some .int) (by decide) rfl ?_
  intro p e s m args below meth c s₁ B hml hv
  obtain ⟨rfl, hR, hK⟩ := hv
  have hx := B.exec
  have hb := B.bytes
  have hr := B.returns
  have hts := atoms_spec (ws := wsX10_sheet) B.pre
  have hown : s.vm.findClass RX10 = some m.cls := findClass_of_methodNamed B.named
  have hlocks := B.notSynchronized
  have hS : va_S (g_A G) s.heap s.heap [] := va_S.rf
  have hl := lv_entry ([.ref (G.2.2 + 54), .int p1, .int p2]) (n := 3) (Nat.le_of_ble_eq_true rfl)
  rw [lg_entry_eq]
  generalize (lg_sl ([.ref (G.2.2 + 54), .int p1, .int p2]) ++ List.replicate (3 - (lg_sl ([.ref (G.2.2 + 54), .int p1, .int p2])).length) Slot.unset).toArray = ls at hl ⊢
  have hl : lv_has ls 3 [(0, .ref (G.2.2 + 54)), (1, .int p1), (2, .int p2)] := hl
  have hB47 : ∀ (z0 : gMo) (y1 : Int32) (y2 : Int32) (H : Heap) (locs : List Loc) (ls : Array Slot), f10_sheet_47 z0 y1 y2 = some ro → g_R G E (g_setM μ z0) H → va_S (g_A G) s.heap H locs → lv_has ls 3 [] → W p l e (headSpec wsX10_sheet ({ frames := 2, cells := 0, slots := 0, locals := 44 } : Room)).room s m ([.ref (G.2.2 + 54), .int p1, .int p2] : List Value).toArray below meth c H locs 0 0 (MQ below (g_Q G E (g_setM μ z0) (fun E' v => E' = E ∧ v = some (.int ro))) ([.ref (G.2.2 + 54), .int p1, .int p2] : List Value).toArray s 0 0 (g_A G)) (F0 m 47 ls [.int y2, .int y1, .ref (G.2.2 + 54)]) := by
    intro z0 y1 y2 H locs ls hf  hR hS hl
    unfold f10_sheet_47 at hf
    obtain ⟨r11, hc12, hf⟩ := g_b1_e hf
    refine g_call (va_runV (As := [.int y1, .int y2]) (rest := []) ⟨hx, hb, hml, hown, hts⟩ (c10_its l G E μ _ _ _ _ hc12) (cwV 2 hts gX10_sheet_X10_its rfl rfl rfl (by decide +kernel) ⟨Nat.le_of_ble_eq_true rfl, Nat.le_of_ble_eq_true rfl⟩) (g_preV (ci := 10) hR hK (hR.2.2.2.2.1.1) rfl) rfl rfl hl.1 rfl (lv_room (Nat.le_of_ble_eq_true rfl)) dX10_sheet_47 ⟨by show _ ≤ 0; omega, by show _ ≤ 0; omega⟩) hS (fun w13 H locs hp hR hS => ?_)
    subst hp
    obtain rfl := g_s1 hf
    exact g_iret hx hb hlocks hr hS hR g_le.rf ⟨rfl, rfl⟩ (by omega) (by omega) dX10_sheet_50
  unfold f10_sheet at hf
  refine lv_aload_n hx hb dX10_sheet_0 rfl (lv_at hl 0 rfl) ?_
  refine lv_iload_n hx hb dX10_sheet_1 rfl (lv_at hl 1 rfl) ?_
  obtain ⟨r1, hc2, hf⟩ := g_b1_e hf
  refine g_call (va_runV (As := [.int p1]) (rest := []) ⟨hx, hb, hml, hown, hts⟩ (c10_isSheet l G E μ _ _ _ hc2) (cwV 1 hts gX10_sheet_X10_isSheet rfl rfl rfl (by decide +kernel) ⟨Nat.le_of_ble_eq_true rfl, Nat.le_of_ble_eq_true rfl⟩) (g_preV (ci := 10) hR hK (hR.2.2.2.2.1.1) rfl) rfl rfl hl.1 rfl (lv_room (Nat.le_of_ble_eq_true rfl)) dX10_sheet_2 ⟨by show _ ≤ 0; omega, by show _ ≤ 0; omega⟩) hS (fun w3 H locs hp hR hS => ?_)
  subst hp
  refine lv_if_ne (tgt := 10) hx hb dX10_sheet_5 (by decide) (fun c4 => ?_) (fun c4 => ?_)
  · replace hf := g_it hf c4
    refine lv_iload_n hx hb dX10_sheet_10 rfl (lv_at hl 2 rfl) ?_
    refine lv_iconst (v := 0) hx hb dX10_sheet_11 (by decide) ?_
    refine lv_iconst (v := 5) hx hb dX10_sheet_12 (by decide) ?_
    obtain ⟨r5, hc6, hf⟩ := g_b1_e hf
    refine g_call (va_runS (As := [.int p2, .int (0 : Int32), .int (5 : Int32)]) (rest := []) ⟨hx, hb, hml, hown, hts⟩ (c10_in l G E (g_setM μ z0) _ _ _ _ hc6) (cwS 3 hts gX10_sheet_X10_in rfl rfl rfl (by decide +kernel) ⟨Nat.le_of_ble_eq_true rfl, Nat.le_of_ble_eq_true rfl⟩) (g_pre hR hK) rfl rfl hl.1 rfl (lv_room (Nat.le_of_ble_eq_true rfl)) dX10_sheet_13 ⟨by show _ ≤ 0; omega, by show _ ≤ 0; omega⟩) hS (fun w7 H locs hp hR hS => ?_)
    subst hp
    refine lv_if_ne (tgt := 22) hx hb dX10_sheet_16 (by decide) (fun c8 => ?_) (fun c8 => ?_)
    · replace hf := g_it hf c8
      refine lv_iload_n hx hb dX10_sheet_22 rfl (lv_at hl 2 rfl) ?_
      refine lv_iconst (v := 4) hx hb dX10_sheet_23 (by decide) ?_
      refine lv_icmp_ne (tgt := 35) hx hb dX10_sheet_24 (by decide) (fun c9 => ?_) (fun c9 => ?_)
      · replace hf := g_it hf c9
        refine lv_aload_n hx hb dX10_sheet_35 rfl (lv_at hl 0 rfl) ?_
        refine lv_iload_n hx hb dX10_sheet_36 rfl (lv_at hl 1 rfl) ?_
        refine lv_iload_n hx hb dX10_sheet_37 rfl (lv_at hl 2 rfl) ?_
        refine lv_iconst (v := 5) hx hb dX10_sheet_38 (by decide) ?_
        refine lv_icmp_ne (tgt := 46) hx hb dX10_sheet_39 (by decide) (fun c10 => ?_) (fun c10 => ?_)
        · replace hf := g_it hf c10
          refine lv_iload_n hx hb dX10_sheet_46 rfl (lv_at hl 2 rfl) ?_
          exact hB47 _ _ _ _ _ _ hf  hR hS (lv_sub hl [] rfl)
        · replace hf := g_if hf (fun q => q c10)
          refine lv_iconst (v := 4) hx hb dX10_sheet_42 (by decide) ?_
          refine lv_goto (tgt := 47) hx hb dX10_sheet_43 (by decide) ?_
          exact hB47 _ _ _ _ _ _ hf  hR hS (lv_sub hl [] rfl)
      · replace hf := g_if hf (fun q => q c9)
        refine lv_aload_n hx hb dX10_sheet_27 rfl (lv_at hl 0 rfl) ?_
        refine lv_iload_n hx hb dX10_sheet_28 rfl (lv_at hl 1 rfl) ?_
        obtain ⟨r14, hc15, hf⟩ := g_b1_e hf
        refine g_call (va_runV (As := [.int p1]) (rest := []) ⟨hx, hb, hml, hown, hts⟩ (c10_before l G E μ _ _ _ hc15) (cwV 1 hts gX10_sheet_X10_before rfl rfl rfl (by decide +kernel) ⟨Nat.le_of_ble_eq_true rfl, Nat.le_of_ble_eq_true rfl⟩) (g_preV (ci := 10) hR hK (hR.2.2.2.2.1.1) rfl) rfl rfl hl.1 rfl (lv_room (Nat.le_of_ble_eq_true rfl)) dX10_sheet_29 ⟨by show _ ≤ 0; omega, by show _ ≤ 0; omega⟩) hS (fun w16 H locs hp hR hS => ?_)
        subst hp
        refine lv_goto (tgt := 50) hx hb dX10_sheet_32 (by decide) ?_
        obtain rfl := g_s1 hf
        exact g_iret hx hb hlocks hr hS hR g_le.rf ⟨rfl, rfl⟩ (by omega) (by omega) dX10_sheet_50
    · replace hf := g_if hf (fun q => q c8)
      refine lv_bipush (v := -2) hx hb dX10_sheet_19 (by decide) ?_
      obtain rfl := g_s1 hf
      exact g_iret hx hb hlocks hr hS hR g_le.rf ⟨rfl, rfl⟩ (by omega) (by omega) dX10_sheet_21
  · replace hf := g_if hf (fun q => q c4)
    refine lv_iconst (v := -1) hx hb dX10_sheet_8 (by decide) ?_
    obtain rfl := g_s1 hf
    exact g_iret hx hb hlocks hr hS hR g_le.rf ⟨rfl, rfl⟩ (by omega) (by omega) dX10_sheet_9
set_option maxHeartbeats 4000000 in
set_option maxRecDepth 100000 in
theorem c10_type (l : Launch) (G : gG) (E : gEn) (μ : gMu) (z0 : gMo) (p1 : Int32) (ro : Int32) (zo : gMo) (hf : f10_type z0 p1 = some (ro, zo)) : Met l yX10_type wsX10_type ({ frames := 0, cells := 0, slots := 0, locals := 0 } : Room) (g_Pre G E (g_setM μ z0) [.ref (G.2.2 + 54), .int p1]) (g_Q G E (g_setM μ zo) (fun E' v => E' = E ∧ v = some (.int ro))) 0 0 (g_A G) := by
  refine Met.ofW (cc := cX10_type) (maxL := 2) (ret := some .int) (by decide) rfl ?_
  intro p e s m args below meth c s₁ B hml hv
  obtain ⟨rfl, hR, hK⟩ := hv
  have hx := B.exec
  have hb := B.bytes
  have hr := B.returns
  have hts := atoms_spec (ws := wsX10_type) B.pre
  have hown : s.vm.findClass RX10 = some m.cls := findClass_of_methodNamed B.named
  have hlocks := B.notSynchronized
  have hS : va_S (g_A G) s.heap s.heap [] := va_S.rf
  have hl := lv_entry ([.ref (G.2.2 + 54), .int p1]) (n := 2) (Nat.le_of_ble_eq_true rfl)
  rw [lg_entry_eq]
  generalize (lg_sl ([.ref (G.2.2 + 54), .int p1]) ++ List.replicate (2 - (lg_sl ([.ref (G.2.2 + 54), .int p1])).length) Slot.unset).toArray = ls at hl ⊢
  have hl : lv_has ls 2 [(0, .ref (G.2.2 + 54)), (1, .int p1)] := hl
  have in_10 : ∀ w ∈ u_ws RX10 TX10 9, w ∈ wsX10_type := ifX10_type_10
  have l_149 := hts (.fieldLink RX10 149 "GlassRacksModel" "length" "I") (by decide +kernel)
  have l_22 := hts (.fieldLink RX10 22 "GlassRacksModel" "text" "[I") (by decide +kernel)
  unfold f10_type at hf
  refine lv_aload_n hx hb dX10_type_0 rfl (lv_at hl 0 rfl) ?_
  refine g_get hx hb hts in_10 hown hK hR.2.2.2.2.1.1 rfl 6 (by decide) l_149 rfl rfl dX10_type_1 ?_
  refine lv_bipush (v := 60) hx hb dX10_type_4 (by decide) ?_
  refine lv_icmp_ne (tgt := 12) hx hb dX10_type_6 (by decide) (fun c1 => ?_) (fun c1 => ?_)
  · replace hf := g_it hf c1
    refine lv_aload_n hx hb dX10_type_12 rfl (lv_at hl 0 rfl) ?_
    refine g_get hx hb hts in_10 hown hK hR.2.2.2.2.1.1 rfl 4 (by decide) l_22 rfl rfl dX10_type_13 ?_
    refine lv_aload_n hx hb dX10_type_16 rfl (lv_at hl 0 rfl) ?_
    refine g_get hx hb hts in_10 hown hK hR.2.2.2.2.1.1 rfl 6 (by decide) l_149 rfl rfl dX10_type_17 ?_
    refine lv_iload_n hx hb dX10_type_20 rfl (lv_at hl 1 rfl) ?_
    obtain ⟨hg2, hf⟩ := g_gd hf
    refine g_aist hx hb hK hS hR (by decide) hg2 dX10_type_21 (fun H locs hR hS => ?_)
    obtain ⟨z3, ez3, hf⟩ := g_let_e hf
    replace hR : g_R G E (g_setM μ z3) H := by rw [ez3]; exact hR
    refine lv_aload_n hx hb dX10_type_22 rfl (lv_at hl 0 rfl) ?_
    refine lv_dup hx hb dX10_type_23 rfl ?_
    refine g_get hx hb hts in_10 hown hK hR.2.2.2.2.1.1 rfl 6 (by decide) l_149 rfl rfl dX10_type_24 ?_
    refine lv_iconst (v := 1) hx hb dX10_type_27 (by decide) ?_
    refine lv_iadd hx hb dX10_type_28 ?_
    refine g_p10_6 hx hb hts in_10 hown hK hS hR l_149 dX10_type_29 (fun H locs hR hS => ?_)
    obtain ⟨z4, ez4, hf⟩ := g_let_e hf
    replace hR : g_R G E (g_setM μ z4) H := by rw [ez4]; exact hR
    refine lv_aload_n hx hb dX10_type_32 rfl (lv_at hl 0 rfl) ?_
    refine g_get hx hb hts in_10 hown hK hR.2.2.2.2.1.1 rfl 6 (by decide) l_149 rfl rfl dX10_type_33 ?_
    obtain ⟨rfl, rfl⟩ := g_sp hf
    exact g_iret hx hb hlocks hr hS hR g_le.rf ⟨rfl, rfl⟩ (by omega) (by omega) dX10_type_36
  · replace hf := g_if hf (fun q => q c1)
    refine lv_bipush (v := -3) hx hb dX10_type_9 (by decide) ?_
    obtain ⟨rfl, rfl⟩ := g_sp hf
    exact g_iret hx hb hlocks hr hS hR g_le.rf ⟨rfl, rfl⟩ (by omega) (by omega) dX10_type_11
set_option maxHeartbeats 4000000 in
set_option maxRecDepth 100000 in
theorem c10_undo (l : Launch) (G : gG) (E : gEn) (μ : gMu) (z0 : gMo)  (ro : Int32) (zo : gMo) (hf : f10_undo z0 = some (ro, zo)) : Met l yX10_undo wsX10_undo ({ frames := 0, cells := 0, slots := 0, locals := 0 } : Room) (g_Pre G E (g_setM μ z0) [.ref (G.2.2 + 54)]) (g_Q G E (g_setM μ zo) (fun E' v => E' = E ∧ v = some (.int ro))) 0 0 (g_A G) := by
  refine Met.ofW (cc := cX10_undo) (maxL := 2) (ret := some .int) (by decide) rfl ?_
  intro p e s m args below meth c s₁ B hml hv
  obtain ⟨rfl, hR, hK⟩ := hv
  have hx := B.exec
  have hb := B.bytes
  have hr := B.returns
  have hts := atoms_spec (ws := wsX10_undo) B.pre
  have hown : s.vm.findClass RX10 = some m.cls := findClass_of_methodNamed B.named
  have hlocks := B.notSynchronized
  have hS : va_S (g_A G) s.heap s.heap [] := va_S.rf
  have hl := lv_entry ([.ref (G.2.2 + 54)]) (n := 2) (Nat.le_of_ble_eq_true rfl)
  rw [lg_entry_eq]
  generalize (lg_sl ([.ref (G.2.2 + 54)]) ++ List.replicate (2 - (lg_sl ([.ref (G.2.2 + 54)])).length) Slot.unset).toArray = ls at hl ⊢
  have hl : lv_has ls 2 [(0, .ref (G.2.2 + 54))] := hl
  have in_10 : ∀ w ∈ u_ws RX10 TX10 9, w ∈ wsX10_undo := ifX10_undo_10
  have l_19 := hts (.fieldLink RX10 19 "GlassRacksModel" "history" "[I") (by decide +kernel)
  have l_25 := hts (.fieldLink RX10 25 "GlassRacksModel" "kept" "I") (by decide +kernel)
  have l_7 := hts (.fieldLink RX10 7 "GlassRacksModel" "now" "[I") (by decide +kernel)
  have hB22 : ∀ (n : Nat) (z0 : gMo) (x1 : Int32) (H : Heap) (locs : List Loc) (ls : Array Slot), f10_undo_22 n z0 x1 = some (ro, zo) → g_R G E (g_setM μ z0) H → va_S (g_A G) s.heap H locs → lv_has ls 2 [(0, .ref (G.2.2 + 54)), (1, .int x1)] → W p l e (headSpec wsX10_undo ({ frames := 0, cells := 0, slots := 0, locals := 0 } : Room)).room s m ([.ref (G.2.2 + 54)] : List Value).toArray below meth c H locs 0 0 (MQ below (g_Q G E (g_setM μ zo) (fun E' v => E' = E ∧ v = some (.int ro))) ([.ref (G.2.2 + 54)] : List Value).toArray s 0 0 (g_A G)) (F0 m 22 ls []) := by
    intro n
    induction n with
    | zero =>
      intro z0 x1 H locs ls hf
      rw [f10_undo_22] at hf
      cases hf
    | succ n ih =>
      intro z0 x1 H locs ls hf  hR hS hl
      rw [f10_undo_22] at hf
      refine lv_iload_n hx hb dX10_undo_22 rfl (lv_at hl 1 rfl) ?_
      refine lv_sipush (v := 1134) hx hb dX10_undo_23 (by decide) ?_
      refine lv_icmp_ge (tgt := 56) hx hb dX10_undo_26 (by decide) (fun c3 => ?_) (fun c3 => ?_)
      · replace hf := g_it hf c3
        refine lv_aload_n hx hb dX10_undo_56 rfl (lv_at hl 0 rfl) ?_
        refine g_get hx hb hts in_10 hown hK hR.2.2.2.2.1.1 rfl 5 (by decide) l_25 rfl rfl dX10_undo_57 ?_
        obtain ⟨rfl, rfl⟩ := g_sp hf
        exact g_iret hx hb hlocks hr hS hR g_le.rf ⟨rfl, rfl⟩ (by omega) (by omega) dX10_undo_60
      · replace hf := g_if hf c3
        refine lv_aload_n hx hb dX10_undo_29 rfl (lv_at hl 0 rfl) ?_
        refine g_get hx hb hts in_10 hown hK hR.2.2.2.2.1.1 rfl 0 (by decide) l_7 rfl rfl dX10_undo_30 ?_
        refine lv_iload_n hx hb dX10_undo_33 rfl (lv_at hl 1 rfl) ?_
        refine lv_aload_n hx hb dX10_undo_34 rfl (lv_at hl 0 rfl) ?_
        refine g_get hx hb hts in_10 hown hK hR.2.2.2.2.1.1 rfl 3 (by decide) l_19 rfl rfl dX10_undo_35 ?_
        refine lv_sipush (v := 1134) hx hb dX10_undo_38 (by decide) ?_
        refine lv_aload_n hx hb dX10_undo_41 rfl (lv_at hl 0 rfl) ?_
        refine g_get hx hb hts in_10 hown hK hR.2.2.2.2.1.1 rfl 5 (by decide) l_25 rfl rfl dX10_undo_42 ?_
        refine lv_imul hx hb dX10_undo_45 ?_
        refine lv_iload_n hx hb dX10_undo_46 rfl (lv_at hl 1 rfl) ?_
        refine lv_iadd hx hb dX10_undo_47 ?_
        obtain ⟨hg4, hf⟩ := g_gd hf
        refine g_aild hx hb hK hR (by decide) hg4 dX10_undo_48 ?_
        obtain ⟨hg5, hf⟩ := g_gd hf
        refine g_aist hx hb hK hS hR (by decide) hg5 dX10_undo_49 (fun H locs hR hS => ?_)
        obtain ⟨z6, ez6, hf⟩ := g_let_e hf
        replace hR : g_R G E (g_setM μ z6) H := by rw [ez6]; exact hR
        refine lv_iinc (v := x1 + 1) (lv' := [(1, .int (x1 + 1)), (0, .ref (G.2.2 + 54))]) hx hb dX10_undo_50 hl (k := 1) rfl rfl (by decide) rfl (fun ls hl => ?_)
        refine lv_goto (tgt := 22) hx hb dX10_undo_53 (by decide) ?_
        exact ih _ _ _ _ _ hf  hR hS (lv_sub hl [1, 0] rfl)
  unfold f10_undo at hf
  refine lv_aload_n hx hb dX10_undo_0 rfl (lv_at hl 0 rfl) ?_
  refine g_get hx hb hts in_10 hown hK hR.2.2.2.2.1.1 rfl 5 (by decide) l_25 rfl rfl dX10_undo_1 ?_
  refine lv_if_ne (tgt := 10) hx hb dX10_undo_4 (by decide) (fun c1 => ?_) (fun c1 => ?_)
  · replace hf := g_it hf c1
    refine lv_aload_n hx hb dX10_undo_10 rfl (lv_at hl 0 rfl) ?_
    refine lv_dup hx hb dX10_undo_11 rfl ?_
    refine g_get hx hb hts in_10 hown hK hR.2.2.2.2.1.1 rfl 5 (by decide) l_25 rfl rfl dX10_undo_12 ?_
    refine lv_iconst (v := 1) hx hb dX10_undo_15 (by decide) ?_
    refine lv_isub hx hb dX10_undo_16 ?_
    refine g_p10_5 hx hb hts in_10 hown hK hS hR l_25 dX10_undo_17 (fun H locs hR hS => ?_)
    obtain ⟨z2, ez2, hf⟩ := g_let_e hf
    replace hR : g_R G E (g_setM μ z2) H := by rw [ez2]; exact hR
    refine lv_iconst (v := 0) hx hb dX10_undo_20 (by decide) ?_
    refine lv_istore_n (lv' := [(1, .int (0 : Int32)), (0, .ref (G.2.2 + 54))]) hx hb dX10_undo_21 rfl hl (by decide) rfl (fun ls hl => ?_)
    exact hB22 1200 _ _ _ _ _ hf  hR hS (lv_sub hl [1, 0] rfl)
  · replace hf := g_if hf (fun q => q c1)
    refine lv_bipush (v := -5) hx hb dX10_undo_7 (by decide) ?_
    obtain ⟨rfl, rfl⟩ := g_sp hf
    exact g_iret hx hb hlocks hr hS hR g_le.rf ⟨rfl, rfl⟩ (by omega) (by omega) dX10_undo_9
set_option maxHeartbeats 4000000 in
set_option maxRecDepth 100000 in
theorem c10_would (l : Launch) (G : gG) (E : gEn) (μ : gMu) (z0 : gMo) (p1 : Int32) (p2 : Int32) (p3 : Int32) (ro : Int32) (hf : f10_would z0 p1 p2 p3 = some ro) : Met l yX10_would wsX10_would ({ frames := 6, cells := 0, slots := 0, locals := 147 } : Room) (g_Pre G E (g_setM μ z0) [.ref (G.2.2 + 54), .int p1, .int p2, .int p3]) (g_Q G E (g_setM μ z0) (fun E' v => E' = E ∧ v = some (.int ro))) 0 0 (g_A G) := by
  refine Met.ofW (cc := cX10_would) (maxL := 6) (ret := some .int) (by decide) rfl ?_
  intro p e s m args below meth c s₁ B hml hv
  obtain ⟨rfl, hR, hK⟩ := hv
  have hx := B.exec
  have hb := B.bytes
  have hr := B.returns
  have hts := atoms_spec (ws := wsX10_would) B.pre
  have hown : s.vm.findClass RX10 = some m.cls := findClass_of_methodNamed B.named
  have hlocks := B.notSynchronized
  have hS : va_S (g_A G) s.heap s.heap [] := va_S.rf
  have hl := lv_entry ([.ref (G.2.2 + 54), .int p1, .int p2, .int p3]) (n := 6) (Nat.le_of_ble_eq_true rfl)
  rw [lg_entry_eq]
  generalize (lg_sl ([.ref (G.2.2 + 54), .int p1, .int p2, .int p3]) ++ List.replicate (6 - (lg_sl ([.ref (G.2.2 + 54), .int p1, .int p2, .int p3])).length) Slot.unset).toArray = ls at hl ⊢
  have hl : lv_has ls 6 [(0, .ref (G.2.2 + 54)), (1, .int p1), (2, .int p2), (3, .int p3)] := hl
  unfold f10_would at hf
  refine lv_aload_n hx hb dX10_would_0 rfl (lv_at hl 0 rfl) ?_
  refine lv_iload_n hx hb dX10_would_1 rfl (lv_at hl 1 rfl) ?_
  obtain ⟨r1, hc2, hf⟩ := g_b1_e hf
  refine g_call (va_runV (As := [.int p1]) (rest := []) ⟨hx, hb, hml, hown, hts⟩ (c10_isOrder l G E μ _ _ _ hc2) (cwV 1 hts gX10_would_X10_isOrder rfl rfl rfl (by decide +kernel) ⟨Nat.le_of_ble_eq_true rfl, Nat.le_of_ble_eq_true rfl⟩) (g_preV (ci := 10) hR hK (hR.2.2.2.2.1.1) rfl) rfl rfl hl.1 rfl (lv_room (Nat.le_of_ble_eq_true rfl)) dX10_would_2 ⟨by show _ ≤ 0; omega, by show _ ≤ 0; omega⟩) hS (fun w3 H locs hp hR hS => ?_)
  subst hp
  refine lv_if_eq (tgt := 16) hx hb dX10_would_5 (by decide) (fun c4 => ?_) (fun c4 => ?_)
  · replace hf := g_it hf c4
    refine lv_iconst (v := -1) hx hb dX10_would_16 (by decide) ?_
    obtain rfl := g_s1 hf
    exact g_iret hx hb hlocks hr hS hR g_le.rf ⟨rfl, rfl⟩ (by omega) (by omega) dX10_would_17
  · replace hf := g_if hf c4
    refine lv_aload_n hx hb dX10_would_8 rfl (lv_at hl 0 rfl) ?_
    refine lv_iload_n hx hb dX10_would_9 rfl (lv_at hl 2 rfl) ?_
    obtain ⟨r5, hc6, hf⟩ := g_b1_e hf
    refine g_call (va_runV (As := [.int p2]) (rest := []) ⟨hx, hb, hml, hown, hts⟩ (c10_isSheet l G E μ _ _ _ hc6) (cwV 1 hts gX10_would_X10_isSheet rfl rfl rfl (by decide +kernel) ⟨Nat.le_of_ble_eq_true rfl, Nat.le_of_ble_eq_true rfl⟩) (g_preV (ci := 10) hR hK (hR.2.2.2.2.1.1) rfl) rfl rfl hl.1 rfl (lv_room (Nat.le_of_ble_eq_true rfl)) dX10_would_10 ⟨by show _ ≤ 0; omega, by show _ ≤ 0; omega⟩) hS (fun w7 H locs hp hR hS => ?_)
    subst hp
    refine lv_if_ne (tgt := 18) hx hb dX10_would_13 (by decide) (fun c8 => ?_) (fun c8 => ?_)
    · replace hf := g_it hf c8
      refine lv_iload_n hx hb dX10_would_18 rfl (lv_at hl 3 rfl) ?_
      refine lv_iconst (v := 0) hx hb dX10_would_19 (by decide) ?_
      refine lv_bipush (v := 6) hx hb dX10_would_20 (by decide) ?_
      obtain ⟨r9, hc10, hf⟩ := g_b1_e hf
      refine g_call (va_runS (As := [.int p3, .int (0 : Int32), .int (6 : Int32)]) (rest := []) ⟨hx, hb, hml, hown, hts⟩ (c10_in l G E (g_setM μ z0) _ _ _ _ hc10) (cwS 3 hts gX10_would_X10_in rfl rfl rfl (by decide +kernel) ⟨Nat.le_of_ble_eq_true rfl, Nat.le_of_ble_eq_true rfl⟩) (g_pre hR hK) rfl rfl hl.1 rfl (lv_room (Nat.le_of_ble_eq_true rfl)) dX10_would_22 ⟨by show _ ≤ 0; omega, by show _ ≤ 0; omega⟩) hS (fun w11 H locs hp hR hS => ?_)
      subst hp
      refine lv_if_ne (tgt := 31) hx hb dX10_would_25 (by decide) (fun c12 => ?_) (fun c12 => ?_)
      · replace hf := g_it hf c12
        refine lv_aload_n hx hb dX10_would_31 rfl (lv_at hl 0 rfl) ?_
        refine lv_iload_n hx hb dX10_would_32 rfl (lv_at hl 1 rfl) ?_
        refine lv_iload_n hx hb dX10_would_33 rfl (lv_at hl 2 rfl) ?_
        obtain ⟨r13, hc14, hf⟩ := g_b1_e hf
        refine g_call (va_runV (As := [.int p1, .int p2]) (rest := []) ⟨hx, hb, hml, hown, hts⟩ (c10_lies l G E μ _ _ _ _ hc14) (cwV 2 hts gX10_would_X10_lies rfl rfl rfl (by decide +kernel) ⟨Nat.le_of_ble_eq_true rfl, Nat.le_of_ble_eq_true rfl⟩) (g_preV (ci := 10) hR hK (hR.2.2.2.2.1.1) rfl) rfl rfl hl.1 rfl (lv_room (Nat.le_of_ble_eq_true rfl)) dX10_would_34 ⟨by show _ ≤ 0; omega, by show _ ≤ 0; omega⟩) hS (fun w15 H locs hp hR hS => ?_)
        subst hp
        refine lv_istore (lv' := [(4, .int r13), (0, .ref (G.2.2 + 54)), (1, .int p1), (2, .int p2), (3, .int p3)]) hx hb dX10_would_37 hl (by decide) rfl (fun ls hl => ?_)
        refine lv_iload hx hb dX10_would_39 (lv_at hl 0 rfl) ?_
        refine lv_if_ge (tgt := 47) hx hb dX10_would_41 (by decide) (fun c16 => ?_) (fun c16 => ?_)
        · replace hf := g_it hf c16
          refine lv_iload_n hx hb dX10_would_47 rfl (lv_at hl 4 rfl) ?_
          refine lv_iconst (v := 3) hx hb dX10_would_48 (by decide) ?_
          refine lv_icmp_ge (tgt := 71) hx hb dX10_would_49 (by decide) (fun c17 => ?_) (fun c17 => ?_)
          · replace hf := g_it hf c17
            refine lv_iload_n hx hb dX10_would_71 rfl (lv_at hl 4 rfl) ?_
            refine lv_bipush (v := 6) hx hb dX10_would_72 (by decide) ?_
            refine lv_icmp_ne (tgt := 85) hx hb dX10_would_74 (by decide) (fun c18 => ?_) (fun c18 => ?_)
            · replace hf := g_it hf c18
              refine lv_aload_n hx hb dX10_would_85 rfl (lv_at hl 1 rfl) ?_
              refine lv_iload_n hx hb dX10_would_86 rfl (lv_at hl 2 rfl) ?_
              refine lv_iload_n hx hb dX10_would_87 rfl (lv_at hl 3 rfl) ?_
              refine lv_iconst (v := 0) hx hb dX10_would_88 (by decide) ?_
              obtain ⟨r19, hc20, hf⟩ := g_b1_e hf
              refine g_call (va_runV (As := [.int p1, .int p2, .int (0 : Int32)]) (rest := []) ⟨hx, hb, hml, hown, hts⟩ (c10_pieceArea l G E μ _ _ _ _ _ hc20) (cwV 3 hts gX10_would_X10_pieceArea rfl rfl rfl (by decide +kernel) ⟨Nat.le_of_ble_eq_true rfl, Nat.le_of_ble_eq_true rfl⟩) (g_preV (ci := 10) hR hK (hR.2.2.2.2.1.1) rfl) rfl rfl hl.1 rfl (lv_room (Nat.le_of_ble_eq_true rfl)) dX10_would_89 ⟨by show _ ≤ 0; omega, by show _ ≤ 0; omega⟩) hS (fun w21 H locs hp hR hS => ?_)
              subst hp
              refine lv_aload_n hx hb dX10_would_92 rfl (lv_at hl 1 rfl) ?_
              refine lv_iload_n hx hb dX10_would_93 rfl (lv_at hl 2 rfl) ?_
              refine lv_iload_n hx hb dX10_would_94 rfl (lv_at hl 3 rfl) ?_
              refine lv_iconst (v := 1) hx hb dX10_would_95 (by decide) ?_
              obtain ⟨r22, hc23, hf⟩ := g_b1_e hf
              refine g_call (va_runV (As := [.int p1, .int p2, .int (1 : Int32)]) (rest := [.int r19]) ⟨hx, hb, hml, hown, hts⟩ (c10_pieceArea l G E μ _ _ _ _ _ hc23) (cwV 3 hts gX10_would_X10_pieceArea rfl rfl rfl (by decide +kernel) ⟨Nat.le_of_ble_eq_true rfl, Nat.le_of_ble_eq_true rfl⟩) (g_preV (ci := 10) hR hK (hR.2.2.2.2.1.1) rfl) rfl rfl hl.1 rfl (lv_room (Nat.le_of_ble_eq_true rfl)) dX10_would_96 ⟨by show _ ≤ 0; omega, by show _ ≤ 0; omega⟩) hS (fun w24 H locs hp hR hS => ?_)
              subst hp
              refine lv_iadd hx hb dX10_would_99 ?_
              refine lv_topi (fun t25 et25 => ?_)
              replace hf := g_let_at hf et25
              refine lv_istore (lv' := [(5, .int t25), (4, .int r13), (0, .ref (G.2.2 + 54)), (1, .int p1), (2, .int p2), (3, .int p3)]) hx hb dX10_would_100 hl (by decide) rfl (fun ls hl => ?_)
              refine lv_iload_n hx hb dX10_would_102 rfl (lv_at hl 5 rfl) ?_
              refine lv_iconst (v := 3) hx hb dX10_would_103 (by decide) ?_
              refine lv_icmp_ne (tgt := 116) hx hb dX10_would_104 (by decide) (fun c26 => ?_) (fun c26 => ?_)
              · replace hf := g_it hf c26
                refine lv_iload_n hx hb dX10_would_116 rfl (lv_at hl 5 rfl) ?_
                refine lv_iconst (v := 4) hx hb dX10_would_117 (by decide) ?_
                refine lv_icmp_ne (tgt := 130) hx hb dX10_would_118 (by decide) (fun c27 => ?_) (fun c27 => ?_)
                · replace hf := g_it hf c27
                  refine lv_aload_n hx hb dX10_would_130 rfl (lv_at hl 2 rfl) ?_
                  refine lv_iload_n hx hb dX10_would_131 rfl (lv_at hl 4 rfl) ?_
                  obtain ⟨r28, hc29, hf⟩ := g_b1_e hf
                  refine g_call (va_runV (As := [.int p2]) (rest := []) ⟨hx, hb, hml, hown, hts⟩ (c10_area l G E μ _ _ _ hc29) (cwV 1 hts gX10_would_X10_area rfl rfl rfl (by decide +kernel) ⟨Nat.le_of_ble_eq_true rfl, Nat.le_of_ble_eq_true rfl⟩) (g_preV (ci := 10) hR hK (hR.2.2.2.2.1.1) rfl) rfl rfl hl.1 rfl (lv_room (Nat.le_of_ble_eq_true rfl)) dX10_would_132 ⟨by show _ ≤ 0; omega, by show _ ≤ 0; omega⟩) hS (fun w30 H locs hp hR hS => ?_)
                  subst hp
                  refine lv_aload_n hx hb dX10_would_135 rfl (lv_at hl 2 rfl) ?_
                  refine lv_iload_n hx hb dX10_would_136 rfl (lv_at hl 3 rfl) ?_
                  refine lv_iconst (v := 1) hx hb dX10_would_137 (by decide) ?_
                  obtain ⟨r31, hc32, hf⟩ := g_b1_e hf
                  refine g_call (va_runV (As := [.int p1, .int (1 : Int32)]) (rest := [.int r28]) ⟨hx, hb, hml, hown, hts⟩ (c10_of l G E μ _ _ _ _ hc32) (cwV 2 hts gX10_would_X10_of rfl rfl rfl (by decide +kernel) ⟨Nat.le_of_ble_eq_true rfl, Nat.le_of_ble_eq_true rfl⟩) (g_preV (ci := 10) hR hK (hR.2.2.2.2.1.1) rfl) rfl rfl hl.1 rfl (lv_room (Nat.le_of_ble_eq_true rfl)) dX10_would_138 ⟨by show _ ≤ 0; omega, by show _ ≤ 0; omega⟩) hS (fun w33 H locs hp hR hS => ?_)
                  subst hp
                  refine lv_aload_n hx hb dX10_would_141 rfl (lv_at hl 2 rfl) ?_
                  refine lv_iload_n hx hb dX10_would_142 rfl (lv_at hl 3 rfl) ?_
                  refine lv_iconst (v := 2) hx hb dX10_would_143 (by decide) ?_
                  obtain ⟨r34, hc35, hf⟩ := g_b1_e hf
                  refine g_call (va_runV (As := [.int p1, .int (2 : Int32)]) (rest := [.int r31, .int r28]) ⟨hx, hb, hml, hown, hts⟩ (c10_of l G E μ _ _ _ _ hc35) (cwV 2 hts gX10_would_X10_of rfl rfl rfl (by decide +kernel) ⟨Nat.le_of_ble_eq_true rfl, Nat.le_of_ble_eq_true rfl⟩) (g_preV (ci := 10) hR hK (hR.2.2.2.2.1.1) rfl) rfl rfl hl.1 rfl (lv_room (Nat.le_of_ble_eq_true rfl)) dX10_would_144 ⟨by show _ ≤ 0; omega, by show _ ≤ 0; omega⟩) hS (fun w36 H locs hp hR hS => ?_)
                  subst hp
                  refine lv_imul hx hb dX10_would_147 ?_
                  refine lv_isub hx hb dX10_would_148 ?_
                  refine lv_iload hx hb dX10_would_149 (lv_at hl 0 rfl) ?_
                  refine lv_isub hx hb dX10_would_151 ?_
                  obtain rfl := g_s1 hf
                  exact g_iret hx hb hlocks hr hS hR g_le.rf ⟨rfl, rfl⟩ (by omega) (by omega) dX10_would_152
                · replace hf := g_if hf (fun q => q c27)
                  refine lv_aload_n hx hb dX10_would_121 rfl (lv_at hl 2 rfl) ?_
                  refine lv_iload_n hx hb dX10_would_122 rfl (lv_at hl 3 rfl) ?_
                  refine lv_iload_n hx hb dX10_would_123 rfl (lv_at hl 4 rfl) ?_
                  obtain ⟨r37, hc38, hf⟩ := g_b1_e hf
                  refine g_call (va_runV (As := [.int p1, .int p2]) (rest := []) ⟨hx, hb, hml, hown, hts⟩ (c10_scrapArea l G E μ _ _ _ _ hc38) (cwV 2 hts gX10_would_X10_scrapArea rfl rfl rfl (by decide +kernel) ⟨Nat.le_of_ble_eq_true rfl, Nat.le_of_ble_eq_true rfl⟩) (g_preV (ci := 10) hR hK (hR.2.2.2.2.1.1) rfl) rfl rfl hl.1 rfl (lv_room (Nat.le_of_ble_eq_true rfl)) dX10_would_124 ⟨by show _ ≤ 0; omega, by show _ ≤ 0; omega⟩) hS (fun w39 H locs hp hR hS => ?_)
                  subst hp
                  refine lv_goto (tgt := 152) hx hb dX10_would_127 (by decide) ?_
                  obtain rfl := g_s1 hf
                  exact g_iret hx hb hlocks hr hS hR g_le.rf ⟨rfl, rfl⟩ (by omega) (by omega) dX10_would_152
              · replace hf := g_if hf (fun q => q c26)
                refine lv_aload_n hx hb dX10_would_107 rfl (lv_at hl 2 rfl) ?_
                refine lv_iload_n hx hb dX10_would_108 rfl (lv_at hl 3 rfl) ?_
                refine lv_iload_n hx hb dX10_would_109 rfl (lv_at hl 4 rfl) ?_
                obtain ⟨r40, hc41, hf⟩ := g_b1_e hf
                refine g_call (va_runV (As := [.int p1, .int p2]) (rest := []) ⟨hx, hb, hml, hown, hts⟩ (c10_keptArea l G E μ _ _ _ _ hc41) (cwV 2 hts gX10_would_X10_keptArea rfl rfl rfl (by decide +kernel) ⟨Nat.le_of_ble_eq_true rfl, Nat.le_of_ble_eq_true rfl⟩) (g_preV (ci := 10) hR hK (hR.2.2.2.2.1.1) rfl) rfl rfl hl.1 rfl (lv_room (Nat.le_of_ble_eq_true rfl)) dX10_would_110 ⟨by show _ ≤ 0; omega, by show _ ≤ 0; omega⟩) hS (fun w42 H locs hp hR hS => ?_)
                subst hp
                refine lv_goto (tgt := 152) hx hb dX10_would_113 (by decide) ?_
                obtain rfl := g_s1 hf
                exact g_iret hx hb hlocks hr hS hR g_le.rf ⟨rfl, rfl⟩ (by omega) (by omega) dX10_would_152
            · replace hf := g_if hf (fun q => q c18)
              refine lv_iconst (v := 1) hx hb dX10_would_77 (by decide) ?_
              refine lv_aload_n hx hb dX10_would_78 rfl (lv_at hl 1 rfl) ?_
              refine lv_iload_n hx hb dX10_would_79 rfl (lv_at hl 3 rfl) ?_
              obtain ⟨r43, hc44, hf⟩ := g_b1_e hf
              refine g_call (va_runV (As := [.int p2]) (rest := [.int (1 : Int32)]) ⟨hx, hb, hml, hown, hts⟩ (c10_before l G E μ _ _ _ hc44) (cwV 1 hts gX10_would_X10_before rfl rfl rfl (by decide +kernel) ⟨Nat.le_of_ble_eq_true rfl, Nat.le_of_ble_eq_true rfl⟩) (g_preV (ci := 10) hR hK (hR.2.2.2.2.1.1) rfl) rfl rfl hl.1 rfl (lv_room (Nat.le_of_ble_eq_true rfl)) dX10_would_80 ⟨by show _ ≤ 0; omega, by show _ ≤ 0; omega⟩) hS (fun w45 H locs hp hR hS => ?_)
              subst hp
              refine lv_iadd hx hb dX10_would_83 ?_
              obtain rfl := g_s1 hf
              exact g_iret hx hb hlocks hr hS hR g_le.rf ⟨rfl, rfl⟩ (by omega) (by omega) dX10_would_84
          · replace hf := g_if hf c17
            refine lv_iload_n hx hb dX10_would_52 rfl (lv_at hl 4 rfl) ?_
            refine lv_if_ne (tgt := 61) hx hb dX10_would_53 (by decide) (fun c46 => ?_) (fun c46 => ?_)
            · replace hf := g_it hf c46
              refine lv_aload_n hx hb dX10_would_61 rfl (lv_at hl 1 rfl) ?_
              refine lv_iload_n hx hb dX10_would_62 rfl (lv_at hl 2 rfl) ?_
              refine lv_iload_n hx hb dX10_would_63 rfl (lv_at hl 3 rfl) ?_
              refine lv_iload_n hx hb dX10_would_64 rfl (lv_at hl 4 rfl) ?_
              refine lv_iconst (v := 1) hx hb dX10_would_65 (by decide) ?_
              refine lv_isub hx hb dX10_would_66 ?_
              obtain ⟨r47, hc48, hf⟩ := g_b1_e hf
              refine g_call (va_runV (As := [.int p1, .int p2, .int (p3 - (1 : Int32))]) (rest := []) ⟨hx, hb, hml, hown, hts⟩ (c10_pieceArea l G E μ _ _ _ _ _ hc48) (cwV 3 hts gX10_would_X10_pieceArea rfl rfl rfl (by decide +kernel) ⟨Nat.le_of_ble_eq_true rfl, Nat.le_of_ble_eq_true rfl⟩) (g_preV (ci := 10) hR hK (hR.2.2.2.2.1.1) rfl) rfl rfl hl.1 rfl (lv_room (Nat.le_of_ble_eq_true rfl)) dX10_would_67 ⟨by show _ ≤ 0; omega, by show _ ≤ 0; omega⟩) hS (fun w49 H locs hp hR hS => ?_)
              subst hp
              obtain rfl := g_s1 hf
              exact g_iret hx hb hlocks hr hS hR g_le.rf ⟨rfl, rfl⟩ (by omega) (by omega) dX10_would_70
            · replace hf := g_if hf (fun q => q c46)
              refine lv_iload hx hb dX10_would_56 (lv_at hl 0 rfl) ?_
              refine lv_goto (tgt := 70) hx hb dX10_would_58 (by decide) ?_
              obtain rfl := g_s1 hf
              exact g_iret hx hb hlocks hr hS hR g_le.rf ⟨rfl, rfl⟩ (by omega) (by omega) dX10_would_70
        · replace hf := g_if hf c16
          refine lv_bipush (v := -5) hx hb dX10_would_44 (by decide) ?_
          obtain rfl := g_s1 hf
          exact g_iret hx hb hlocks hr hS hR g_le.rf ⟨rfl, rfl⟩ (by omega) (by omega) dX10_would_46
      · replace hf := g_if hf (fun q => q c12)
        refine lv_bipush (v := -2) hx hb dX10_would_28 (by decide) ?_
        obtain rfl := g_s1 hf
        exact g_iret hx hb hlocks hr hS hR g_le.rf ⟨rfl, rfl⟩ (by omega) (by omega) dX10_would_30
    · replace hf := g_if hf (fun q => q c8)
      refine lv_iconst (v := -1) hx hb dX10_would_16 (by decide) ?_
      obtain rfl := g_s1 hf
      exact g_iret hx hb hlocks hr hS hR g_le.rf ⟨rfl, rfl⟩ (by omega) (by omega) dX10_would_17
set_option maxHeartbeats 4000000 in
set_option maxRecDepth 100000 in
theorem c10_wouldPlan (l : Launch) (G : gG) (E : gEn) (μ : gMu) (z0 : gMo) (p1 : Int32) (p2 : Int32) (ro : Int32) (zo : gMo) (hf : f10_wouldPlan z0 p1 p2 = some (ro, zo)) : Met l yX10_wouldPlan wsX10_wouldPlan ({ frames := 9, cells := 0, slots := 0, locals := 219 } : Room) (g_Pre G E (g_setM μ z0) [.ref (G.2.2 + 54), .int p1, .int p2]) (g_Q G E (g_setM μ zo) (fun E' v => E' = E ∧ v = some (.int ro))) 0 0 (g_A G) := by
  refine Met.ofW (cc := cX10_wouldPlan) (maxL := 6) (ret := some .int) (by decide) rfl ?_
  intro p e s m args below meth c s₁ B hml hv
  obtain ⟨rfl, hR, hK⟩ := hv
  have hx := B.exec
  have hb := B.bytes
  have hr := B.returns
  have hts := atoms_spec (ws := wsX10_wouldPlan) B.pre
  have hown : s.vm.findClass RX10 = some m.cls := findClass_of_methodNamed B.named
  have hlocks := B.notSynchronized
  have hS : va_S (g_A G) s.heap s.heap [] := va_S.rf
  have hl := lv_entry ([.ref (G.2.2 + 54), .int p1, .int p2]) (n := 6) (Nat.le_of_ble_eq_true rfl)
  rw [lg_entry_eq]
  generalize (lg_sl ([.ref (G.2.2 + 54), .int p1, .int p2]) ++ List.replicate (6 - (lg_sl ([.ref (G.2.2 + 54), .int p1, .int p2])).length) Slot.unset).toArray = ls at hl ⊢
  have hl : lv_has ls 6 [(0, .ref (G.2.2 + 54)), (1, .int p1), (2, .int p2)] := hl
  have in_10 : ∀ w ∈ u_ws RX10 TX10 9, w ∈ wsX10_wouldPlan := ifX10_wouldPlan_10
  have l_13 := hts (.fieldLink RX10 13 "GlassRacksModel" "spare" "[I") (by decide +kernel)
  have l_7 := hts (.fieldLink RX10 7 "GlassRacksModel" "now" "[I") (by decide +kernel)
  have hB83 : ∀ (z0 : gMo) (y0 : Int32) (H : Heap) (locs : List Loc) (ls : Array Slot), f10_wouldPlan_83 z0 y0 = some (ro, zo) → g_R G E (g_setM μ z0) H → va_S (g_A G) s.heap H locs → lv_has ls 6 [(0, .ref (G.2.2 + 54))] → W p l e (headSpec wsX10_wouldPlan ({ frames := 9, cells := 0, slots := 0, locals := 219 } : Room)).room s m ([.ref (G.2.2 + 54), .int p1, .int p2] : List Value).toArray below meth c H locs 0 0 (MQ below (g_Q G E (g_setM μ zo) (fun E' v => E' = E ∧ v = some (.int ro))) ([.ref (G.2.2 + 54), .int p1, .int p2] : List Value).toArray s 0 0 (g_A G)) (F0 m 83 ls [.int y0]) := by
    intro z0 y0 H locs ls hf  hR hS hl
    unfold f10_wouldPlan_83 at hf
    refine lv_istore (lv' := [(5, .int y0), (0, .ref (G.2.2 + 54))]) hx hb dX10_wouldPlan_83 hl (by decide) rfl (fun ls hl => ?_)
    refine lv_aload_n hx hb dX10_wouldPlan_85 rfl (lv_at hl 1 rfl) ?_
    refine g_get hx hb hts in_10 hown hK hR.2.2.2.2.1.1 rfl 1 (by decide) l_13 rfl rfl dX10_wouldPlan_86 ?_
    refine lv_aload_n hx hb dX10_wouldPlan_89 rfl (lv_at hl 1 rfl) ?_
    refine g_get hx hb hts in_10 hown hK hR.2.2.2.2.1.1 rfl 0 (by decide) l_7 rfl rfl dX10_wouldPlan_90 ?_
    obtain ⟨z21, hc22, hf⟩ := g_b1_e hf
    refine g_call (va_runS (As := [.ref (g_maA G 1), .ref (g_maA G 0)]) (rest := []) ⟨hx, hb, hml, hown, hts⟩ (c10_copy l G E μ _ 1 (by decide) 0 (by decide) _ hc22) (cwS 2 hts gX10_wouldPlan_X10_copy rfl rfl rfl (by decide +kernel) ⟨Nat.le_of_ble_eq_true rfl, Nat.le_of_ble_eq_true rfl⟩) (g_pre hR hK) rfl rfl hl.1 rfl (lv_room (Nat.le_of_ble_eq_true rfl)) dX10_wouldPlan_93 ⟨by show _ ≤ 0; omega, by show _ ≤ 0; omega⟩) hS (fun w23 H locs hp hR hS => ?_)
    subst hp
    refine lv_iload hx hb dX10_wouldPlan_96 (lv_at hl 0 rfl) ?_
    obtain ⟨rfl, rfl⟩ := g_sp hf
    exact g_iret hx hb hlocks hr hS hR g_le.rf ⟨rfl, rfl⟩ (by omega) (by omega) dX10_wouldPlan_98
  have hB58 : ∀ (z0 : gMo) (x2 : Int32) (x3 : Int32) (y0 : Int32) (H : Heap) (locs : List Loc) (ls : Array Slot), f10_wouldPlan_58 z0 x2 x3 y0 = some (ro, zo) → g_R G E (g_setM μ z0) H → va_S (g_A G) s.heap H locs → lv_has ls 6 [(0, .ref (G.2.2 + 54)), (2, .int x2), (3, .int x3)] → W p l e (headSpec wsX10_wouldPlan ({ frames := 9, cells := 0, slots := 0, locals := 219 } : Room)).room s m ([.ref (G.2.2 + 54), .int p1, .int p2] : List Value).toArray below meth c H locs 0 0 (MQ below (g_Q G E (g_setM μ zo) (fun E' v => E' = E ∧ v = some (.int ro))) ([.ref (G.2.2 + 54), .int p1, .int p2] : List Value).toArray s 0 0 (g_A G)) (F0 m 58 ls [.int y0]) := by
    intro z0 x2 x3 y0 H locs ls hf  hR hS hl
    unfold f10_wouldPlan_58 at hf
    refine lv_istore (lv' := [(4, .int y0), (0, .ref (G.2.2 + 54)), (2, .int x2), (3, .int x3)]) hx hb dX10_wouldPlan_58 hl (by decide) rfl (fun ls hl => ?_)
    refine lv_iload_n hx hb dX10_wouldPlan_60 rfl (lv_at hl 2 rfl) ?_
    refine lv_if_ne (tgt := 68) hx hb dX10_wouldPlan_61 (by decide) (fun c18 => ?_) (fun c18 => ?_)
    · replace hf := g_it hf c18
      refine lv_aload_n hx hb dX10_wouldPlan_68 rfl (lv_at hl 1 rfl) ?_
      refine g_get hx hb hts in_10 hown hK hR.2.2.2.2.1.1 rfl 0 (by decide) l_7 rfl rfl dX10_wouldPlan_69 ?_
      refine lv_iload hx hb dX10_wouldPlan_72 (lv_at hl 0 rfl) ?_
      obtain ⟨hg19, hf⟩ := g_gd hf
      refine g_aild hx hb hK hR (by decide) hg19 dX10_wouldPlan_74 ?_
      refine lv_aload_n hx hb dX10_wouldPlan_75 rfl (lv_at hl 1 rfl) ?_
      refine g_get hx hb hts in_10 hown hK hR.2.2.2.2.1.1 rfl 1 (by decide) l_13 rfl rfl dX10_wouldPlan_76 ?_
      refine lv_iload hx hb dX10_wouldPlan_79 (lv_at hl 0 rfl) ?_
      obtain ⟨hg20, hf⟩ := g_gd hf
      refine g_aild hx hb hK hR (by decide) hg20 dX10_wouldPlan_81 ?_
      refine lv_isub hx hb dX10_wouldPlan_82 ?_
      exact hB83 _ _ _ _ _ hf  hR hS (lv_sub hl [1] rfl)
    · replace hf := g_if hf (fun q => q c18)
      refine lv_iload_n hx hb dX10_wouldPlan_64 rfl (lv_at hl 3 rfl) ?_
      refine lv_goto (tgt := 83) hx hb dX10_wouldPlan_65 (by decide) ?_
      exact hB83 _ _ _ _ _ hf  hR hS (lv_sub hl [1] rfl)
  unfold f10_wouldPlan at hf
  refine lv_iload_n hx hb dX10_wouldPlan_0 rfl (lv_at hl 1 rfl) ?_
  refine lv_iconst (v := 0) hx hb dX10_wouldPlan_1 (by decide) ?_
  refine lv_iconst (v := 2) hx hb dX10_wouldPlan_2 (by decide) ?_
  obtain ⟨r1, hc2, hf⟩ := g_b1_e hf
  refine g_call (va_runS (As := [.int p1, .int (0 : Int32), .int (2 : Int32)]) (rest := []) ⟨hx, hb, hml, hown, hts⟩ (c10_in l G E (g_setM μ z0) _ _ _ _ hc2) (cwS 3 hts gX10_wouldPlan_X10_in rfl rfl rfl (by decide +kernel) ⟨Nat.le_of_ble_eq_true rfl, Nat.le_of_ble_eq_true rfl⟩) (g_pre hR hK) rfl rfl hl.1 rfl (lv_room (Nat.le_of_ble_eq_true rfl)) dX10_wouldPlan_3 ⟨by show _ ≤ 0; omega, by show _ ≤ 0; omega⟩) hS (fun w3 H locs hp hR hS => ?_)
  subst hp
  refine lv_if_eq (tgt := 18) hx hb dX10_wouldPlan_6 (by decide) (fun c4 => ?_) (fun c4 => ?_)
  · replace hf := g_it hf c4
    refine lv_bipush (v := -2) hx hb dX10_wouldPlan_18 (by decide) ?_
    obtain ⟨rfl, rfl⟩ := g_sp hf
    exact g_iret hx hb hlocks hr hS hR g_le.rf ⟨rfl, rfl⟩ (by omega) (by omega) dX10_wouldPlan_20
  · replace hf := g_if hf c4
    refine lv_iload_n hx hb dX10_wouldPlan_9 rfl (lv_at hl 2 rfl) ?_
    refine lv_iconst (v := 0) hx hb dX10_wouldPlan_10 (by decide) ?_
    refine lv_iconst (v := 3) hx hb dX10_wouldPlan_11 (by decide) ?_
    obtain ⟨r5, hc6, hf⟩ := g_b1_e hf
    refine g_call (va_runS (As := [.int p2, .int (0 : Int32), .int (3 : Int32)]) (rest := []) ⟨hx, hb, hml, hown, hts⟩ (c10_in l G E (g_setM μ z0) _ _ _ _ hc6) (cwS 3 hts gX10_wouldPlan_X10_in rfl rfl rfl (by decide +kernel) ⟨Nat.le_of_ble_eq_true rfl, Nat.le_of_ble_eq_true rfl⟩) (g_pre hR hK) rfl rfl hl.1 rfl (lv_room (Nat.le_of_ble_eq_true rfl)) dX10_wouldPlan_12 ⟨by show _ ≤ 0; omega, by show _ ≤ 0; omega⟩) hS (fun w7 H locs hp hR hS => ?_)
    subst hp
    refine lv_if_ne (tgt := 21) hx hb dX10_wouldPlan_15 (by decide) (fun c8 => ?_) (fun c8 => ?_)
    · replace hf := g_it hf c8
      refine lv_aload_n hx hb dX10_wouldPlan_21 rfl (lv_at hl 0 rfl) ?_
      refine g_get hx hb hts in_10 hown hK hR.2.2.2.2.1.1 rfl 0 (by decide) l_7 rfl rfl dX10_wouldPlan_22 ?_
      refine lv_aload_n hx hb dX10_wouldPlan_25 rfl (lv_at hl 0 rfl) ?_
      refine g_get hx hb hts in_10 hown hK hR.2.2.2.2.1.1 rfl 1 (by decide) l_13 rfl rfl dX10_wouldPlan_26 ?_
      obtain ⟨z9, hc10, hf⟩ := g_b1_e hf
      refine g_call (va_runS (As := [.ref (g_maA G 0), .ref (g_maA G 1)]) (rest := []) ⟨hx, hb, hml, hown, hts⟩ (c10_copy l G E μ _ 0 (by decide) 1 (by decide) _ hc10) (cwS 2 hts gX10_wouldPlan_X10_copy rfl rfl rfl (by decide +kernel) ⟨Nat.le_of_ble_eq_true rfl, Nat.le_of_ble_eq_true rfl⟩) (g_pre hR hK) rfl rfl hl.1 rfl (lv_room (Nat.le_of_ble_eq_true rfl)) dX10_wouldPlan_29 ⟨by show _ ≤ 0; omega, by show _ ≤ 0; omega⟩) hS (fun w11 H locs hp hR hS => ?_)
      subst hp
      refine lv_aload_n hx hb dX10_wouldPlan_32 rfl (lv_at hl 0 rfl) ?_
      refine lv_iload_n hx hb dX10_wouldPlan_33 rfl (lv_at hl 1 rfl) ?_
      obtain ⟨r12, z13, hc14, hf⟩ := g_bd_e hf
      refine g_call (va_runV (As := [.int p1]) (rest := []) ⟨hx, hb, hml, hown, hts⟩ (c10_plans l G E μ _ _ _ _ hc14) (cwV 1 hts gX10_wouldPlan_X10_plans rfl rfl rfl (by decide +kernel) ⟨Nat.le_of_ble_eq_true rfl, Nat.le_of_ble_eq_true rfl⟩) (g_preV (ci := 10) hR hK (hR.2.2.2.2.1.1) rfl) rfl rfl hl.1 rfl (lv_room (Nat.le_of_ble_eq_true rfl)) dX10_wouldPlan_34 ⟨by show _ ≤ 0; omega, by show _ ≤ 0; omega⟩) hS (fun w15 H locs hp hR hS => ?_)
      subst hp
      refine lv_istore_n (lv' := [(3, .int r12), (0, .ref (G.2.2 + 54)), (1, .int p1), (2, .int p2)]) hx hb dX10_wouldPlan_37 rfl hl (by decide) rfl (fun ls hl => ?_)
      refine lv_iload_n hx hb dX10_wouldPlan_38 rfl (lv_at hl 3 rfl) ?_
      refine lv_iconst (v := 1) hx hb dX10_wouldPlan_39 (by decide) ?_
      refine lv_icmp_ne (tgt := 47) hx hb dX10_wouldPlan_40 (by decide) (fun c16 => ?_) (fun c16 => ?_)
      · replace hf := g_it hf c16
        refine lv_iload_n hx hb dX10_wouldPlan_47 rfl (lv_at hl 3 rfl) ?_
        refine lv_iconst (v := 2) hx hb dX10_wouldPlan_48 (by decide) ?_
        refine lv_icmp_ne (tgt := 57) hx hb dX10_wouldPlan_49 (by decide) (fun c17 => ?_) (fun c17 => ?_)
        · replace hf := g_it hf c17
          refine lv_iconst (v := 4) hx hb dX10_wouldPlan_57 (by decide) ?_
          exact hB58 _ _ _ _ _ _ _ hf  hR hS (lv_sub hl [1, 3, 0] rfl)
        · replace hf := g_if hf (fun q => q c17)
          refine lv_bipush (v := 6) hx hb dX10_wouldPlan_52 (by decide) ?_
          refine lv_goto (tgt := 58) hx hb dX10_wouldPlan_54 (by decide) ?_
          exact hB58 _ _ _ _ _ _ _ hf  hR hS (lv_sub hl [1, 3, 0] rfl)
      · replace hf := g_if hf (fun q => q c16)
        refine lv_iconst (v := 3) hx hb dX10_wouldPlan_43 (by decide) ?_
        refine lv_goto (tgt := 58) hx hb dX10_wouldPlan_44 (by decide) ?_
        exact hB58 _ _ _ _ _ _ _ hf  hR hS (lv_sub hl [1, 3, 0] rfl)
    · replace hf := g_if hf (fun q => q c8)
      refine lv_bipush (v := -2) hx hb dX10_wouldPlan_18 (by decide) ?_
      obtain ⟨rfl, rfl⟩ := g_sp hf
      exact g_iret hx hb hlocks hr hS hR g_le.rf ⟨rfl, rfl⟩ (by omega) (by omega) dX10_wouldPlan_20
