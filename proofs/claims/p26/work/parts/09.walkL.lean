set_option maxHeartbeats 4000000 in
set_option maxRecDepth 100000 in
theorem mL_low (l : Launch) (G : gG) (E : gEn) (μ : gMu) (p0 : Int32) (p1 : Int32) (ro : Int32) (hf : fL_low p0 p1 = some ro) : Met l yL_low wsL_low ({ frames := 0, cells := 0, slots := 0, locals := 0 } : Room) (g_Pre G E μ [.int p0, .int p1]) (g_Q G E μ (fun E' v => E' = E ∧ v = some (.int ro))) 0 0 (g_A G) := by
  refine Met.ofW (cc := cL_low) (maxL := 2) (ret := some .int) (by decide) rfl ?_
  intro p e s m args below meth c s₁ B hml hv
  obtain ⟨rfl, hR, hK⟩ := hv
  have hx := B.exec
  have hb := B.bytes
  have hr := B.returns
  have hts := atoms_spec (ws := wsL_low) B.pre
  have hown : s.vm.findClass RL = some m.cls := findClass_of_methodNamed B.named
  have hlocks := B.notSynchronized
  have hS : va_S (g_A G) s.heap s.heap [] := va_S.rf
  have hl := lv_entry ([.int p0, .int p1]) (n := 2) (Nat.le_of_ble_eq_true rfl)
  rw [lg_entry_eq]
  generalize (lg_sl ([.int p0, .int p1]) ++ List.replicate (2 - (lg_sl ([.int p0, .int p1])).length) Slot.unset).toArray = ls at hl ⊢
  have hl : lv_has ls 2 [(0, .int p0), (1, .int p1)] := hl
  have ld_8 := hts (.constant RL 8 (2147483647)) (by decide +kernel)
  unfold fL_low at hf
  refine lv_iload_n hx hb dL_low_0 rfl (lv_at hl 0 rfl) ?_
  refine lv_ldc hx hb hown ld_8 dL_low_1 ?_
  refine lv_iand hx hb dL_low_3 ?_
  refine lv_iload_n hx hb dL_low_4 rfl (lv_at hl 1 rfl) ?_
  obtain ⟨hn1, hf⟩ := g_gd hf
  refine lv_irem hx hb dL_low_5 hn1 ?_
  obtain rfl := g_s1 hf
  exact g_iret hx hb hlocks hr hS hR g_le.rf ⟨rfl, rfl⟩ (by omega) (by omega) dL_low_6
set_option maxHeartbeats 4000000 in
set_option maxRecDepth 100000 in
theorem mL_buys (l : Launch) (G : gG) (E : gEn) (μ : gMu) (p1 : Int32) (p2 : Int32) (ro : Int32) (zo : gMu) (hf : fL_buys μ p1 p2 = some (ro, zo)) : Met l yL_buys wsL_buys ({ frames := 6, cells := 1, slots := 5, locals := 131 } : Room) (g_Pre G E μ [.ref G.2.2, .int p1, .int p2]) (g_Q G E zo (fun E' v => v = some (.int ro))) 1 5 (g_A G) := by
  refine Met.ofW (cc := cL_buys) (maxL := 7) (ret := some .boolean) (by decide) rfl ?_
  intro p e s m args below meth c s₁ B hml hv
  obtain ⟨rfl, hR, hK⟩ := hv
  have hx := B.exec
  have hb := B.bytes
  have hr := B.returns
  have hts := atoms_spec (ws := wsL_buys) B.pre
  have hown : s.vm.findClass RL = some m.cls := findClass_of_methodNamed B.named
  have hlocks := B.notSynchronized
  have hS : va_S (g_A G) s.heap s.heap [] := va_S.rf
  have hl := lv_entry ([.ref G.2.2, .int p1, .int p2]) (n := 7) (Nat.le_of_ble_eq_true rfl)
  rw [lg_entry_eq]
  generalize (lg_sl ([.ref G.2.2, .int p1, .int p2]) ++ List.replicate (7 - (lg_sl ([.ref G.2.2, .int p1, .int p2])).length) Slot.unset).toArray = ls at hl ⊢
  have hl : lv_has ls 7 [(0, .ref G.2.2), (1, .int p1), (2, .int p2)] := hl
  unfold fL_buys at hf
  refine lv_aload_n hx hb dL_buys_0 rfl (lv_at hl 0 rfl) ?_
  refine lv_bipush (v := 12) hx hb dL_buys_1 (by decide) ?_
  obtain ⟨r1, hc2, hf⟩ := g_b1_e hf
  refine g_call (va_runV (As := [.int (12 : Int32)]) (rest := []) ⟨hx, hb, hml, hown, hts⟩ (c9_count l G E μ _ _ hc2) (cwV 1 hts gL_buys_X9_count rfl rfl rfl (by decide +kernel) ⟨Nat.le_of_ble_eq_true rfl, Nat.le_of_ble_eq_true rfl⟩) (g_preV (ci := 9) hR hK (hR.2.2.2.1) rfl) rfl rfl hl.1 rfl (lv_room (Nat.le_of_ble_eq_true rfl)) dL_buys_3 ⟨by show _ ≤ 1; omega, by show _ ≤ 5; omega⟩) hS (fun w3 H locs hp hR hS => ?_)
  subst hp
  refine lv_istore_n (lv' := [(3, .int r1), (0, .ref G.2.2), (1, .int p1), (2, .int p2)]) hx hb dL_buys_6 rfl hl (by decide) rfl (fun ls hl => ?_)
  refine lv_iload_n hx hb dL_buys_7 rfl (lv_at hl 2 rfl) ?_
  refine lv_iconst (v := 4) hx hb dL_buys_8 (by decide) ?_
  obtain ⟨r4, hc5, hf⟩ := g_b1_e hf
  refine g_call (va_runS (As := [.int p1, .int (4 : Int32)]) (rest := []) ⟨hx, hb, hml, hown, hts⟩ (mL_low l G E μ _ _ _ hc5) (cwS 2 hts gL_buys_L_low rfl rfl rfl (by decide +kernel) ⟨Nat.le_of_ble_eq_true rfl, Nat.le_of_ble_eq_true rfl⟩) (g_pre hR hK) rfl rfl hl.1 rfl (lv_room (Nat.le_of_ble_eq_true rfl)) dL_buys_9 ⟨by show _ ≤ 1; omega, by show _ ≤ 5; omega⟩) hS (fun w6 H locs hp hR hS => ?_)
  subst hp
  refine lv_istore (lv' := [(4, .int r4), (3, .int r1), (0, .ref G.2.2), (1, .int p1), (2, .int p2)]) hx hb dL_buys_12 hl (by decide) rfl (fun ls hl => ?_)
  refine lv_aload_n hx hb dL_buys_14 rfl (lv_at hl 2 rfl) ?_
  refine lv_iload hx hb dL_buys_15 (lv_at hl 0 rfl) ?_
  refine lv_bipush (v := 7) hx hb dL_buys_17 (by decide) ?_
  obtain ⟨r7, hc8, hf⟩ := g_b1_e hf
  refine g_call (va_runV (As := [.int r4, .int (7 : Int32)]) (rest := []) ⟨hx, hb, hml, hown, hts⟩ (c9_at l G E μ _ _ _ hc8) (cwV 2 hts gL_buys_X9_at rfl rfl rfl (by decide +kernel) ⟨Nat.le_of_ble_eq_true rfl, Nat.le_of_ble_eq_true rfl⟩) (g_preV (ci := 9) hR hK (hR.2.2.2.1) rfl) rfl rfl hl.1 rfl (lv_room (Nat.le_of_ble_eq_true rfl)) dL_buys_19 ⟨by show _ ≤ 1; omega, by show _ ≤ 5; omega⟩) hS (fun w9 H locs hp hR hS => ?_)
  subst hp
  refine lv_if_ge (tgt := 32) hx hb dL_buys_22 (by decide) (fun c10 => ?_) (fun c10 => ?_)
  · replace hf := g_it hf c10
    refine lv_iconst (v := 1) hx hb dL_buys_32 (by decide) ?_
    refine lv_goto (tgt := 37) hx hb dL_buys_33 (by decide) ?_
    refine lv_istore (lv' := [(5, .int (1 : Int32)), (4, .int r4), (3, .int r1), (0, .ref G.2.2), (1, .int p1), (2, .int p2)]) hx hb dL_buys_37 hl (by decide) rfl (fun ls hl => ?_)
    refine lv_aload_n hx hb dL_buys_39 rfl (lv_at hl 3 rfl) ?_
    refine lv_iload hx hb dL_buys_40 (lv_at hl 1 rfl) ?_
    refine lv_iload_n hx hb dL_buys_42 rfl (lv_at hl 4 rfl) ?_
    refine lv_iconst (v := 3) hx hb dL_buys_43 (by decide) ?_
    refine lv_ishr hx hb dL_buys_44 ?_
    refine lv_iconst (v := 3) hx hb dL_buys_45 (by decide) ?_
    obtain ⟨r11, hc12, hf⟩ := g_b1_e hf
    refine g_call (va_runS (As := [.int (p1 >>> ((3 : Int32) &&& 31)), .int (3 : Int32)]) (rest := [.int r4, .ref G.2.2]) ⟨hx, hb, hml, hown, hts⟩ (mL_low l G E μ _ _ _ hc12) (cwS 2 hts gL_buys_L_low rfl rfl rfl (by decide +kernel) ⟨Nat.le_of_ble_eq_true rfl, Nat.le_of_ble_eq_true rfl⟩) (g_pre hR hK) rfl rfl hl.1 rfl (lv_room (Nat.le_of_ble_eq_true rfl)) dL_buys_46 ⟨by show _ ≤ 1; omega, by show _ ≤ 5; omega⟩) hS (fun w13 H locs hp hR hS => ?_)
    subst hp
    refine lv_iconst (v := 5) hx hb dL_buys_49 (by decide) ?_
    refine lv_iload_n hx hb dL_buys_50 rfl (lv_at hl 4 rfl) ?_
    refine lv_bipush (v := 6) hx hb dL_buys_51 (by decide) ?_
    refine lv_ishr hx hb dL_buys_53 ?_
    refine lv_bipush (v := 60) hx hb dL_buys_54 (by decide) ?_
    obtain ⟨r14, hc15, hf⟩ := g_b1_e hf
    refine g_call (va_runS (As := [.int (p1 >>> ((6 : Int32) &&& 31)), .int (60 : Int32)]) (rest := [.int (5 : Int32), .int r11, .int r4, .ref G.2.2]) ⟨hx, hb, hml, hown, hts⟩ (mL_low l G E μ _ _ _ hc15) (cwS 2 hts gL_buys_L_low rfl rfl rfl (by decide +kernel) ⟨Nat.le_of_ble_eq_true rfl, Nat.le_of_ble_eq_true rfl⟩) (g_pre hR hK) rfl rfl hl.1 rfl (lv_room (Nat.le_of_ble_eq_true rfl)) dL_buys_56 ⟨by show _ ≤ 1; omega, by show _ ≤ 5; omega⟩) hS (fun w16 H locs hp hR hS => ?_)
    subst hp
    refine lv_iadd hx hb dL_buys_59 ?_
    refine lv_iconst (v := 5) hx hb dL_buys_60 (by decide) ?_
    refine lv_iload_n hx hb dL_buys_61 rfl (lv_at hl 5 rfl) ?_
    refine lv_bipush (v := 60) hx hb dL_buys_62 (by decide) ?_
    obtain ⟨r17, hc18, hf⟩ := g_b1_e hf
    refine g_call (va_runS (As := [.int p2, .int (60 : Int32)]) (rest := [.int (5 : Int32), .int ((5 : Int32) + r14), .int r11, .int r4, .ref G.2.2]) ⟨hx, hb, hml, hown, hts⟩ (mL_low l G E μ _ _ _ hc18) (cwS 2 hts gL_buys_L_low rfl rfl rfl (by decide +kernel) ⟨Nat.le_of_ble_eq_true rfl, Nat.le_of_ble_eq_true rfl⟩) (g_pre hR hK) rfl rfl hl.1 rfl (lv_room (Nat.le_of_ble_eq_true rfl)) dL_buys_64 ⟨by show _ ≤ 1; omega, by show _ ≤ 5; omega⟩) hS (fun w19 H locs hp hR hS => ?_)
    subst hp
    refine lv_iadd hx hb dL_buys_67 ?_
    obtain ⟨r20, z21, hc22, hf⟩ := g_bd_e hf
    refine g_calln (va_runV (As := [.int r4, .int r11, .int ((5 : Int32) + r14), .int ((5 : Int32) + r17)]) (rest := []) ⟨hx, hb, hml, hown, hts⟩ (c9_buy l G E μ _ _ _ _ _ _ hc22) (cwV 4 hts gL_buys_X9_buy rfl rfl rfl (by decide +kernel) ⟨Nat.le_of_ble_eq_true rfl, Nat.le_of_ble_eq_true rfl⟩) (g_preV (ci := 9) hR hK (hR.2.2.2.1) rfl) rfl rfl hl.1 rfl (lv_room (Nat.le_of_ble_eq_true rfl)) dL_buys_68 ⟨by show _ ≤ 1; omega, by show _ ≤ 5; omega⟩) hS (fun w23 E24 H locs hp hle25 hR hS => ?_)
    subst hp
    refine lv_istore (lv' := [(6, .int r20), (5, .int (1 : Int32)), (4, .int r4), (3, .int r1), (0, .ref G.2.2), (1, .int p1), (2, .int p2)]) hx hb dL_buys_71 hl (by decide) rfl (fun ls hl => ?_)
    refine lv_iload hx hb dL_buys_73 (lv_at hl 1 rfl) ?_
    refine lv_if_eq (tgt := 93) hx hb dL_buys_75 (by decide) (fun c26 => absurd c26 (by decide)) (fun _ => ?_)
    refine lv_iload hx hb dL_buys_78 (lv_at hl 0 rfl) ?_
    refine lv_bipush (v := -3) hx hb dL_buys_80 (by decide) ?_
    refine lv_icmp_ne (tgt := 89) hx hb dL_buys_82 (by decide) (fun c27 => ?_) (fun c27 => ?_)
    · replace hf := g_it hf c27
      refine lv_iconst (v := 0) hx hb dL_buys_89 (by decide) ?_
      refine lv_goto (tgt := 126) hx hb dL_buys_90 (by decide) ?_
      obtain ⟨rfl, rfl⟩ := g_sp hf
      exact g_zret hx hb hlocks hr hS hR ((g_le.rf).tr hle25) (by decide) rfl (by omega) (by omega) dL_buys_126
    · replace hf := g_if hf (fun q => q c27)
      refine lv_iconst (v := 1) hx hb dL_buys_85 (by decide) ?_
      refine lv_goto (tgt := 126) hx hb dL_buys_86 (by decide) ?_
      obtain ⟨rfl, rfl⟩ := g_sp hf
      exact g_zret hx hb hlocks hr hS hR ((g_le.rf).tr hle25) (by decide) rfl (by omega) (by omega) dL_buys_126
  · replace hf := g_if hf c10
    refine lv_iload_n hx hb dL_buys_25 rfl (lv_at hl 1 rfl) ?_
    refine lv_sipush (v := 200) hx hb dL_buys_26 (by decide) ?_
    refine lv_icmp_ne (tgt := 36) hx hb dL_buys_29 (by decide) (fun c28 => ?_) (fun c28 => ?_)
    · replace hf := g_it hf c28
      refine lv_iconst (v := 0) hx hb dL_buys_36 (by decide) ?_
      refine lv_istore (lv' := [(5, .int (0 : Int32)), (4, .int r4), (3, .int r1), (0, .ref G.2.2), (1, .int p1), (2, .int p2)]) hx hb dL_buys_37 hl (by decide) rfl (fun ls hl => ?_)
      refine lv_aload_n hx hb dL_buys_39 rfl (lv_at hl 3 rfl) ?_
      refine lv_iload hx hb dL_buys_40 (lv_at hl 1 rfl) ?_
      refine lv_iload_n hx hb dL_buys_42 rfl (lv_at hl 4 rfl) ?_
      refine lv_iconst (v := 3) hx hb dL_buys_43 (by decide) ?_
      refine lv_ishr hx hb dL_buys_44 ?_
      refine lv_iconst (v := 3) hx hb dL_buys_45 (by decide) ?_
      obtain ⟨r29, hc30, hf⟩ := g_b1_e hf
      refine g_call (va_runS (As := [.int (p1 >>> ((3 : Int32) &&& 31)), .int (3 : Int32)]) (rest := [.int r4, .ref G.2.2]) ⟨hx, hb, hml, hown, hts⟩ (mL_low l G E μ _ _ _ hc30) (cwS 2 hts gL_buys_L_low rfl rfl rfl (by decide +kernel) ⟨Nat.le_of_ble_eq_true rfl, Nat.le_of_ble_eq_true rfl⟩) (g_pre hR hK) rfl rfl hl.1 rfl (lv_room (Nat.le_of_ble_eq_true rfl)) dL_buys_46 ⟨by show _ ≤ 1; omega, by show _ ≤ 5; omega⟩) hS (fun w31 H locs hp hR hS => ?_)
      subst hp
      refine lv_iconst (v := 5) hx hb dL_buys_49 (by decide) ?_
      refine lv_iload_n hx hb dL_buys_50 rfl (lv_at hl 4 rfl) ?_
      refine lv_bipush (v := 6) hx hb dL_buys_51 (by decide) ?_
      refine lv_ishr hx hb dL_buys_53 ?_
      refine lv_bipush (v := 60) hx hb dL_buys_54 (by decide) ?_
      obtain ⟨r32, hc33, hf⟩ := g_b1_e hf
      refine g_call (va_runS (As := [.int (p1 >>> ((6 : Int32) &&& 31)), .int (60 : Int32)]) (rest := [.int (5 : Int32), .int r29, .int r4, .ref G.2.2]) ⟨hx, hb, hml, hown, hts⟩ (mL_low l G E μ _ _ _ hc33) (cwS 2 hts gL_buys_L_low rfl rfl rfl (by decide +kernel) ⟨Nat.le_of_ble_eq_true rfl, Nat.le_of_ble_eq_true rfl⟩) (g_pre hR hK) rfl rfl hl.1 rfl (lv_room (Nat.le_of_ble_eq_true rfl)) dL_buys_56 ⟨by show _ ≤ 1; omega, by show _ ≤ 5; omega⟩) hS (fun w34 H locs hp hR hS => ?_)
      subst hp
      refine lv_iadd hx hb dL_buys_59 ?_
      refine lv_iconst (v := 5) hx hb dL_buys_60 (by decide) ?_
      refine lv_iload_n hx hb dL_buys_61 rfl (lv_at hl 5 rfl) ?_
      refine lv_bipush (v := 60) hx hb dL_buys_62 (by decide) ?_
      obtain ⟨r35, hc36, hf⟩ := g_b1_e hf
      refine g_call (va_runS (As := [.int p2, .int (60 : Int32)]) (rest := [.int (5 : Int32), .int ((5 : Int32) + r32), .int r29, .int r4, .ref G.2.2]) ⟨hx, hb, hml, hown, hts⟩ (mL_low l G E μ _ _ _ hc36) (cwS 2 hts gL_buys_L_low rfl rfl rfl (by decide +kernel) ⟨Nat.le_of_ble_eq_true rfl, Nat.le_of_ble_eq_true rfl⟩) (g_pre hR hK) rfl rfl hl.1 rfl (lv_room (Nat.le_of_ble_eq_true rfl)) dL_buys_64 ⟨by show _ ≤ 1; omega, by show _ ≤ 5; omega⟩) hS (fun w37 H locs hp hR hS => ?_)
      subst hp
      refine lv_iadd hx hb dL_buys_67 ?_
      obtain ⟨r38, z39, hc40, hf⟩ := g_bd_e hf
      refine g_calln (va_runV (As := [.int r4, .int r29, .int ((5 : Int32) + r32), .int ((5 : Int32) + r35)]) (rest := []) ⟨hx, hb, hml, hown, hts⟩ (c9_buy l G E μ _ _ _ _ _ _ hc40) (cwV 4 hts gL_buys_X9_buy rfl rfl rfl (by decide +kernel) ⟨Nat.le_of_ble_eq_true rfl, Nat.le_of_ble_eq_true rfl⟩) (g_preV (ci := 9) hR hK (hR.2.2.2.1) rfl) rfl rfl hl.1 rfl (lv_room (Nat.le_of_ble_eq_true rfl)) dL_buys_68 ⟨by show _ ≤ 1; omega, by show _ ≤ 5; omega⟩) hS (fun w41 E42 H locs hp hle43 hR hS => ?_)
      subst hp
      refine lv_istore (lv' := [(6, .int r38), (5, .int (0 : Int32)), (4, .int r4), (3, .int r1), (0, .ref G.2.2), (1, .int p1), (2, .int p2)]) hx hb dL_buys_71 hl (by decide) rfl (fun ls hl => ?_)
      refine lv_iload hx hb dL_buys_73 (lv_at hl 1 rfl) ?_
      refine lv_if_eq (tgt := 93) hx hb dL_buys_75 (by decide) (fun _ => ?_) (fun c44 => absurd (by decide) c44)
      refine lv_iload hx hb dL_buys_93 (lv_at hl 0 rfl) ?_
      refine lv_iload_n hx hb dL_buys_95 rfl (lv_at hl 3 rfl) ?_
      refine lv_icmp_ne (tgt := 125) hx hb dL_buys_96 (by decide) (fun c45 => ?_) (fun c45 => ?_)
      · replace hf := g_it hf c45
        refine lv_iconst (v := 0) hx hb dL_buys_125 (by decide) ?_
        obtain ⟨rfl, rfl⟩ := g_sp hf
        exact g_zret hx hb hlocks hr hS hR ((g_le.rf).tr hle43) (by decide) rfl (by omega) (by omega) dL_buys_126
      · replace hf := g_if hf (fun q => q c45)
        refine lv_aload_n hx hb dL_buys_99 rfl (lv_at hl 4 rfl) ?_
        refine lv_iload hx hb dL_buys_100 (lv_at hl 2 rfl) ?_
        refine lv_iconst (v := 0) hx hb dL_buys_102 (by decide) ?_
        obtain ⟨r46, hc47, hf⟩ := g_b1_e hf
        refine g_call (va_runV (As := [.int r4, .int (0 : Int32)]) (rest := []) ⟨hx, hb, hml, hown, hts⟩ (c9_at l G E42 z39 _ _ _ hc47) (cwV 2 hts gL_buys_X9_at rfl rfl rfl (by decide +kernel) ⟨Nat.le_of_ble_eq_true rfl, Nat.le_of_ble_eq_true rfl⟩) (g_preV (ci := 9) hR hK (hR.2.2.2.1) rfl) rfl rfl hl.1 rfl (lv_room (Nat.le_of_ble_eq_true rfl)) dL_buys_103 ⟨by show _ ≤ 1; omega, by show _ ≤ 5; omega⟩) hS (fun w48 H locs hp hR hS => ?_)
        subst hp
        refine lv_iload_n hx hb dL_buys_106 rfl (lv_at hl 3 rfl) ?_
        refine lv_icmp_ne (tgt := 125) hx hb dL_buys_107 (by decide) (fun c49 => ?_) (fun c49 => ?_)
        · replace hf := g_it hf c49
          refine lv_iconst (v := 0) hx hb dL_buys_125 (by decide) ?_
          obtain ⟨rfl, rfl⟩ := g_sp hf
          exact g_zret hx hb hlocks hr hS hR ((g_le.rf).tr hle43) (by decide) rfl (by omega) (by omega) dL_buys_126
        · replace hf := g_if hf (fun q => q c49)
          refine lv_aload_n hx hb dL_buys_110 rfl (lv_at hl 4 rfl) ?_
          refine lv_iload_n hx hb dL_buys_111 rfl (lv_at hl 3 rfl) ?_
          refine lv_iconst (v := 5) hx hb dL_buys_112 (by decide) ?_
          obtain ⟨r50, hc51, hf⟩ := g_b1_e hf
          refine g_call (va_runV (As := [.int r1, .int (5 : Int32)]) (rest := []) ⟨hx, hb, hml, hown, hts⟩ (c9_sheet l G E42 z39 _ _ _ hc51) (cwV 2 hts gL_buys_X9_sheet rfl rfl rfl (by decide +kernel) ⟨Nat.le_of_ble_eq_true rfl, Nat.le_of_ble_eq_true rfl⟩) (g_preV (ci := 9) hR hK (hR.2.2.2.1) rfl) rfl rfl hl.1 rfl (lv_room (Nat.le_of_ble_eq_true rfl)) dL_buys_113 ⟨by show _ ≤ 1; omega, by show _ ≤ 5; omega⟩) hS (fun w52 H locs hp hR hS => ?_)
          subst hp
          refine lv_bipush (v := -5) hx hb dL_buys_116 (by decide) ?_
          refine lv_icmp_ne (tgt := 125) hx hb dL_buys_118 (by decide) (fun c53 => ?_) (fun c53 => ?_)
          · replace hf := g_it hf c53
            refine lv_iconst (v := 0) hx hb dL_buys_125 (by decide) ?_
            obtain ⟨rfl, rfl⟩ := g_sp hf
            exact g_zret hx hb hlocks hr hS hR ((g_le.rf).tr hle43) (by decide) rfl (by omega) (by omega) dL_buys_126
          · replace hf := g_if hf (fun q => q c53)
            refine lv_iconst (v := 1) hx hb dL_buys_121 (by decide) ?_
            refine lv_goto (tgt := 126) hx hb dL_buys_122 (by decide) ?_
            obtain ⟨rfl, rfl⟩ := g_sp hf
            exact g_zret hx hb hlocks hr hS hR ((g_le.rf).tr hle43) (by decide) rfl (by omega) (by omega) dL_buys_126
    · replace hf := g_if hf (fun q => q c28)
      refine lv_iconst (v := 1) hx hb dL_buys_32 (by decide) ?_
      refine lv_goto (tgt := 37) hx hb dL_buys_33 (by decide) ?_
      refine lv_istore (lv' := [(5, .int (1 : Int32)), (4, .int r4), (3, .int r1), (0, .ref G.2.2), (1, .int p1), (2, .int p2)]) hx hb dL_buys_37 hl (by decide) rfl (fun ls hl => ?_)
      refine lv_aload_n hx hb dL_buys_39 rfl (lv_at hl 3 rfl) ?_
      refine lv_iload hx hb dL_buys_40 (lv_at hl 1 rfl) ?_
      refine lv_iload_n hx hb dL_buys_42 rfl (lv_at hl 4 rfl) ?_
      refine lv_iconst (v := 3) hx hb dL_buys_43 (by decide) ?_
      refine lv_ishr hx hb dL_buys_44 ?_
      refine lv_iconst (v := 3) hx hb dL_buys_45 (by decide) ?_
      obtain ⟨r54, hc55, hf⟩ := g_b1_e hf
      refine g_call (va_runS (As := [.int (p1 >>> ((3 : Int32) &&& 31)), .int (3 : Int32)]) (rest := [.int r4, .ref G.2.2]) ⟨hx, hb, hml, hown, hts⟩ (mL_low l G E μ _ _ _ hc55) (cwS 2 hts gL_buys_L_low rfl rfl rfl (by decide +kernel) ⟨Nat.le_of_ble_eq_true rfl, Nat.le_of_ble_eq_true rfl⟩) (g_pre hR hK) rfl rfl hl.1 rfl (lv_room (Nat.le_of_ble_eq_true rfl)) dL_buys_46 ⟨by show _ ≤ 1; omega, by show _ ≤ 5; omega⟩) hS (fun w56 H locs hp hR hS => ?_)
      subst hp
      refine lv_iconst (v := 5) hx hb dL_buys_49 (by decide) ?_
      refine lv_iload_n hx hb dL_buys_50 rfl (lv_at hl 4 rfl) ?_
      refine lv_bipush (v := 6) hx hb dL_buys_51 (by decide) ?_
      refine lv_ishr hx hb dL_buys_53 ?_
      refine lv_bipush (v := 60) hx hb dL_buys_54 (by decide) ?_
      obtain ⟨r57, hc58, hf⟩ := g_b1_e hf
      refine g_call (va_runS (As := [.int (p1 >>> ((6 : Int32) &&& 31)), .int (60 : Int32)]) (rest := [.int (5 : Int32), .int r54, .int r4, .ref G.2.2]) ⟨hx, hb, hml, hown, hts⟩ (mL_low l G E μ _ _ _ hc58) (cwS 2 hts gL_buys_L_low rfl rfl rfl (by decide +kernel) ⟨Nat.le_of_ble_eq_true rfl, Nat.le_of_ble_eq_true rfl⟩) (g_pre hR hK) rfl rfl hl.1 rfl (lv_room (Nat.le_of_ble_eq_true rfl)) dL_buys_56 ⟨by show _ ≤ 1; omega, by show _ ≤ 5; omega⟩) hS (fun w59 H locs hp hR hS => ?_)
      subst hp
      refine lv_iadd hx hb dL_buys_59 ?_
      refine lv_iconst (v := 5) hx hb dL_buys_60 (by decide) ?_
      refine lv_iload_n hx hb dL_buys_61 rfl (lv_at hl 5 rfl) ?_
      refine lv_bipush (v := 60) hx hb dL_buys_62 (by decide) ?_
      obtain ⟨r60, hc61, hf⟩ := g_b1_e hf
      refine g_call (va_runS (As := [.int p2, .int (60 : Int32)]) (rest := [.int (5 : Int32), .int ((5 : Int32) + r57), .int r54, .int r4, .ref G.2.2]) ⟨hx, hb, hml, hown, hts⟩ (mL_low l G E μ _ _ _ hc61) (cwS 2 hts gL_buys_L_low rfl rfl rfl (by decide +kernel) ⟨Nat.le_of_ble_eq_true rfl, Nat.le_of_ble_eq_true rfl⟩) (g_pre hR hK) rfl rfl hl.1 rfl (lv_room (Nat.le_of_ble_eq_true rfl)) dL_buys_64 ⟨by show _ ≤ 1; omega, by show _ ≤ 5; omega⟩) hS (fun w62 H locs hp hR hS => ?_)
      subst hp
      refine lv_iadd hx hb dL_buys_67 ?_
      obtain ⟨r63, z64, hc65, hf⟩ := g_bd_e hf
      refine g_calln (va_runV (As := [.int r4, .int r54, .int ((5 : Int32) + r57), .int ((5 : Int32) + r60)]) (rest := []) ⟨hx, hb, hml, hown, hts⟩ (c9_buy l G E μ _ _ _ _ _ _ hc65) (cwV 4 hts gL_buys_X9_buy rfl rfl rfl (by decide +kernel) ⟨Nat.le_of_ble_eq_true rfl, Nat.le_of_ble_eq_true rfl⟩) (g_preV (ci := 9) hR hK (hR.2.2.2.1) rfl) rfl rfl hl.1 rfl (lv_room (Nat.le_of_ble_eq_true rfl)) dL_buys_68 ⟨by show _ ≤ 1; omega, by show _ ≤ 5; omega⟩) hS (fun w66 E67 H locs hp hle68 hR hS => ?_)
      subst hp
      refine lv_istore (lv' := [(6, .int r63), (5, .int (1 : Int32)), (4, .int r4), (3, .int r1), (0, .ref G.2.2), (1, .int p1), (2, .int p2)]) hx hb dL_buys_71 hl (by decide) rfl (fun ls hl => ?_)
      refine lv_iload hx hb dL_buys_73 (lv_at hl 1 rfl) ?_
      refine lv_if_eq (tgt := 93) hx hb dL_buys_75 (by decide) (fun c69 => absurd c69 (by decide)) (fun _ => ?_)
      refine lv_iload hx hb dL_buys_78 (lv_at hl 0 rfl) ?_
      refine lv_bipush (v := -3) hx hb dL_buys_80 (by decide) ?_
      refine lv_icmp_ne (tgt := 89) hx hb dL_buys_82 (by decide) (fun c70 => ?_) (fun c70 => ?_)
      · replace hf := g_it hf c70
        refine lv_iconst (v := 0) hx hb dL_buys_89 (by decide) ?_
        refine lv_goto (tgt := 126) hx hb dL_buys_90 (by decide) ?_
        obtain ⟨rfl, rfl⟩ := g_sp hf
        exact g_zret hx hb hlocks hr hS hR ((g_le.rf).tr hle68) (by decide) rfl (by omega) (by omega) dL_buys_126
      · replace hf := g_if hf (fun q => q c70)
        refine lv_iconst (v := 1) hx hb dL_buys_85 (by decide) ?_
        refine lv_goto (tgt := 126) hx hb dL_buys_86 (by decide) ?_
        obtain ⟨rfl, rfl⟩ := g_sp hf
        exact g_zret hx hb hlocks hr hS hR ((g_le.rf).tr hle68) (by decide) rfl (by omega) (by omega) dL_buys_126
set_option maxHeartbeats 4000000 in
set_option maxRecDepth 100000 in
theorem mL_cell (l : Launch) (G : gG) (E : gEn) (μ : gMu) (b : Nat) (xs : Nat → Int32) (L : Nat) (p1 : Int32) (ro : Int32) (hf : fL_cell xs L p1 = some ro) : Met l yL_cell wsL_cell ({ frames := 0, cells := 0, slots := 0, locals := 0 } : Room) (g_PreX G E μ b L xs [.ref b, .int p1]) (g_Q G E μ (fun E' v => E' = E ∧ v = some (.int ro))) 0 0 (g_A G) := by
  refine Met.ofW (cc := cL_cell) (maxL := 2) (ret := some .int) (by decide) rfl ?_
  intro p e s m args below meth c s₁ B hml hv
  obtain ⟨rfl, ⟨hX, hbl, hbA⟩, hR, hK⟩ := hv
  have hx := B.exec
  have hb := B.bytes
  have hr := B.returns
  have hts := atoms_spec (ws := wsL_cell) B.pre
  have hown : s.vm.findClass RL = some m.cls := findClass_of_methodNamed B.named
  have hlocks := B.notSynchronized
  have hS : va_S (g_A G) s.heap s.heap [] := va_S.rf
  have hl := lv_entry ([.ref b, .int p1]) (n := 2) (Nat.le_of_ble_eq_true rfl)
  rw [lg_entry_eq]
  generalize (lg_sl ([.ref b, .int p1]) ++ List.replicate (2 - (lg_sl ([.ref b, .int p1])).length) Slot.unset).toArray = ls at hl ⊢
  have hl : lv_has ls 2 [(0, .ref b), (1, .int p1)] := hl
  have ld_7 := hts (.constant RL 7 (2910007)) (by decide +kernel)
  unfold fL_cell at hf
  refine lv_iload_n hx hb dL_cell_0 rfl (lv_at hl 1 rfl) ?_
  refine lv_aload_n hx hb dL_cell_1 rfl (lv_at hl 0 rfl) ?_
  refine va_slen hx hb hX hbl hbA hS dL_cell_2 ?_
  refine lv_icmp_ge (tgt := 12) hx hb dL_cell_3 (by decide) (fun c1 => ?_) (fun c1 => ?_)
  · replace hf := g_it hf c1
    refine lv_ldc hx hb hown ld_7 dL_cell_12 ?_
    refine lv_iload_n hx hb dL_cell_14 rfl (lv_at hl 1 rfl) ?_
    refine lv_imul hx hb dL_cell_15 ?_
    refine lv_sipush (v := 1511) hx hb dL_cell_16 (by decide) ?_
    refine lv_iadd hx hb dL_cell_19 ?_
    obtain rfl := g_s1 hf
    exact g_iret hx hb hlocks hr hS hR g_le.rf ⟨rfl, rfl⟩ (by omega) (by omega) dL_cell_20
  · replace hf := g_if hf c1
    refine lv_aload_n hx hb dL_cell_6 rfl (lv_at hl 0 rfl) ?_
    refine lv_iload_n hx hb dL_cell_7 rfl (lv_at hl 1 rfl) ?_
    obtain ⟨hg2, hf⟩ := g_gd hf
    refine va_sld hx hb hX hbl hbA hS hg2.vp dL_cell_8 ?_
    refine lv_goto (tgt := 20) hx hb dL_cell_9 (by decide) ?_
    obtain rfl := g_s1 hf
    exact g_iret hx hb hlocks hr hS hR g_le.rf ⟨rfl, rfl⟩ (by omega) (by omega) dL_cell_20
set_option maxHeartbeats 4000000 in
set_option maxRecDepth 100000 in
theorem mL_choices (l : Launch) (G : gG) (E : gEn) (μ : gMu) (p1 : Int32) (ro : Int32) (zo : gMu) (hf : fL_choices μ p1 = some (ro, zo)) : Met l yL_choices wsL_choices ({ frames := 5, cells := 0, slots := 0, locals := 118 } : Room) (g_Pre G E μ [.ref G.2.2, .int p1]) (g_Q G E zo (fun E' v => E' = E ∧ v = some (.int ro))) 0 0 (g_A G) := by
  refine Met.ofW (cc := cL_choices) (maxL := 13) (ret := some .boolean) (by decide) rfl ?_
  intro p e s m args below meth c s₁ B hml hv
  obtain ⟨rfl, hR, hK⟩ := hv
  have hx := B.exec
  have hb := B.bytes
  have hr := B.returns
  have hts := atoms_spec (ws := wsL_choices) B.pre
  have hown : s.vm.findClass RL = some m.cls := findClass_of_methodNamed B.named
  have hlocks := B.notSynchronized
  have hS : va_S (g_A G) s.heap s.heap [] := va_S.rf
  have hl := lv_entry ([.ref G.2.2, .int p1]) (n := 13) (Nat.le_of_ble_eq_true rfl)
  rw [lg_entry_eq]
  generalize (lg_sl ([.ref G.2.2, .int p1]) ++ List.replicate (13 - (lg_sl ([.ref G.2.2, .int p1])).length) Slot.unset).toArray = ls at hl ⊢
  have hl : lv_has ls 13 [(0, .ref G.2.2), (1, .int p1)] := hl
  have hB59 : ∀ (n : Nat) (z0 : gMu) (x2 : Int32) (x3 : Int32) (x4 : Int32) (x5 : Int32) (x6 : Int32) (x7 : Int32) (H : Heap) (locs : List Loc) (ls : Array Slot), fL_choices_59 n z0 x2 x3 x4 x5 x6 x7 = some (ro, zo) → g_R G E z0 H → va_S (g_A G) s.heap H locs → lv_has ls 13 [(0, .ref G.2.2), (2, .int x2), (3, .int x3), (4, .int x4), (5, .int x5), (6, .int x6), (7, .int x7)] → W p l e (headSpec wsL_choices ({ frames := 5, cells := 0, slots := 0, locals := 118 } : Room)).room s m ([.ref G.2.2, .int p1] : List Value).toArray below meth c H locs 0 0 (MQ below (g_Q G E zo (fun E' v => E' = E ∧ v = some (.int ro))) ([.ref G.2.2, .int p1] : List Value).toArray s 0 0 (g_A G)) (F0 m 59 ls []) := by
    intro n
    induction n with
    | zero =>
      intro z0 x2 x3 x4 x5 x6 x7 H locs ls hf
      rw [fL_choices_59] at hf
      cases hf
    | succ n ih =>
      intro z0 x2 x3 x4 x5 x6 x7 H locs ls hf  hR hS hl
      rw [fL_choices_59] at hf
      refine lv_iload hx hb dL_choices_59 (lv_at hl 6 rfl) ?_
      refine lv_aload_n hx hb dL_choices_61 rfl (lv_at hl 0 rfl) ?_
      refine lv_bipush (v := 12) hx hb dL_choices_62 (by decide) ?_
      obtain ⟨r18, hc19, hf⟩ := g_b1_e hf
      refine g_call (va_runV (As := [.int (12 : Int32)]) (rest := [.int x7]) ⟨hx, hb, hml, hown, hts⟩ (c9_count l G E z0 _ _ hc19) (cwV 1 hts gL_choices_X9_count rfl rfl rfl (by decide +kernel) ⟨Nat.le_of_ble_eq_true rfl, Nat.le_of_ble_eq_true rfl⟩) (g_preV (ci := 9) hR hK (hR.2.2.2.1) rfl) rfl rfl hl.1 rfl (lv_room (Nat.le_of_ble_eq_true rfl)) dL_choices_64 ⟨by show _ ≤ 0; omega, by show _ ≤ 0; omega⟩) hS (fun w20 H locs hp hR hS => ?_)
      subst hp
      refine lv_icmp_ge (tgt := 274) hx hb dL_choices_67 (by decide) (fun c21 => ?_) (fun c21 => ?_)
      · replace hf := g_it hf c21
        refine lv_iload hx hb dL_choices_274 (lv_at hl 3 rfl) ?_
        refine lv_iload hx hb dL_choices_276 (lv_at hl 4 rfl) ?_
        refine lv_icmp_ne (tgt := 285) hx hb dL_choices_278 (by decide) (fun c22 => ?_) (fun c22 => ?_)
        · replace hf := g_it hf c22
          refine lv_iconst (v := 0) hx hb dL_choices_285 (by decide) ?_
          obtain ⟨rfl, rfl⟩ := g_sp hf
          exact g_zret hx hb hlocks hr hS hR g_le.rf (by decide) ⟨rfl, rfl⟩ (by omega) (by omega) dL_choices_286
        · replace hf := g_if hf (fun q => q c22)
          refine lv_iconst (v := 1) hx hb dL_choices_281 (by decide) ?_
          refine lv_goto (tgt := 286) hx hb dL_choices_282 (by decide) ?_
          obtain ⟨rfl, rfl⟩ := g_sp hf
          exact g_zret hx hb hlocks hr hS hR g_le.rf (by decide) ⟨rfl, rfl⟩ (by omega) (by omega) dL_choices_286
      · replace hf := g_if hf c21
        refine lv_aload_n hx hb dL_choices_70 rfl (lv_at hl 0 rfl) ?_
        refine lv_iload_n hx hb dL_choices_71 rfl (lv_at hl 1 rfl) ?_
        refine lv_iload hx hb dL_choices_72 (lv_at hl 6 rfl) ?_
        refine lv_iconst (v := 0) hx hb dL_choices_74 (by decide) ?_
        obtain ⟨r23, z24, hc25, hf⟩ := g_bd_e hf
        refine g_call (va_runV (As := [.int x2, .int x7, .int (0 : Int32)]) (rest := []) ⟨hx, hb, hml, hown, hts⟩ (c9_would l G E z0 _ _ _ _ _ hc25) (cwV 3 hts gL_choices_X9_would rfl rfl rfl (by decide +kernel) ⟨Nat.le_of_ble_eq_true rfl, Nat.le_of_ble_eq_true rfl⟩) (g_preV (ci := 9) hR hK (hR.2.2.2.1) rfl) rfl rfl hl.1 rfl (lv_room (Nat.le_of_ble_eq_true rfl)) dL_choices_75 ⟨by show _ ≤ 0; omega, by show _ ≤ 0; omega⟩) hS (fun w26 H locs hp hR hS => ?_)
        subst hp
        refine lv_istore (lv' := [(8, .int r23), (0, .ref G.2.2), (2, .int x2), (3, .int x3), (4, .int x4), (5, .int x5), (6, .int x6), (7, .int x7)]) hx hb dL_choices_78 hl (by decide) rfl (fun ls hl => ?_)
        refine lv_iload hx hb dL_choices_80 (lv_at hl 0 rfl) ?_
        refine lv_if_ge (tgt := 88) hx hb dL_choices_82 (by decide) (fun c27 => ?_) (fun c27 => ?_)
        · replace hf := g_it hf c27
          refine lv_aload_n hx hb dL_choices_88 rfl (lv_at hl 1 rfl) ?_
          refine lv_iload hx hb dL_choices_89 (lv_at hl 7 rfl) ?_
          refine lv_iconst (v := 1) hx hb dL_choices_91 (by decide) ?_
          obtain ⟨r28, hc29, hf⟩ := g_b1_e hf
          refine g_call (va_runV (As := [.int x7, .int (1 : Int32)]) (rest := []) ⟨hx, hb, hml, hown, hts⟩ (c9_sheet l G E z24 _ _ _ hc29) (cwV 2 hts gL_choices_X9_sheet rfl rfl rfl (by decide +kernel) ⟨Nat.le_of_ble_eq_true rfl, Nat.le_of_ble_eq_true rfl⟩) (g_preV (ci := 9) hR hK (hR.2.2.2.1) rfl) rfl rfl hl.1 rfl (lv_room (Nat.le_of_ble_eq_true rfl)) dL_choices_92 ⟨by show _ ≤ 0; omega, by show _ ≤ 0; omega⟩) hS (fun w30 H locs hp hR hS => ?_)
          subst hp
          refine lv_aload_n hx hb dL_choices_95 rfl (lv_at hl 1 rfl) ?_
          refine lv_iload hx hb dL_choices_96 (lv_at hl 7 rfl) ?_
          refine lv_iconst (v := 2) hx hb dL_choices_98 (by decide) ?_
          obtain ⟨r31, hc32, hf⟩ := g_b1_e hf
          refine g_call (va_runV (As := [.int x7, .int (2 : Int32)]) (rest := [.int r28]) ⟨hx, hb, hml, hown, hts⟩ (c9_sheet l G E z24 _ _ _ hc32) (cwV 2 hts gL_choices_X9_sheet rfl rfl rfl (by decide +kernel) ⟨Nat.le_of_ble_eq_true rfl, Nat.le_of_ble_eq_true rfl⟩) (g_preV (ci := 9) hR hK (hR.2.2.2.1) rfl) rfl rfl hl.1 rfl (lv_room (Nat.le_of_ble_eq_true rfl)) dL_choices_99 ⟨by show _ ≤ 0; omega, by show _ ≤ 0; omega⟩) hS (fun w33 H locs hp hR hS => ?_)
          subst hp
          refine lv_imul hx hb dL_choices_102 ?_
          refine lv_topi (fun t34 et34 => ?_)
          replace hf := g_let_at hf et34
          refine lv_istore (lv' := [(9, .int t34), (8, .int r23), (0, .ref G.2.2), (2, .int x2), (3, .int x3), (4, .int x4), (5, .int x5), (6, .int x6), (7, .int x7)]) hx hb dL_choices_103 hl (by decide) rfl (fun ls hl => ?_)
          refine lv_aload_n hx hb dL_choices_105 rfl (lv_at hl 2 rfl) ?_
          refine lv_iload_n hx hb dL_choices_106 rfl (lv_at hl 3 rfl) ?_
          refine lv_iconst (v := 1) hx hb dL_choices_107 (by decide) ?_
          obtain ⟨r35, hc36, hf⟩ := g_b1_e hf
          refine g_call (va_runV (As := [.int x2, .int (1 : Int32)]) (rest := []) ⟨hx, hb, hml, hown, hts⟩ (c9_ordered l G E z24 _ _ _ hc36) (cwV 2 hts gL_choices_X9_ordered rfl rfl rfl (by decide +kernel) ⟨Nat.le_of_ble_eq_true rfl, Nat.le_of_ble_eq_true rfl⟩) (g_preV (ci := 9) hR hK (hR.2.2.2.1) rfl) rfl rfl hl.1 rfl (lv_room (Nat.le_of_ble_eq_true rfl)) dL_choices_108 ⟨by show _ ≤ 0; omega, by show _ ≤ 0; omega⟩) hS (fun w37 H locs hp hR hS => ?_)
          subst hp
          refine lv_aload_n hx hb dL_choices_111 rfl (lv_at hl 2 rfl) ?_
          refine lv_iload_n hx hb dL_choices_112 rfl (lv_at hl 3 rfl) ?_
          refine lv_iconst (v := 2) hx hb dL_choices_113 (by decide) ?_
          obtain ⟨r38, hc39, hf⟩ := g_b1_e hf
          refine g_call (va_runV (As := [.int x2, .int (2 : Int32)]) (rest := [.int r35]) ⟨hx, hb, hml, hown, hts⟩ (c9_ordered l G E z24 _ _ _ hc39) (cwV 2 hts gL_choices_X9_ordered rfl rfl rfl (by decide +kernel) ⟨Nat.le_of_ble_eq_true rfl, Nat.le_of_ble_eq_true rfl⟩) (g_preV (ci := 9) hR hK (hR.2.2.2.1) rfl) rfl rfl hl.1 rfl (lv_room (Nat.le_of_ble_eq_true rfl)) dL_choices_114 ⟨by show _ ≤ 0; omega, by show _ ≤ 0; omega⟩) hS (fun w40 H locs hp hR hS => ?_)
          subst hp
          refine lv_imul hx hb dL_choices_117 ?_
          refine lv_topi (fun t41 et41 => ?_)
          replace hf := g_let_at hf et41
          refine lv_istore (lv' := [(10, .int t41), (9, .int t34), (8, .int r23), (0, .ref G.2.2), (2, .int x2), (3, .int x3), (4, .int x4), (5, .int x5), (6, .int x6), (7, .int x7)]) hx hb dL_choices_118 hl (by decide) rfl (fun ls hl => ?_)
          refine lv_aload_n hx hb dL_choices_120 rfl (lv_at hl 3 rfl) ?_
          refine lv_iload_n hx hb dL_choices_121 rfl (lv_at hl 4 rfl) ?_
          refine lv_iload hx hb dL_choices_122 (lv_at hl 9 rfl) ?_
          refine lv_iconst (v := 5) hx hb dL_choices_124 (by decide) ?_
          obtain ⟨r42, z43, hc44, hf⟩ := g_bd_e hf
          refine g_call (va_runV (As := [.int x2, .int x7, .int (5 : Int32)]) (rest := []) ⟨hx, hb, hml, hown, hts⟩ (c9_would l G E z24 _ _ _ _ _ hc44) (cwV 3 hts gL_choices_X9_would rfl rfl rfl (by decide +kernel) ⟨Nat.le_of_ble_eq_true rfl, Nat.le_of_ble_eq_true rfl⟩) (g_preV (ci := 9) hR hK (hR.2.2.2.1) rfl) rfl rfl hl.1 rfl (lv_room (Nat.le_of_ble_eq_true rfl)) dL_choices_125 ⟨by show _ ≤ 0; omega, by show _ ≤ 0; omega⟩) hS (fun w45 H locs hp hR hS => ?_)
          subst hp
          refine lv_istore (lv' := [(11, .int r42), (10, .int t41), (9, .int t34), (8, .int r23), (0, .ref G.2.2), (2, .int x2), (3, .int x3), (4, .int x4), (5, .int x5), (6, .int x6), (7, .int x7)]) hx hb dL_choices_128 hl (by decide) rfl (fun ls hl => ?_)
          refine lv_iload hx hb dL_choices_130 (lv_at hl 1 rfl) ?_
          refine lv_aload_n hx hb dL_choices_132 rfl (lv_at hl 4 rfl) ?_
          refine lv_iload_n hx hb dL_choices_133 rfl (lv_at hl 5 rfl) ?_
          refine lv_iload hx hb dL_choices_134 (lv_at hl 10 rfl) ?_
          refine lv_iconst (v := 1) hx hb dL_choices_136 (by decide) ?_
          obtain ⟨r46, z47, hc48, hf⟩ := g_bd_e hf
          refine g_call (va_runV (As := [.int x2, .int x7, .int (1 : Int32)]) (rest := [.int t41]) ⟨hx, hb, hml, hown, hts⟩ (c9_would l G E z43 _ _ _ _ _ hc48) (cwV 3 hts gL_choices_X9_would rfl rfl rfl (by decide +kernel) ⟨Nat.le_of_ble_eq_true rfl, Nat.le_of_ble_eq_true rfl⟩) (g_preV (ci := 9) hR hK (hR.2.2.2.1) rfl) rfl rfl hl.1 rfl (lv_room (Nat.le_of_ble_eq_true rfl)) dL_choices_137 ⟨by show _ ≤ 0; omega, by show _ ≤ 0; omega⟩) hS (fun w49 H locs hp hR hS => ?_)
          subst hp
          refine lv_iadd hx hb dL_choices_140 ?_
          refine lv_aload_n hx hb dL_choices_141 rfl (lv_at hl 4 rfl) ?_
          refine lv_iload_n hx hb dL_choices_142 rfl (lv_at hl 5 rfl) ?_
          refine lv_iload hx hb dL_choices_143 (lv_at hl 10 rfl) ?_
          refine lv_iconst (v := 2) hx hb dL_choices_145 (by decide) ?_
          obtain ⟨r50, z51, hc52, hf⟩ := g_bd_e hf
          refine g_call (va_runV (As := [.int x2, .int x7, .int (2 : Int32)]) (rest := [.int (t41 + r46)]) ⟨hx, hb, hml, hown, hts⟩ (c9_would l G E z47 _ _ _ _ _ hc52) (cwV 3 hts gL_choices_X9_would rfl rfl rfl (by decide +kernel) ⟨Nat.le_of_ble_eq_true rfl, Nat.le_of_ble_eq_true rfl⟩) (g_preV (ci := 9) hR hK (hR.2.2.2.1) rfl) rfl rfl hl.1 rfl (lv_room (Nat.le_of_ble_eq_true rfl)) dL_choices_146 ⟨by show _ ≤ 0; omega, by show _ ≤ 0; omega⟩) hS (fun w53 H locs hp hR hS => ?_)
          subst hp
          refine lv_iadd hx hb dL_choices_149 ?_
          refine lv_iload hx hb dL_choices_150 (lv_at hl 0 rfl) ?_
          refine lv_iadd hx hb dL_choices_152 ?_
          refine lv_iload hx hb dL_choices_153 (lv_at hl 2 rfl) ?_
          refine lv_icmp_ne (tgt := 212) hx hb dL_choices_155 (by decide) (fun c54 => ?_) (fun c54 => ?_)
          · replace hf := g_it hf c54
            refine lv_iconst (v := 0) hx hb dL_choices_212 (by decide) ?_
            obtain ⟨rfl, rfl⟩ := g_sp hf
            exact g_zret hx hb hlocks hr hS hR g_le.rf (by decide) ⟨rfl, rfl⟩ (by omega) (by omega) dL_choices_213
          · replace hf := g_if hf (fun q => q c54)
            refine lv_aload_n hx hb dL_choices_158 rfl (lv_at hl 4 rfl) ?_
            refine lv_iload_n hx hb dL_choices_159 rfl (lv_at hl 5 rfl) ?_
            refine lv_iload hx hb dL_choices_160 (lv_at hl 10 rfl) ?_
            refine lv_iconst (v := 3) hx hb dL_choices_162 (by decide) ?_
            obtain ⟨r55, z56, hc57, hf⟩ := g_bd_e hf
            refine g_call (va_runV (As := [.int x2, .int x7, .int (3 : Int32)]) (rest := []) ⟨hx, hb, hml, hown, hts⟩ (c9_would l G E z51 _ _ _ _ _ hc57) (cwV 3 hts gL_choices_X9_would rfl rfl rfl (by decide +kernel) ⟨Nat.le_of_ble_eq_true rfl, Nat.le_of_ble_eq_true rfl⟩) (g_preV (ci := 9) hR hK (hR.2.2.2.1) rfl) rfl rfl hl.1 rfl (lv_room (Nat.le_of_ble_eq_true rfl)) dL_choices_163 ⟨by show _ ≤ 0; omega, by show _ ≤ 0; omega⟩) hS (fun w58 H locs hp hR hS => ?_)
            subst hp
            refine lv_aload_n hx hb dL_choices_166 rfl (lv_at hl 4 rfl) ?_
            refine lv_iload_n hx hb dL_choices_167 rfl (lv_at hl 5 rfl) ?_
            refine lv_iload hx hb dL_choices_168 (lv_at hl 10 rfl) ?_
            refine lv_iconst (v := 4) hx hb dL_choices_170 (by decide) ?_
            obtain ⟨r59, z60, hc61, hf⟩ := g_bd_e hf
            refine g_call (va_runV (As := [.int x2, .int x7, .int (4 : Int32)]) (rest := [.int r55]) ⟨hx, hb, hml, hown, hts⟩ (c9_would l G E z56 _ _ _ _ _ hc61) (cwV 3 hts gL_choices_X9_would rfl rfl rfl (by decide +kernel) ⟨Nat.le_of_ble_eq_true rfl, Nat.le_of_ble_eq_true rfl⟩) (g_preV (ci := 9) hR hK (hR.2.2.2.1) rfl) rfl rfl hl.1 rfl (lv_room (Nat.le_of_ble_eq_true rfl)) dL_choices_171 ⟨by show _ ≤ 0; omega, by show _ ≤ 0; omega⟩) hS (fun w62 H locs hp hR hS => ?_)
            subst hp
            refine lv_iadd hx hb dL_choices_174 ?_
            refine lv_iload hx hb dL_choices_175 (lv_at hl 1 rfl) ?_
            refine lv_iadd hx hb dL_choices_177 ?_
            refine lv_iload hx hb dL_choices_178 (lv_at hl 0 rfl) ?_
            refine lv_iadd hx hb dL_choices_180 ?_
            refine lv_iload hx hb dL_choices_181 (lv_at hl 2 rfl) ?_
            refine lv_icmp_ne (tgt := 212) hx hb dL_choices_183 (by decide) (fun c63 => ?_) (fun c63 => ?_)
            · replace hf := g_it hf c63
              refine lv_iconst (v := 0) hx hb dL_choices_212 (by decide) ?_
              obtain ⟨rfl, rfl⟩ := g_sp hf
              exact g_zret hx hb hlocks hr hS hR g_le.rf (by decide) ⟨rfl, rfl⟩ (by omega) (by omega) dL_choices_213
            · replace hf := g_if hf (fun q => q c63)
              refine lv_iload hx hb dL_choices_186 (lv_at hl 0 rfl) ?_
              refine lv_if_lt (tgt := 212) hx hb dL_choices_188 (by decide) (fun c64 => ?_) (fun c64 => ?_)
              · replace hf := g_it hf c64
                refine lv_iconst (v := 0) hx hb dL_choices_212 (by decide) ?_
                obtain ⟨rfl, rfl⟩ := g_sp hf
                exact g_zret hx hb hlocks hr hS hR g_le.rf (by decide) ⟨rfl, rfl⟩ (by omega) (by omega) dL_choices_213
              · replace hf := g_if hf c64
                refine lv_aload_n hx hb dL_choices_191 rfl (lv_at hl 4 rfl) ?_
                refine lv_iload_n hx hb dL_choices_192 rfl (lv_at hl 5 rfl) ?_
                refine lv_iload hx hb dL_choices_193 (lv_at hl 10 rfl) ?_
                refine lv_bipush (v := 6) hx hb dL_choices_195 (by decide) ?_
                obtain ⟨r65, z66, hc67, hf⟩ := g_bd_e hf
                refine g_call (va_runV (As := [.int x2, .int x7, .int (6 : Int32)]) (rest := []) ⟨hx, hb, hml, hown, hts⟩ (c9_would l G E z60 _ _ _ _ _ hc67) (cwV 3 hts gL_choices_X9_would rfl rfl rfl (by decide +kernel) ⟨Nat.le_of_ble_eq_true rfl, Nat.le_of_ble_eq_true rfl⟩) (g_preV (ci := 9) hR hK (hR.2.2.2.1) rfl) rfl rfl hl.1 rfl (lv_room (Nat.le_of_ble_eq_true rfl)) dL_choices_197 ⟨by show _ ≤ 0; omega, by show _ ≤ 0; omega⟩) hS (fun w68 H locs hp hR hS => ?_)
                subst hp
                refine lv_iconst (v := 1) hx hb dL_choices_200 (by decide) ?_
                refine lv_aload_n hx hb dL_choices_201 rfl (lv_at hl 4 rfl) ?_
                refine lv_iload hx hb dL_choices_202 (lv_at hl 10 rfl) ?_
                refine lv_iconst (v := 4) hx hb dL_choices_204 (by decide) ?_
                obtain ⟨r69, hc70, hf⟩ := g_b1_e hf
                refine g_call (va_runV (As := [.int x7, .int (4 : Int32)]) (rest := [.int (1 : Int32), .int r65]) ⟨hx, hb, hml, hown, hts⟩ (c9_sheet l G E z66 _ _ _ hc70) (cwV 2 hts gL_choices_X9_sheet rfl rfl rfl (by decide +kernel) ⟨Nat.le_of_ble_eq_true rfl, Nat.le_of_ble_eq_true rfl⟩) (g_preV (ci := 9) hR hK (hR.2.2.2.1) rfl) rfl rfl hl.1 rfl (lv_room (Nat.le_of_ble_eq_true rfl)) dL_choices_205 ⟨by show _ ≤ 0; omega, by show _ ≤ 0; omega⟩) hS (fun w71 H locs hp hR hS => ?_)
                subst hp
                refine lv_iadd hx hb dL_choices_208 ?_
                refine lv_icmp_eq (tgt := 214) hx hb dL_choices_209 (by decide) (fun c72 => ?_) (fun c72 => ?_)
                · replace hf := g_it hf c72
                  refine lv_iload_n hx hb dL_choices_214 rfl (lv_at hl 6 rfl) ?_
                  refine lv_if_ne (tgt := 223) hx hb dL_choices_215 (by decide) (fun c73 => ?_) (fun c73 => ?_)
                  · replace hf := g_it hf c73
                    refine lv_iload_n hx hb dL_choices_223 rfl (lv_at hl 6 rfl) ?_
                    refine lv_iconst (v := 1) hx hb dL_choices_224 (by decide) ?_
                    refine lv_icmp_ne (tgt := 238) hx hb dL_choices_225 (by decide) (fun c74 => ?_) (fun c74 => ?_)
                    · replace hf := g_it hf c74
                      refine lv_aload_n hx hb dL_choices_238 rfl (lv_at hl 4 rfl) ?_
                      refine lv_iload_n hx hb dL_choices_239 rfl (lv_at hl 5 rfl) ?_
                      refine lv_iload hx hb dL_choices_240 (lv_at hl 10 rfl) ?_
                      refine lv_iconst (v := 4) hx hb dL_choices_242 (by decide) ?_
                      obtain ⟨r75, z76, hc77, hf⟩ := g_bd_e hf
                      refine g_call (va_runV (As := [.int x2, .int x7, .int (4 : Int32)]) (rest := []) ⟨hx, hb, hml, hown, hts⟩ (c9_would l G E z66 _ _ _ _ _ hc77) (cwV 3 hts gL_choices_X9_would rfl rfl rfl (by decide +kernel) ⟨Nat.le_of_ble_eq_true rfl, Nat.le_of_ble_eq_true rfl⟩) (g_preV (ci := 9) hR hK (hR.2.2.2.1) rfl) rfl rfl hl.1 rfl (lv_room (Nat.le_of_ble_eq_true rfl)) dL_choices_243 ⟨by show _ ≤ 0; omega, by show _ ≤ 0; omega⟩) hS (fun w78 H locs hp hR hS => ?_)
                      subst hp
                      refine lv_istore (lv' := [(12, .int r75), (11, .int r42), (10, .int t41), (9, .int t34), (8, .int r23), (0, .ref G.2.2), (2, .int x2), (3, .int x3), (4, .int x4), (5, .int x5), (6, .int x6), (7, .int x7)]) hx hb dL_choices_246 hl (by decide) rfl (fun ls hl => ?_)
                      refine lv_iload hx hb dL_choices_248 (lv_at hl 9 rfl) ?_
                      refine lv_if_lt (tgt := 260) hx hb dL_choices_250 (by decide) (fun c79 => ?_) (fun c79 => ?_)
                      · replace hf := g_it hf c79
                        refine lv_iload hx hb dL_choices_260 (lv_at hl 11 rfl) ?_
                        refine lv_istore (lv' := [(5, .int x7), (12, .int r75), (11, .int r42), (10, .int t41), (9, .int t34), (8, .int r23), (0, .ref G.2.2), (2, .int x2), (3, .int x3), (4, .int x4), (6, .int x6), (7, .int x7)]) hx hb dL_choices_262 hl (by decide) rfl (fun ls hl => ?_)
                        refine lv_iload hx hb dL_choices_264 (lv_at hl 1 rfl) ?_
                        refine lv_istore (lv' := [(6, .int r75), (5, .int x7), (12, .int r75), (11, .int r42), (10, .int t41), (9, .int t34), (8, .int r23), (0, .ref G.2.2), (2, .int x2), (3, .int x3), (4, .int x4), (7, .int x7)]) hx hb dL_choices_266 hl (by decide) rfl (fun ls hl => ?_)
                        refine lv_iinc (v := x7 + 1) (lv' := [(7, .int (x7 + 1)), (6, .int r75), (5, .int x7), (12, .int r75), (11, .int r42), (10, .int t41), (9, .int t34), (8, .int r23), (0, .ref G.2.2), (2, .int x2), (3, .int x3), (4, .int x4)]) hx hb dL_choices_268 hl (k := 11) rfl rfl (by decide) rfl (fun ls hl => ?_)
                        refine lv_goto (tgt := 59) hx hb dL_choices_271 (by decide) ?_
                        exact ih _ _ _ _ _ _ _ _ _ _ hf  hR hS (lv_sub hl [8, 9, 10, 11, 2, 1, 0] rfl)
                      · replace hf := g_if hf c79
                        refine lv_iload hx hb dL_choices_253 (lv_at hl 0 rfl) ?_
                        refine lv_iload hx hb dL_choices_255 (lv_at hl 10 rfl) ?_
                        refine lv_icmp_ge (tgt := 268) hx hb dL_choices_257 (by decide) (fun c80 => ?_) (fun c80 => ?_)
                        · replace hf := g_it hf c80
                          refine lv_iinc (v := x7 + 1) (lv' := [(7, .int (x7 + 1)), (12, .int r75), (11, .int r42), (10, .int t41), (9, .int t34), (8, .int r23), (0, .ref G.2.2), (2, .int x2), (3, .int x3), (4, .int x4), (5, .int x5), (6, .int x6)]) hx hb dL_choices_268 hl (k := 11) rfl rfl (by decide) rfl (fun ls hl => ?_)
                          refine lv_goto (tgt := 59) hx hb dL_choices_271 (by decide) ?_
                          exact ih _ _ _ _ _ _ _ _ _ _ hf  hR hS (lv_sub hl [6, 7, 8, 9, 10, 11, 0] rfl)
                        · replace hf := g_if hf c80
                          refine lv_iload hx hb dL_choices_260 (lv_at hl 11 rfl) ?_
                          refine lv_istore (lv' := [(5, .int x7), (12, .int r75), (11, .int r42), (10, .int t41), (9, .int t34), (8, .int r23), (0, .ref G.2.2), (2, .int x2), (3, .int x3), (4, .int x4), (6, .int x6), (7, .int x7)]) hx hb dL_choices_262 hl (by decide) rfl (fun ls hl => ?_)
                          refine lv_iload hx hb dL_choices_264 (lv_at hl 1 rfl) ?_
                          refine lv_istore (lv' := [(6, .int r75), (5, .int x7), (12, .int r75), (11, .int r42), (10, .int t41), (9, .int t34), (8, .int r23), (0, .ref G.2.2), (2, .int x2), (3, .int x3), (4, .int x4), (7, .int x7)]) hx hb dL_choices_266 hl (by decide) rfl (fun ls hl => ?_)
                          refine lv_iinc (v := x7 + 1) (lv' := [(7, .int (x7 + 1)), (6, .int r75), (5, .int x7), (12, .int r75), (11, .int r42), (10, .int t41), (9, .int t34), (8, .int r23), (0, .ref G.2.2), (2, .int x2), (3, .int x3), (4, .int x4)]) hx hb dL_choices_268 hl (k := 11) rfl rfl (by decide) rfl (fun ls hl => ?_)
                          refine lv_goto (tgt := 59) hx hb dL_choices_271 (by decide) ?_
                          exact ih _ _ _ _ _ _ _ _ _ _ hf  hR hS (lv_sub hl [8, 9, 10, 11, 2, 1, 0] rfl)
                    · replace hf := g_if hf (fun q => q c74)
                      refine lv_aload_n hx hb dL_choices_228 rfl (lv_at hl 4 rfl) ?_
                      refine lv_iload hx hb dL_choices_229 (lv_at hl 10 rfl) ?_
                      refine lv_iconst (v := 4) hx hb dL_choices_231 (by decide) ?_
                      obtain ⟨r81, hc82, hf⟩ := g_b1_e hf
                      refine g_call (va_runV (As := [.int x7, .int (4 : Int32)]) (rest := []) ⟨hx, hb, hml, hown, hts⟩ (c9_sheet l G E z66 _ _ _ hc82) (cwV 2 hts gL_choices_X9_sheet rfl rfl rfl (by decide +kernel) ⟨Nat.le_of_ble_eq_true rfl, Nat.le_of_ble_eq_true rfl⟩) (g_preV (ci := 9) hR hK (hR.2.2.2.1) rfl) rfl rfl hl.1 rfl (lv_room (Nat.le_of_ble_eq_true rfl)) dL_choices_232 ⟨by show _ ≤ 0; omega, by show _ ≤ 0; omega⟩) hS (fun w83 H locs hp hR hS => ?_)
                      subst hp
                      refine lv_goto (tgt := 246) hx hb dL_choices_235 (by decide) ?_
                      refine lv_istore (lv' := [(12, .int r81), (11, .int r42), (10, .int t41), (9, .int t34), (8, .int r23), (0, .ref G.2.2), (2, .int x2), (3, .int x3), (4, .int x4), (5, .int x5), (6, .int x6), (7, .int x7)]) hx hb dL_choices_246 hl (by decide) rfl (fun ls hl => ?_)
                      refine lv_iload hx hb dL_choices_248 (lv_at hl 9 rfl) ?_
                      refine lv_if_lt (tgt := 260) hx hb dL_choices_250 (by decide) (fun c84 => ?_) (fun c84 => ?_)
                      · replace hf := g_it hf c84
                        refine lv_iload hx hb dL_choices_260 (lv_at hl 11 rfl) ?_
                        refine lv_istore (lv' := [(5, .int x7), (12, .int r81), (11, .int r42), (10, .int t41), (9, .int t34), (8, .int r23), (0, .ref G.2.2), (2, .int x2), (3, .int x3), (4, .int x4), (6, .int x6), (7, .int x7)]) hx hb dL_choices_262 hl (by decide) rfl (fun ls hl => ?_)
                        refine lv_iload hx hb dL_choices_264 (lv_at hl 1 rfl) ?_
                        refine lv_istore (lv' := [(6, .int r81), (5, .int x7), (12, .int r81), (11, .int r42), (10, .int t41), (9, .int t34), (8, .int r23), (0, .ref G.2.2), (2, .int x2), (3, .int x3), (4, .int x4), (7, .int x7)]) hx hb dL_choices_266 hl (by decide) rfl (fun ls hl => ?_)
                        refine lv_iinc (v := x7 + 1) (lv' := [(7, .int (x7 + 1)), (6, .int r81), (5, .int x7), (12, .int r81), (11, .int r42), (10, .int t41), (9, .int t34), (8, .int r23), (0, .ref G.2.2), (2, .int x2), (3, .int x3), (4, .int x4)]) hx hb dL_choices_268 hl (k := 11) rfl rfl (by decide) rfl (fun ls hl => ?_)
                        refine lv_goto (tgt := 59) hx hb dL_choices_271 (by decide) ?_
                        exact ih _ _ _ _ _ _ _ _ _ _ hf  hR hS (lv_sub hl [8, 9, 10, 11, 2, 1, 0] rfl)
                      · replace hf := g_if hf c84
                        refine lv_iload hx hb dL_choices_253 (lv_at hl 0 rfl) ?_
                        refine lv_iload hx hb dL_choices_255 (lv_at hl 10 rfl) ?_
                        refine lv_icmp_ge (tgt := 268) hx hb dL_choices_257 (by decide) (fun c85 => ?_) (fun c85 => ?_)
                        · replace hf := g_it hf c85
                          refine lv_iinc (v := x7 + 1) (lv' := [(7, .int (x7 + 1)), (12, .int r81), (11, .int r42), (10, .int t41), (9, .int t34), (8, .int r23), (0, .ref G.2.2), (2, .int x2), (3, .int x3), (4, .int x4), (5, .int x5), (6, .int x6)]) hx hb dL_choices_268 hl (k := 11) rfl rfl (by decide) rfl (fun ls hl => ?_)
                          refine lv_goto (tgt := 59) hx hb dL_choices_271 (by decide) ?_
                          exact ih _ _ _ _ _ _ _ _ _ _ hf  hR hS (lv_sub hl [6, 7, 8, 9, 10, 11, 0] rfl)
                        · replace hf := g_if hf c85
                          refine lv_iload hx hb dL_choices_260 (lv_at hl 11 rfl) ?_
                          refine lv_istore (lv' := [(5, .int x7), (12, .int r81), (11, .int r42), (10, .int t41), (9, .int t34), (8, .int r23), (0, .ref G.2.2), (2, .int x2), (3, .int x3), (4, .int x4), (6, .int x6), (7, .int x7)]) hx hb dL_choices_262 hl (by decide) rfl (fun ls hl => ?_)
                          refine lv_iload hx hb dL_choices_264 (lv_at hl 1 rfl) ?_
                          refine lv_istore (lv' := [(6, .int r81), (5, .int x7), (12, .int r81), (11, .int r42), (10, .int t41), (9, .int t34), (8, .int r23), (0, .ref G.2.2), (2, .int x2), (3, .int x3), (4, .int x4), (7, .int x7)]) hx hb dL_choices_266 hl (by decide) rfl (fun ls hl => ?_)
                          refine lv_iinc (v := x7 + 1) (lv' := [(7, .int (x7 + 1)), (6, .int r81), (5, .int x7), (12, .int r81), (11, .int r42), (10, .int t41), (9, .int t34), (8, .int r23), (0, .ref G.2.2), (2, .int x2), (3, .int x3), (4, .int x4)]) hx hb dL_choices_268 hl (k := 11) rfl rfl (by decide) rfl (fun ls hl => ?_)
                          refine lv_goto (tgt := 59) hx hb dL_choices_271 (by decide) ?_
                          exact ih _ _ _ _ _ _ _ _ _ _ hf  hR hS (lv_sub hl [8, 9, 10, 11, 2, 1, 0] rfl)
                  · replace hf := g_if hf (fun q => q c73)
                    refine lv_iload hx hb dL_choices_218 (lv_at hl 2 rfl) ?_
                    refine lv_goto (tgt := 246) hx hb dL_choices_220 (by decide) ?_
                    refine lv_istore (lv' := [(12, .int t34), (11, .int r42), (10, .int t41), (9, .int t34), (8, .int r23), (0, .ref G.2.2), (2, .int x2), (3, .int x3), (4, .int x4), (5, .int x5), (6, .int x6), (7, .int x7)]) hx hb dL_choices_246 hl (by decide) rfl (fun ls hl => ?_)
                    refine lv_iload hx hb dL_choices_248 (lv_at hl 9 rfl) ?_
                    refine lv_if_lt (tgt := 260) hx hb dL_choices_250 (by decide) (fun c86 => ?_) (fun c86 => ?_)
                    · replace hf := g_it hf c86
                      refine lv_iload hx hb dL_choices_260 (lv_at hl 11 rfl) ?_
                      refine lv_istore (lv' := [(5, .int x7), (12, .int t34), (11, .int r42), (10, .int t41), (9, .int t34), (8, .int r23), (0, .ref G.2.2), (2, .int x2), (3, .int x3), (4, .int x4), (6, .int x6), (7, .int x7)]) hx hb dL_choices_262 hl (by decide) rfl (fun ls hl => ?_)
                      refine lv_iload hx hb dL_choices_264 (lv_at hl 1 rfl) ?_
                      refine lv_istore (lv' := [(6, .int t34), (5, .int x7), (12, .int t34), (11, .int r42), (10, .int t41), (9, .int t34), (8, .int r23), (0, .ref G.2.2), (2, .int x2), (3, .int x3), (4, .int x4), (7, .int x7)]) hx hb dL_choices_266 hl (by decide) rfl (fun ls hl => ?_)
                      refine lv_iinc (v := x7 + 1) (lv' := [(7, .int (x7 + 1)), (6, .int t34), (5, .int x7), (12, .int t34), (11, .int r42), (10, .int t41), (9, .int t34), (8, .int r23), (0, .ref G.2.2), (2, .int x2), (3, .int x3), (4, .int x4)]) hx hb dL_choices_268 hl (k := 11) rfl rfl (by decide) rfl (fun ls hl => ?_)
                      refine lv_goto (tgt := 59) hx hb dL_choices_271 (by decide) ?_
                      exact ih _ _ _ _ _ _ _ _ _ _ hf  hR hS (lv_sub hl [8, 9, 10, 11, 2, 1, 0] rfl)
                    · replace hf := g_if hf c86
                      refine lv_iload hx hb dL_choices_253 (lv_at hl 0 rfl) ?_
                      refine lv_iload hx hb dL_choices_255 (lv_at hl 10 rfl) ?_
                      refine lv_icmp_ge (tgt := 268) hx hb dL_choices_257 (by decide) (fun c87 => ?_) (fun c87 => ?_)
                      · replace hf := g_it hf c87
                        refine lv_iinc (v := x7 + 1) (lv' := [(7, .int (x7 + 1)), (12, .int t34), (11, .int r42), (10, .int t41), (9, .int t34), (8, .int r23), (0, .ref G.2.2), (2, .int x2), (3, .int x3), (4, .int x4), (5, .int x5), (6, .int x6)]) hx hb dL_choices_268 hl (k := 11) rfl rfl (by decide) rfl (fun ls hl => ?_)
                        refine lv_goto (tgt := 59) hx hb dL_choices_271 (by decide) ?_
                        exact ih _ _ _ _ _ _ _ _ _ _ hf  hR hS (lv_sub hl [6, 7, 8, 9, 10, 11, 0] rfl)
                      · replace hf := g_if hf c87
                        refine lv_iload hx hb dL_choices_260 (lv_at hl 11 rfl) ?_
                        refine lv_istore (lv' := [(5, .int x7), (12, .int t34), (11, .int r42), (10, .int t41), (9, .int t34), (8, .int r23), (0, .ref G.2.2), (2, .int x2), (3, .int x3), (4, .int x4), (6, .int x6), (7, .int x7)]) hx hb dL_choices_262 hl (by decide) rfl (fun ls hl => ?_)
                        refine lv_iload hx hb dL_choices_264 (lv_at hl 1 rfl) ?_
                        refine lv_istore (lv' := [(6, .int t34), (5, .int x7), (12, .int t34), (11, .int r42), (10, .int t41), (9, .int t34), (8, .int r23), (0, .ref G.2.2), (2, .int x2), (3, .int x3), (4, .int x4), (7, .int x7)]) hx hb dL_choices_266 hl (by decide) rfl (fun ls hl => ?_)
                        refine lv_iinc (v := x7 + 1) (lv' := [(7, .int (x7 + 1)), (6, .int t34), (5, .int x7), (12, .int t34), (11, .int r42), (10, .int t41), (9, .int t34), (8, .int r23), (0, .ref G.2.2), (2, .int x2), (3, .int x3), (4, .int x4)]) hx hb dL_choices_268 hl (k := 11) rfl rfl (by decide) rfl (fun ls hl => ?_)
                        refine lv_goto (tgt := 59) hx hb dL_choices_271 (by decide) ?_
                        exact ih _ _ _ _ _ _ _ _ _ _ hf  hR hS (lv_sub hl [8, 9, 10, 11, 2, 1, 0] rfl)
                · replace hf := g_if hf c72
                  refine lv_iconst (v := 0) hx hb dL_choices_212 (by decide) ?_
                  obtain ⟨rfl, rfl⟩ := g_sp hf
                  exact g_zret hx hb hlocks hr hS hR g_le.rf (by decide) ⟨rfl, rfl⟩ (by omega) (by omega) dL_choices_213
        · replace hf := g_if hf c27
          refine lv_goto (tgt := 268) hx hb dL_choices_85 (by decide) ?_
          refine lv_iinc (v := x7 + 1) (lv' := [(7, .int (x7 + 1)), (8, .int r23), (0, .ref G.2.2), (2, .int x2), (3, .int x3), (4, .int x4), (5, .int x5), (6, .int x6)]) hx hb dL_choices_268 hl (k := 7) rfl rfl (by decide) rfl (fun ls hl => ?_)
          refine lv_goto (tgt := 59) hx hb dL_choices_271 (by decide) ?_
          exact ih _ _ _ _ _ _ _ _ _ _ hf  hR hS (lv_sub hl [2, 3, 4, 5, 6, 7, 0] rfl)
  unfold fL_choices at hf
  refine lv_iload_n hx hb dL_choices_0 rfl (lv_at hl 1 rfl) ?_
  refine lv_aload_n hx hb dL_choices_1 rfl (lv_at hl 0 rfl) ?_
  refine lv_bipush (v := 9) hx hb dL_choices_2 (by decide) ?_
  obtain ⟨r1, hc2, hf⟩ := g_b1_e hf
  refine g_call (va_runV (As := [.int (9 : Int32)]) (rest := [.int p1]) ⟨hx, hb, hml, hown, hts⟩ (c9_count l G E μ _ _ hc2) (cwV 1 hts gL_choices_X9_count rfl rfl rfl (by decide +kernel) ⟨Nat.le_of_ble_eq_true rfl, Nat.le_of_ble_eq_true rfl⟩) (g_preV (ci := 9) hR hK (hR.2.2.2.1) rfl) rfl rfl hl.1 rfl (lv_room (Nat.le_of_ble_eq_true rfl)) dL_choices_4 ⟨by show _ ≤ 0; omega, by show _ ≤ 0; omega⟩) hS (fun w3 H locs hp hR hS => ?_)
  subst hp
  obtain ⟨r4, hc5, hf⟩ := g_b1_e hf
  refine g_call (va_runS (As := [.int p1, .int r1]) (rest := []) ⟨hx, hb, hml, hown, hts⟩ (mL_low l G E μ _ _ _ hc5) (cwS 2 hts gL_choices_L_low rfl rfl rfl (by decide +kernel) ⟨Nat.le_of_ble_eq_true rfl, Nat.le_of_ble_eq_true rfl⟩) (g_pre hR hK) rfl rfl hl.1 rfl (lv_room (Nat.le_of_ble_eq_true rfl)) dL_choices_7 ⟨by show _ ≤ 0; omega, by show _ ≤ 0; omega⟩) hS (fun w6 H locs hp hR hS => ?_)
  subst hp
  refine lv_istore_n (lv' := [(2, .int r4), (0, .ref G.2.2), (1, .int p1)]) hx hb dL_choices_10 rfl hl (by decide) rfl (fun ls hl => ?_)
  refine lv_iload_n hx hb dL_choices_11 rfl (lv_at hl 2 rfl) ?_
  refine lv_iconst (v := 4) hx hb dL_choices_12 (by decide) ?_
  refine lv_ishr hx hb dL_choices_13 ?_
  refine lv_iconst (v := 3) hx hb dL_choices_14 (by decide) ?_
  obtain ⟨r7, hc8, hf⟩ := g_b1_e hf
  refine g_call (va_runS (As := [.int (p1 >>> ((4 : Int32) &&& 31)), .int (3 : Int32)]) (rest := []) ⟨hx, hb, hml, hown, hts⟩ (mL_low l G E μ _ _ _ hc8) (cwS 2 hts gL_choices_L_low rfl rfl rfl (by decide +kernel) ⟨Nat.le_of_ble_eq_true rfl, Nat.le_of_ble_eq_true rfl⟩) (g_pre hR hK) rfl rfl hl.1 rfl (lv_room (Nat.le_of_ble_eq_true rfl)) dL_choices_15 ⟨by show _ ≤ 0; omega, by show _ ≤ 0; omega⟩) hS (fun w9 H locs hp hR hS => ?_)
  subst hp
  refine lv_istore_n (lv' := [(3, .int r7), (2, .int r4), (0, .ref G.2.2), (1, .int p1)]) hx hb dL_choices_18 rfl hl (by decide) rfl (fun ls hl => ?_)
  refine lv_aload_n hx hb dL_choices_19 rfl (lv_at hl 2 rfl) ?_
  refine lv_iload_n hx hb dL_choices_20 rfl (lv_at hl 1 rfl) ?_
  refine lv_iload_n hx hb dL_choices_21 rfl (lv_at hl 0 rfl) ?_
  obtain ⟨r10, z11, hc12, hf⟩ := g_bd_e hf
  refine g_call (va_runV (As := [.int r4, .int r7]) (rest := []) ⟨hx, hb, hml, hown, hts⟩ (c9_choice l G E μ _ _ _ _ hc12) (cwV 2 hts gL_choices_X9_choice rfl rfl rfl (by decide +kernel) ⟨Nat.le_of_ble_eq_true rfl, Nat.le_of_ble_eq_true rfl⟩) (g_preV (ci := 9) hR hK (hR.2.2.2.1) rfl) rfl rfl hl.1 rfl (lv_room (Nat.le_of_ble_eq_true rfl)) dL_choices_22 ⟨by show _ ≤ 0; omega, by show _ ≤ 0; omega⟩) hS (fun w13 H locs hp hR hS => ?_)
  subst hp
  refine lv_istore (lv' := [(4, .int r10), (3, .int r7), (2, .int r4), (0, .ref G.2.2), (1, .int p1)]) hx hb dL_choices_25 hl (by decide) rfl (fun ls hl => ?_)
  refine lv_aload_n hx hb dL_choices_27 rfl (lv_at hl 3 rfl) ?_
  refine lv_iload_n hx hb dL_choices_28 rfl (lv_at hl 2 rfl) ?_
  refine lv_iconst (v := 4) hx hb dL_choices_29 (by decide) ?_
  obtain ⟨r14, hc15, hf⟩ := g_b1_e hf
  refine g_call (va_runV (As := [.int r4, .int (4 : Int32)]) (rest := []) ⟨hx, hb, hml, hown, hts⟩ (c9_ordered l G E z11 _ _ _ hc15) (cwV 2 hts gL_choices_X9_ordered rfl rfl rfl (by decide +kernel) ⟨Nat.le_of_ble_eq_true rfl, Nat.le_of_ble_eq_true rfl⟩) (g_preV (ci := 9) hR hK (hR.2.2.2.1) rfl) rfl rfl hl.1 rfl (lv_room (Nat.le_of_ble_eq_true rfl)) dL_choices_30 ⟨by show _ ≤ 0; omega, by show _ ≤ 0; omega⟩) hS (fun w16 H locs hp hR hS => ?_)
  subst hp
  refine lv_if_eq (tgt := 49) hx hb dL_choices_33 (by decide) (fun c17 => ?_) (fun c17 => ?_)
  · replace hf := g_it hf c17
    refine lv_bipush (v := -5) hx hb dL_choices_49 (by decide) ?_
    refine lv_istore (lv' := [(5, .int (-5 : Int32)), (4, .int r10), (3, .int r7), (2, .int r4), (0, .ref G.2.2), (1, .int p1)]) hx hb dL_choices_51 hl (by decide) rfl (fun ls hl => ?_)
    refine lv_iconst (v := 0) hx hb dL_choices_53 (by decide) ?_
    refine lv_istore (lv' := [(6, .int (0 : Int32)), (5, .int (-5 : Int32)), (4, .int r10), (3, .int r7), (2, .int r4), (0, .ref G.2.2), (1, .int p1)]) hx hb dL_choices_54 hl (by decide) rfl (fun ls hl => ?_)
    refine lv_iconst (v := 0) hx hb dL_choices_56 (by decide) ?_
    refine lv_istore (lv' := [(7, .int (0 : Int32)), (6, .int (0 : Int32)), (5, .int (-5 : Int32)), (4, .int r10), (3, .int r7), (2, .int r4), (0, .ref G.2.2), (1, .int p1)]) hx hb dL_choices_57 hl (by decide) rfl (fun ls hl => ?_)
    exact hB59 300 _ _ _ _ _ _ _ _ _ _ hf  hR hS (lv_sub hl [6, 5, 4, 3, 2, 1, 0] rfl)
  · replace hf := g_if hf c17
    refine lv_iload hx hb dL_choices_36 (lv_at hl 0 rfl) ?_
    refine lv_bipush (v := -4) hx hb dL_choices_38 (by decide) ?_
    refine lv_icmp_ne (tgt := 47) hx hb dL_choices_40 (by decide) (fun c88 => ?_) (fun c88 => ?_)
    · replace hf := g_it hf c88
      refine lv_iconst (v := 0) hx hb dL_choices_47 (by decide) ?_
      obtain ⟨rfl, rfl⟩ := g_sp hf
      exact g_zret hx hb hlocks hr hS hR g_le.rf (by decide) ⟨rfl, rfl⟩ (by omega) (by omega) dL_choices_48
    · replace hf := g_if hf (fun q => q c88)
      refine lv_iconst (v := 1) hx hb dL_choices_43 (by decide) ?_
      refine lv_goto (tgt := 48) hx hb dL_choices_44 (by decide) ?_
      obtain ⟨rfl, rfl⟩ := g_sp hf
      exact g_zret hx hb hlocks hr hS hR g_le.rf (by decide) ⟨rfl, rfl⟩ (by omega) (by omega) dL_choices_48
set_option maxHeartbeats 4000000 in
set_option maxRecDepth 100000 in
theorem mL_cuts (l : Launch) (G : gG) (E : gEn) (μ : gMu) (p1 : Int32) (p2 : Int32) (ro : Int32) (zo : gMu) (hf : fL_cuts μ p1 p2 = some (ro, zo)) : Met l yL_cuts wsL_cuts ({ frames := 7, cells := 3, slots := 18, locals := 162 } : Room) (g_Pre G E μ [.ref G.2.2, .int p1, .int p2]) (g_Q G E zo (fun E' v => v = some (.int ro))) 3 18 (g_A G) := by
  refine Met.ofW (cc := cL_cuts) (maxL := 13) (ret := some .boolean) (by decide) rfl ?_
  intro p e s m args below meth c s₁ B hml hv
  obtain ⟨rfl, hR, hK⟩ := hv
  have hx := B.exec
  have hb := B.bytes
  have hr := B.returns
  have hts := atoms_spec (ws := wsL_cuts) B.pre
  have hown : s.vm.findClass RL = some m.cls := findClass_of_methodNamed B.named
  have hlocks := B.notSynchronized
  have hS : va_S (g_A G) s.heap s.heap [] := va_S.rf
  have hl := lv_entry ([.ref G.2.2, .int p1, .int p2]) (n := 13) (Nat.le_of_ble_eq_true rfl)
  rw [lg_entry_eq]
  generalize (lg_sl ([.ref G.2.2, .int p1, .int p2]) ++ List.replicate (13 - (lg_sl ([.ref G.2.2, .int p1, .int p2])).length) Slot.unset).toArray = ls at hl ⊢
  have hl : lv_has ls 13 [(0, .ref G.2.2), (1, .int p1), (2, .int p2)] := hl
  unfold fL_cuts at hf
  refine lv_iload_n hx hb dL_cuts_0 rfl (lv_at hl 1 rfl) ?_
  refine lv_aload_n hx hb dL_cuts_1 rfl (lv_at hl 0 rfl) ?_
  refine lv_bipush (v := 9) hx hb dL_cuts_2 (by decide) ?_
  obtain ⟨r1, hc2, hf⟩ := g_b1_e hf
  refine g_call (va_runV (As := [.int (9 : Int32)]) (rest := [.int p1]) ⟨hx, hb, hml, hown, hts⟩ (c9_count l G E μ _ _ hc2) (cwV 1 hts gL_cuts_X9_count rfl rfl rfl (by decide +kernel) ⟨Nat.le_of_ble_eq_true rfl, Nat.le_of_ble_eq_true rfl⟩) (g_preV (ci := 9) hR hK (hR.2.2.2.1) rfl) rfl rfl hl.1 rfl (lv_room (Nat.le_of_ble_eq_true rfl)) dL_cuts_4 ⟨by show _ ≤ 3; omega, by show _ ≤ 18; omega⟩) hS (fun w3 H locs hp hR hS => ?_)
  subst hp
  obtain ⟨r4, hc5, hf⟩ := g_b1_e hf
  refine g_call (va_runS (As := [.int p1, .int r1]) (rest := []) ⟨hx, hb, hml, hown, hts⟩ (mL_low l G E μ _ _ _ hc5) (cwS 2 hts gL_cuts_L_low rfl rfl rfl (by decide +kernel) ⟨Nat.le_of_ble_eq_true rfl, Nat.le_of_ble_eq_true rfl⟩) (g_pre hR hK) rfl rfl hl.1 rfl (lv_room (Nat.le_of_ble_eq_true rfl)) dL_cuts_7 ⟨by show _ ≤ 3; omega, by show _ ≤ 18; omega⟩) hS (fun w6 H locs hp hR hS => ?_)
  subst hp
  refine lv_istore_n (lv' := [(3, .int r4), (0, .ref G.2.2), (1, .int p1), (2, .int p2)]) hx hb dL_cuts_10 rfl hl (by decide) rfl (fun ls hl => ?_)
  refine lv_iload_n hx hb dL_cuts_11 rfl (lv_at hl 3 rfl) ?_
  refine lv_aload_n hx hb dL_cuts_12 rfl (lv_at hl 1 rfl) ?_
  refine lv_bipush (v := 12) hx hb dL_cuts_13 (by decide) ?_
  obtain ⟨r7, hc8, hf⟩ := g_b1_e hf
  refine g_call (va_runV (As := [.int (12 : Int32)]) (rest := [.int p2]) ⟨hx, hb, hml, hown, hts⟩ (c9_count l G E μ _ _ hc8) (cwV 1 hts gL_cuts_X9_count rfl rfl rfl (by decide +kernel) ⟨Nat.le_of_ble_eq_true rfl, Nat.le_of_ble_eq_true rfl⟩) (g_preV (ci := 9) hR hK (hR.2.2.2.1) rfl) rfl rfl hl.1 rfl (lv_room (Nat.le_of_ble_eq_true rfl)) dL_cuts_15 ⟨by show _ ≤ 3; omega, by show _ ≤ 18; omega⟩) hS (fun w9 H locs hp hR hS => ?_)
  subst hp
  obtain ⟨r10, hc11, hf⟩ := g_b1_e hf
  refine g_call (va_runS (As := [.int p2, .int r7]) (rest := []) ⟨hx, hb, hml, hown, hts⟩ (mL_low l G E μ _ _ _ hc11) (cwS 2 hts gL_cuts_L_low rfl rfl rfl (by decide +kernel) ⟨Nat.le_of_ble_eq_true rfl, Nat.le_of_ble_eq_true rfl⟩) (g_pre hR hK) rfl rfl hl.1 rfl (lv_room (Nat.le_of_ble_eq_true rfl)) dL_cuts_18 ⟨by show _ ≤ 3; omega, by show _ ≤ 18; omega⟩) hS (fun w12 H locs hp hR hS => ?_)
  subst hp
  refine lv_istore (lv' := [(4, .int r10), (3, .int r4), (0, .ref G.2.2), (1, .int p1), (2, .int p2)]) hx hb dL_cuts_21 hl (by decide) rfl (fun ls hl => ?_)
  refine lv_aload_n hx hb dL_cuts_23 rfl (lv_at hl 2 rfl) ?_
  refine lv_iload_n hx hb dL_cuts_24 rfl (lv_at hl 1 rfl) ?_
  refine lv_iload hx hb dL_cuts_25 (lv_at hl 0 rfl) ?_
  refine lv_iconst (v := 0) hx hb dL_cuts_27 (by decide) ?_
  obtain ⟨r13, z14, hc15, hf⟩ := g_bd_e hf
  refine g_call (va_runV (As := [.int r4, .int r10, .int (0 : Int32)]) (rest := []) ⟨hx, hb, hml, hown, hts⟩ (c9_would l G E μ _ _ _ _ _ hc15) (cwV 3 hts gL_cuts_X9_would rfl rfl rfl (by decide +kernel) ⟨Nat.le_of_ble_eq_true rfl, Nat.le_of_ble_eq_true rfl⟩) (g_preV (ci := 9) hR hK (hR.2.2.2.1) rfl) rfl rfl hl.1 rfl (lv_room (Nat.le_of_ble_eq_true rfl)) dL_cuts_28 ⟨by show _ ≤ 3; omega, by show _ ≤ 18; omega⟩) hS (fun w16 H locs hp hR hS => ?_)
  subst hp
  refine lv_istore (lv' := [(5, .int r13), (4, .int r10), (3, .int r4), (0, .ref G.2.2), (1, .int p1), (2, .int p2)]) hx hb dL_cuts_31 hl (by decide) rfl (fun ls hl => ?_)
  refine lv_aload_n hx hb dL_cuts_33 rfl (lv_at hl 3 rfl) ?_
  refine lv_iload_n hx hb dL_cuts_34 rfl (lv_at hl 2 rfl) ?_
  refine lv_iconst (v := 4) hx hb dL_cuts_35 (by decide) ?_
  obtain ⟨r17, hc18, hf⟩ := g_b1_e hf
  refine g_call (va_runV (As := [.int r4, .int (4 : Int32)]) (rest := []) ⟨hx, hb, hml, hown, hts⟩ (c9_ordered l G E z14 _ _ _ hc18) (cwV 2 hts gL_cuts_X9_ordered rfl rfl rfl (by decide +kernel) ⟨Nat.le_of_ble_eq_true rfl, Nat.le_of_ble_eq_true rfl⟩) (g_preV (ci := 9) hR hK (hR.2.2.2.1) rfl) rfl rfl hl.1 rfl (lv_room (Nat.le_of_ble_eq_true rfl)) dL_cuts_36 ⟨by show _ ≤ 3; omega, by show _ ≤ 18; omega⟩) hS (fun w19 H locs hp hR hS => ?_)
  subst hp
  refine lv_if_ne (tgt := 46) hx hb dL_cuts_39 (by decide) (fun c20 => ?_) (fun c20 => ?_)
  · replace hf := g_it hf c20
    refine lv_iconst (v := 0) hx hb dL_cuts_46 (by decide) ?_
    refine lv_istore (lv' := [(6, .int (0 : Int32)), (5, .int r13), (4, .int r10), (3, .int r4), (0, .ref G.2.2), (1, .int p1), (2, .int p2)]) hx hb dL_cuts_47 hl (by decide) rfl (fun ls hl => ?_)
    refine lv_aload_n hx hb dL_cuts_49 rfl (lv_at hl 4 rfl) ?_
    refine lv_iload_n hx hb dL_cuts_50 rfl (lv_at hl 3 rfl) ?_
    refine lv_iload hx hb dL_cuts_51 (lv_at hl 2 rfl) ?_
    refine lv_bipush (v := 6) hx hb dL_cuts_53 (by decide) ?_
    obtain ⟨r21, z22, hc23, hf⟩ := g_bd_e hf
    refine g_call (va_runV (As := [.int r4, .int r10, .int (6 : Int32)]) (rest := []) ⟨hx, hb, hml, hown, hts⟩ (c9_would l G E z14 _ _ _ _ _ hc23) (cwV 3 hts gL_cuts_X9_would rfl rfl rfl (by decide +kernel) ⟨Nat.le_of_ble_eq_true rfl, Nat.le_of_ble_eq_true rfl⟩) (g_preV (ci := 9) hR hK (hR.2.2.2.1) rfl) rfl rfl hl.1 rfl (lv_room (Nat.le_of_ble_eq_true rfl)) dL_cuts_55 ⟨by show _ ≤ 3; omega, by show _ ≤ 18; omega⟩) hS (fun w24 H locs hp hR hS => ?_)
    subst hp
    refine lv_istore (lv' := [(7, .int r21), (6, .int (0 : Int32)), (5, .int r13), (4, .int r10), (3, .int r4), (0, .ref G.2.2), (1, .int p1), (2, .int p2)]) hx hb dL_cuts_58 hl (by decide) rfl (fun ls hl => ?_)
    refine lv_aload_n hx hb dL_cuts_60 rfl (lv_at hl 5 rfl) ?_
    refine lv_iload_n hx hb dL_cuts_61 rfl (lv_at hl 4 rfl) ?_
    refine lv_iload hx hb dL_cuts_62 (lv_at hl 3 rfl) ?_
    refine lv_iconst (v := 4) hx hb dL_cuts_64 (by decide) ?_
    obtain ⟨r25, z26, hc27, hf⟩ := g_bd_e hf
    refine g_call (va_runV (As := [.int r4, .int r10, .int (4 : Int32)]) (rest := []) ⟨hx, hb, hml, hown, hts⟩ (c9_would l G E z22 _ _ _ _ _ hc27) (cwV 3 hts gL_cuts_X9_would rfl rfl rfl (by decide +kernel) ⟨Nat.le_of_ble_eq_true rfl, Nat.le_of_ble_eq_true rfl⟩) (g_preV (ci := 9) hR hK (hR.2.2.2.1) rfl) rfl rfl hl.1 rfl (lv_room (Nat.le_of_ble_eq_true rfl)) dL_cuts_65 ⟨by show _ ≤ 3; omega, by show _ ≤ 18; omega⟩) hS (fun w28 H locs hp hR hS => ?_)
    subst hp
    refine lv_aload_n hx hb dL_cuts_68 rfl (lv_at hl 5 rfl) ?_
    refine lv_iconst (v := 5) hx hb dL_cuts_69 (by decide) ?_
    obtain ⟨r29, hc30, hf⟩ := g_b1_e hf
    refine g_call (va_runV (As := [.int (5 : Int32)]) (rest := [.int r25]) ⟨hx, hb, hml, hown, hts⟩ (c9_count l G E z26 _ _ hc30) (cwV 1 hts gL_cuts_X9_count rfl rfl rfl (by decide +kernel) ⟨Nat.le_of_ble_eq_true rfl, Nat.le_of_ble_eq_true rfl⟩) (g_preV (ci := 9) hR hK (hR.2.2.2.1) rfl) rfl rfl hl.1 rfl (lv_room (Nat.le_of_ble_eq_true rfl)) dL_cuts_70 ⟨by show _ ≤ 3; omega, by show _ ≤ 18; omega⟩) hS (fun w31 H locs hp hR hS => ?_)
    subst hp
    refine lv_iadd hx hb dL_cuts_73 ?_
    refine lv_topi (fun t32 et32 => ?_)
    replace hf := g_let_at hf et32
    refine lv_istore (lv' := [(8, .int t32), (7, .int r21), (6, .int (0 : Int32)), (5, .int r13), (4, .int r10), (3, .int r4), (0, .ref G.2.2), (1, .int p1), (2, .int p2)]) hx hb dL_cuts_74 hl (by decide) rfl (fun ls hl => ?_)
    refine lv_aload_n hx hb dL_cuts_76 rfl (lv_at hl 6 rfl) ?_
    refine lv_iload_n hx hb dL_cuts_77 rfl (lv_at hl 5 rfl) ?_
    refine lv_iload hx hb dL_cuts_78 (lv_at hl 4 rfl) ?_
    refine lv_iconst (v := 5) hx hb dL_cuts_80 (by decide) ?_
    obtain ⟨r33, z34, hc35, hf⟩ := g_bd_e hf
    refine g_call (va_runV (As := [.int r4, .int r10, .int (5 : Int32)]) (rest := []) ⟨hx, hb, hml, hown, hts⟩ (c9_would l G E z26 _ _ _ _ _ hc35) (cwV 3 hts gL_cuts_X9_would rfl rfl rfl (by decide +kernel) ⟨Nat.le_of_ble_eq_true rfl, Nat.le_of_ble_eq_true rfl⟩) (g_preV (ci := 9) hR hK (hR.2.2.2.1) rfl) rfl rfl hl.1 rfl (lv_room (Nat.le_of_ble_eq_true rfl)) dL_cuts_81 ⟨by show _ ≤ 3; omega, by show _ ≤ 18; omega⟩) hS (fun w36 H locs hp hR hS => ?_)
    subst hp
    refine lv_aload_n hx hb dL_cuts_84 rfl (lv_at hl 6 rfl) ?_
    refine lv_bipush (v := 7) hx hb dL_cuts_85 (by decide) ?_
    obtain ⟨r37, hc38, hf⟩ := g_b1_e hf
    refine g_call (va_runV (As := [.int (7 : Int32)]) (rest := [.int r33]) ⟨hx, hb, hml, hown, hts⟩ (c9_count l G E z34 _ _ hc38) (cwV 1 hts gL_cuts_X9_count rfl rfl rfl (by decide +kernel) ⟨Nat.le_of_ble_eq_true rfl, Nat.le_of_ble_eq_true rfl⟩) (g_preV (ci := 9) hR hK (hR.2.2.2.1) rfl) rfl rfl hl.1 rfl (lv_room (Nat.le_of_ble_eq_true rfl)) dL_cuts_87 ⟨by show _ ≤ 3; omega, by show _ ≤ 18; omega⟩) hS (fun w39 H locs hp hR hS => ?_)
    subst hp
    refine lv_iadd hx hb dL_cuts_90 ?_
    refine lv_topi (fun t40 et40 => ?_)
    replace hf := g_let_at hf et40
    refine lv_istore (lv' := [(9, .int t40), (8, .int t32), (7, .int r21), (6, .int (0 : Int32)), (5, .int r13), (4, .int r10), (3, .int r4), (0, .ref G.2.2), (1, .int p1), (2, .int p2)]) hx hb dL_cuts_91 hl (by decide) rfl (fun ls hl => ?_)
    refine lv_aload_n hx hb dL_cuts_93 rfl (lv_at hl 7 rfl) ?_
    refine lv_bipush (v := 8) hx hb dL_cuts_94 (by decide) ?_
    obtain ⟨r41, hc42, hf⟩ := g_b1_e hf
    refine g_call (va_runV (As := [.int (8 : Int32)]) (rest := []) ⟨hx, hb, hml, hown, hts⟩ (c9_count l G E z34 _ _ hc42) (cwV 1 hts gL_cuts_X9_count rfl rfl rfl (by decide +kernel) ⟨Nat.le_of_ble_eq_true rfl, Nat.le_of_ble_eq_true rfl⟩) (g_preV (ci := 9) hR hK (hR.2.2.2.1) rfl) rfl rfl hl.1 rfl (lv_room (Nat.le_of_ble_eq_true rfl)) dL_cuts_96 ⟨by show _ ≤ 3; omega, by show _ ≤ 18; omega⟩) hS (fun w43 H locs hp hR hS => ?_)
    subst hp
    refine lv_istore (lv' := [(10, .int r41), (9, .int t40), (8, .int t32), (7, .int r21), (6, .int (0 : Int32)), (5, .int r13), (4, .int r10), (3, .int r4), (0, .ref G.2.2), (1, .int p1), (2, .int p2)]) hx hb dL_cuts_99 hl (by decide) rfl (fun ls hl => ?_)
    refine lv_aload_n hx hb dL_cuts_101 rfl (lv_at hl 8 rfl) ?_
    refine lv_iconst (v := 1) hx hb dL_cuts_102 (by decide) ?_
    obtain ⟨r44, hc45, hf⟩ := g_b1_e hf
    refine g_call (va_runV (As := [.int (1 : Int32)]) (rest := []) ⟨hx, hb, hml, hown, hts⟩ (c9_count l G E z34 _ _ hc45) (cwV 1 hts gL_cuts_X9_count rfl rfl rfl (by decide +kernel) ⟨Nat.le_of_ble_eq_true rfl, Nat.le_of_ble_eq_true rfl⟩) (g_preV (ci := 9) hR hK (hR.2.2.2.1) rfl) rfl rfl hl.1 rfl (lv_room (Nat.le_of_ble_eq_true rfl)) dL_cuts_103 ⟨by show _ ≤ 3; omega, by show _ ≤ 18; omega⟩) hS (fun w46 H locs hp hR hS => ?_)
    subst hp
    refine lv_istore (lv' := [(11, .int r44), (10, .int r41), (9, .int t40), (8, .int t32), (7, .int r21), (6, .int (0 : Int32)), (5, .int r13), (4, .int r10), (3, .int r4), (0, .ref G.2.2), (1, .int p1), (2, .int p2)]) hx hb dL_cuts_106 hl (by decide) rfl (fun ls hl => ?_)
    refine lv_aload_n hx hb dL_cuts_108 rfl (lv_at hl 9 rfl) ?_
    refine lv_iload_n hx hb dL_cuts_109 rfl (lv_at hl 8 rfl) ?_
    refine lv_iload hx hb dL_cuts_110 (lv_at hl 7 rfl) ?_
    obtain ⟨r47, z48, hc49, hf⟩ := g_bd_e hf
    refine g_calln (va_runV (As := [.int r4, .int r10]) (rest := []) ⟨hx, hb, hml, hown, hts⟩ (c9_cut l G E z34 _ _ _ _ hc49) (cwV 2 hts gL_cuts_X9_cut rfl rfl rfl (by decide +kernel) ⟨Nat.le_of_ble_eq_true rfl, Nat.le_of_ble_eq_true rfl⟩) (g_preV (ci := 9) hR hK (hR.2.2.2.1) rfl) rfl rfl hl.1 rfl (lv_room (Nat.le_of_ble_eq_true rfl)) dL_cuts_112 ⟨by show _ ≤ 3; omega, by show _ ≤ 18; omega⟩) hS (fun w50 E51 H locs hp hle52 hR hS => ?_)
    subst hp
    refine lv_istore (lv' := [(12, .int r47), (11, .int r44), (10, .int r41), (9, .int t40), (8, .int t32), (7, .int r21), (6, .int (0 : Int32)), (5, .int r13), (4, .int r10), (3, .int r4), (0, .ref G.2.2), (1, .int p1), (2, .int p2)]) hx hb dL_cuts_115 hl (by decide) rfl (fun ls hl => ?_)
    refine lv_iload hx hb dL_cuts_117 (lv_at hl 7 rfl) ?_
    refine lv_iconst (v := -1) hx hb dL_cuts_119 (by decide) ?_
    refine lv_icmp_ne (tgt := 135) hx hb dL_cuts_120 (by decide) (fun c53 => ?_) (fun c53 => ?_)
    · replace hf := g_it hf c53
      refine lv_iload hx hb dL_cuts_135 (lv_at hl 6 rfl) ?_
      refine lv_if_eq (tgt := 145) hx hb dL_cuts_137 (by decide) (fun _ => ?_) (fun c54 => absurd (by decide) c54)
      refine lv_iload hx hb dL_cuts_145 (lv_at hl 0 rfl) ?_
      refine lv_bipush (v := -4) hx hb dL_cuts_147 (by decide) ?_
      refine lv_icmp_ne (tgt := 156) hx hb dL_cuts_149 (by decide) (fun c55 => ?_) (fun c55 => ?_)
      · replace hf := g_it hf c55
        refine lv_iconst (v := 0) hx hb dL_cuts_156 (by decide) ?_
        obtain ⟨rfl, rfl⟩ := g_sp hf
        exact g_zret hx hb hlocks hr hS hR ((g_le.rf).tr hle52) (by decide) rfl (by omega) (by omega) dL_cuts_157
      · replace hf := g_if hf (fun q => q c55)
        refine lv_iconst (v := 1) hx hb dL_cuts_152 (by decide) ?_
        refine lv_goto (tgt := 157) hx hb dL_cuts_153 (by decide) ?_
        obtain ⟨rfl, rfl⟩ := g_sp hf
        exact g_zret hx hb hlocks hr hS hR ((g_le.rf).tr hle52) (by decide) rfl (by omega) (by omega) dL_cuts_157
    · replace hf := g_if hf (fun q => q c53)
      refine lv_iload hx hb dL_cuts_123 (lv_at hl 0 rfl) ?_
      refine lv_iconst (v := -1) hx hb dL_cuts_125 (by decide) ?_
      refine lv_icmp_ne (tgt := 133) hx hb dL_cuts_126 (by decide) (fun c56 => ?_) (fun c56 => ?_)
      · replace hf := g_it hf c56
        refine lv_iconst (v := 0) hx hb dL_cuts_133 (by decide) ?_
        obtain ⟨rfl, rfl⟩ := g_sp hf
        exact g_zret hx hb hlocks hr hS hR ((g_le.rf).tr hle52) (by decide) rfl (by omega) (by omega) dL_cuts_134
      · replace hf := g_if hf (fun q => q c56)
        refine lv_iconst (v := 1) hx hb dL_cuts_129 (by decide) ?_
        refine lv_goto (tgt := 134) hx hb dL_cuts_130 (by decide) ?_
        obtain ⟨rfl, rfl⟩ := g_sp hf
        exact g_zret hx hb hlocks hr hS hR ((g_le.rf).tr hle52) (by decide) rfl (by omega) (by omega) dL_cuts_134
  · replace hf := g_if hf (fun q => q c20)
    refine lv_iconst (v := 1) hx hb dL_cuts_42 (by decide) ?_
    refine lv_goto (tgt := 47) hx hb dL_cuts_43 (by decide) ?_
    refine lv_istore (lv' := [(6, .int (1 : Int32)), (5, .int r13), (4, .int r10), (3, .int r4), (0, .ref G.2.2), (1, .int p1), (2, .int p2)]) hx hb dL_cuts_47 hl (by decide) rfl (fun ls hl => ?_)
    refine lv_aload_n hx hb dL_cuts_49 rfl (lv_at hl 4 rfl) ?_
    refine lv_iload_n hx hb dL_cuts_50 rfl (lv_at hl 3 rfl) ?_
    refine lv_iload hx hb dL_cuts_51 (lv_at hl 2 rfl) ?_
    refine lv_bipush (v := 6) hx hb dL_cuts_53 (by decide) ?_
    obtain ⟨r57, z58, hc59, hf⟩ := g_bd_e hf
    refine g_call (va_runV (As := [.int r4, .int r10, .int (6 : Int32)]) (rest := []) ⟨hx, hb, hml, hown, hts⟩ (c9_would l G E z14 _ _ _ _ _ hc59) (cwV 3 hts gL_cuts_X9_would rfl rfl rfl (by decide +kernel) ⟨Nat.le_of_ble_eq_true rfl, Nat.le_of_ble_eq_true rfl⟩) (g_preV (ci := 9) hR hK (hR.2.2.2.1) rfl) rfl rfl hl.1 rfl (lv_room (Nat.le_of_ble_eq_true rfl)) dL_cuts_55 ⟨by show _ ≤ 3; omega, by show _ ≤ 18; omega⟩) hS (fun w60 H locs hp hR hS => ?_)
    subst hp
    refine lv_istore (lv' := [(7, .int r57), (6, .int (1 : Int32)), (5, .int r13), (4, .int r10), (3, .int r4), (0, .ref G.2.2), (1, .int p1), (2, .int p2)]) hx hb dL_cuts_58 hl (by decide) rfl (fun ls hl => ?_)
    refine lv_aload_n hx hb dL_cuts_60 rfl (lv_at hl 5 rfl) ?_
    refine lv_iload_n hx hb dL_cuts_61 rfl (lv_at hl 4 rfl) ?_
    refine lv_iload hx hb dL_cuts_62 (lv_at hl 3 rfl) ?_
    refine lv_iconst (v := 4) hx hb dL_cuts_64 (by decide) ?_
    obtain ⟨r61, z62, hc63, hf⟩ := g_bd_e hf
    refine g_call (va_runV (As := [.int r4, .int r10, .int (4 : Int32)]) (rest := []) ⟨hx, hb, hml, hown, hts⟩ (c9_would l G E z58 _ _ _ _ _ hc63) (cwV 3 hts gL_cuts_X9_would rfl rfl rfl (by decide +kernel) ⟨Nat.le_of_ble_eq_true rfl, Nat.le_of_ble_eq_true rfl⟩) (g_preV (ci := 9) hR hK (hR.2.2.2.1) rfl) rfl rfl hl.1 rfl (lv_room (Nat.le_of_ble_eq_true rfl)) dL_cuts_65 ⟨by show _ ≤ 3; omega, by show _ ≤ 18; omega⟩) hS (fun w64 H locs hp hR hS => ?_)
    subst hp
    refine lv_aload_n hx hb dL_cuts_68 rfl (lv_at hl 5 rfl) ?_
    refine lv_iconst (v := 5) hx hb dL_cuts_69 (by decide) ?_
    obtain ⟨r65, hc66, hf⟩ := g_b1_e hf
    refine g_call (va_runV (As := [.int (5 : Int32)]) (rest := [.int r61]) ⟨hx, hb, hml, hown, hts⟩ (c9_count l G E z62 _ _ hc66) (cwV 1 hts gL_cuts_X9_count rfl rfl rfl (by decide +kernel) ⟨Nat.le_of_ble_eq_true rfl, Nat.le_of_ble_eq_true rfl⟩) (g_preV (ci := 9) hR hK (hR.2.2.2.1) rfl) rfl rfl hl.1 rfl (lv_room (Nat.le_of_ble_eq_true rfl)) dL_cuts_70 ⟨by show _ ≤ 3; omega, by show _ ≤ 18; omega⟩) hS (fun w67 H locs hp hR hS => ?_)
    subst hp
    refine lv_iadd hx hb dL_cuts_73 ?_
    refine lv_topi (fun t68 et68 => ?_)
    replace hf := g_let_at hf et68
    refine lv_istore (lv' := [(8, .int t68), (7, .int r57), (6, .int (1 : Int32)), (5, .int r13), (4, .int r10), (3, .int r4), (0, .ref G.2.2), (1, .int p1), (2, .int p2)]) hx hb dL_cuts_74 hl (by decide) rfl (fun ls hl => ?_)
    refine lv_aload_n hx hb dL_cuts_76 rfl (lv_at hl 6 rfl) ?_
    refine lv_iload_n hx hb dL_cuts_77 rfl (lv_at hl 5 rfl) ?_
    refine lv_iload hx hb dL_cuts_78 (lv_at hl 4 rfl) ?_
    refine lv_iconst (v := 5) hx hb dL_cuts_80 (by decide) ?_
    obtain ⟨r69, z70, hc71, hf⟩ := g_bd_e hf
    refine g_call (va_runV (As := [.int r4, .int r10, .int (5 : Int32)]) (rest := []) ⟨hx, hb, hml, hown, hts⟩ (c9_would l G E z62 _ _ _ _ _ hc71) (cwV 3 hts gL_cuts_X9_would rfl rfl rfl (by decide +kernel) ⟨Nat.le_of_ble_eq_true rfl, Nat.le_of_ble_eq_true rfl⟩) (g_preV (ci := 9) hR hK (hR.2.2.2.1) rfl) rfl rfl hl.1 rfl (lv_room (Nat.le_of_ble_eq_true rfl)) dL_cuts_81 ⟨by show _ ≤ 3; omega, by show _ ≤ 18; omega⟩) hS (fun w72 H locs hp hR hS => ?_)
    subst hp
    refine lv_aload_n hx hb dL_cuts_84 rfl (lv_at hl 6 rfl) ?_
    refine lv_bipush (v := 7) hx hb dL_cuts_85 (by decide) ?_
    obtain ⟨r73, hc74, hf⟩ := g_b1_e hf
    refine g_call (va_runV (As := [.int (7 : Int32)]) (rest := [.int r69]) ⟨hx, hb, hml, hown, hts⟩ (c9_count l G E z70 _ _ hc74) (cwV 1 hts gL_cuts_X9_count rfl rfl rfl (by decide +kernel) ⟨Nat.le_of_ble_eq_true rfl, Nat.le_of_ble_eq_true rfl⟩) (g_preV (ci := 9) hR hK (hR.2.2.2.1) rfl) rfl rfl hl.1 rfl (lv_room (Nat.le_of_ble_eq_true rfl)) dL_cuts_87 ⟨by show _ ≤ 3; omega, by show _ ≤ 18; omega⟩) hS (fun w75 H locs hp hR hS => ?_)
    subst hp
    refine lv_iadd hx hb dL_cuts_90 ?_
    refine lv_topi (fun t76 et76 => ?_)
    replace hf := g_let_at hf et76
    refine lv_istore (lv' := [(9, .int t76), (8, .int t68), (7, .int r57), (6, .int (1 : Int32)), (5, .int r13), (4, .int r10), (3, .int r4), (0, .ref G.2.2), (1, .int p1), (2, .int p2)]) hx hb dL_cuts_91 hl (by decide) rfl (fun ls hl => ?_)
    refine lv_aload_n hx hb dL_cuts_93 rfl (lv_at hl 7 rfl) ?_
    refine lv_bipush (v := 8) hx hb dL_cuts_94 (by decide) ?_
    obtain ⟨r77, hc78, hf⟩ := g_b1_e hf
    refine g_call (va_runV (As := [.int (8 : Int32)]) (rest := []) ⟨hx, hb, hml, hown, hts⟩ (c9_count l G E z70 _ _ hc78) (cwV 1 hts gL_cuts_X9_count rfl rfl rfl (by decide +kernel) ⟨Nat.le_of_ble_eq_true rfl, Nat.le_of_ble_eq_true rfl⟩) (g_preV (ci := 9) hR hK (hR.2.2.2.1) rfl) rfl rfl hl.1 rfl (lv_room (Nat.le_of_ble_eq_true rfl)) dL_cuts_96 ⟨by show _ ≤ 3; omega, by show _ ≤ 18; omega⟩) hS (fun w79 H locs hp hR hS => ?_)
    subst hp
    refine lv_istore (lv' := [(10, .int r77), (9, .int t76), (8, .int t68), (7, .int r57), (6, .int (1 : Int32)), (5, .int r13), (4, .int r10), (3, .int r4), (0, .ref G.2.2), (1, .int p1), (2, .int p2)]) hx hb dL_cuts_99 hl (by decide) rfl (fun ls hl => ?_)
    refine lv_aload_n hx hb dL_cuts_101 rfl (lv_at hl 8 rfl) ?_
    refine lv_iconst (v := 1) hx hb dL_cuts_102 (by decide) ?_
    obtain ⟨r80, hc81, hf⟩ := g_b1_e hf
    refine g_call (va_runV (As := [.int (1 : Int32)]) (rest := []) ⟨hx, hb, hml, hown, hts⟩ (c9_count l G E z70 _ _ hc81) (cwV 1 hts gL_cuts_X9_count rfl rfl rfl (by decide +kernel) ⟨Nat.le_of_ble_eq_true rfl, Nat.le_of_ble_eq_true rfl⟩) (g_preV (ci := 9) hR hK (hR.2.2.2.1) rfl) rfl rfl hl.1 rfl (lv_room (Nat.le_of_ble_eq_true rfl)) dL_cuts_103 ⟨by show _ ≤ 3; omega, by show _ ≤ 18; omega⟩) hS (fun w82 H locs hp hR hS => ?_)
    subst hp
    refine lv_istore (lv' := [(11, .int r80), (10, .int r77), (9, .int t76), (8, .int t68), (7, .int r57), (6, .int (1 : Int32)), (5, .int r13), (4, .int r10), (3, .int r4), (0, .ref G.2.2), (1, .int p1), (2, .int p2)]) hx hb dL_cuts_106 hl (by decide) rfl (fun ls hl => ?_)
    refine lv_aload_n hx hb dL_cuts_108 rfl (lv_at hl 9 rfl) ?_
    refine lv_iload_n hx hb dL_cuts_109 rfl (lv_at hl 8 rfl) ?_
    refine lv_iload hx hb dL_cuts_110 (lv_at hl 7 rfl) ?_
    obtain ⟨r83, z84, hc85, hf⟩ := g_bd_e hf
    refine g_calln (va_runV (As := [.int r4, .int r10]) (rest := []) ⟨hx, hb, hml, hown, hts⟩ (c9_cut l G E z70 _ _ _ _ hc85) (cwV 2 hts gL_cuts_X9_cut rfl rfl rfl (by decide +kernel) ⟨Nat.le_of_ble_eq_true rfl, Nat.le_of_ble_eq_true rfl⟩) (g_preV (ci := 9) hR hK (hR.2.2.2.1) rfl) rfl rfl hl.1 rfl (lv_room (Nat.le_of_ble_eq_true rfl)) dL_cuts_112 ⟨by show _ ≤ 3; omega, by show _ ≤ 18; omega⟩) hS (fun w86 E87 H locs hp hle88 hR hS => ?_)
    subst hp
    refine lv_istore (lv' := [(12, .int r83), (11, .int r80), (10, .int r77), (9, .int t76), (8, .int t68), (7, .int r57), (6, .int (1 : Int32)), (5, .int r13), (4, .int r10), (3, .int r4), (0, .ref G.2.2), (1, .int p1), (2, .int p2)]) hx hb dL_cuts_115 hl (by decide) rfl (fun ls hl => ?_)
    refine lv_iload hx hb dL_cuts_117 (lv_at hl 7 rfl) ?_
    refine lv_iconst (v := -1) hx hb dL_cuts_119 (by decide) ?_
    refine lv_icmp_ne (tgt := 135) hx hb dL_cuts_120 (by decide) (fun c89 => ?_) (fun c89 => ?_)
    · replace hf := g_it hf c89
      refine lv_iload hx hb dL_cuts_135 (lv_at hl 6 rfl) ?_
      refine lv_if_eq (tgt := 145) hx hb dL_cuts_137 (by decide) (fun c90 => absurd c90 (by decide)) (fun _ => ?_)
      refine lv_iload hx hb dL_cuts_140 (lv_at hl 7 rfl) ?_
      refine lv_if_ge (tgt := 158) hx hb dL_cuts_142 (by decide) (fun c91 => ?_) (fun c91 => ?_)
      · replace hf := g_it hf c91
        refine lv_aload_n hx hb dL_cuts_158 rfl (lv_at hl 10 rfl) ?_
        refine lv_bipush (v := 8) hx hb dL_cuts_159 (by decide) ?_
        obtain ⟨r92, hc93, hf⟩ := g_b1_e hf
        refine g_call (va_runV (As := [.int (8 : Int32)]) (rest := []) ⟨hx, hb, hml, hown, hts⟩ (c9_count l G E87 z84 _ _ hc93) (cwV 1 hts gL_cuts_X9_count rfl rfl rfl (by decide +kernel) ⟨Nat.le_of_ble_eq_true rfl, Nat.le_of_ble_eq_true rfl⟩) (g_preV (ci := 9) hR hK (hR.2.2.2.1) rfl) rfl rfl hl.1 rfl (lv_room (Nat.le_of_ble_eq_true rfl)) dL_cuts_161 ⟨by show _ ≤ 3; omega, by show _ ≤ 18; omega⟩) hS (fun w94 H locs hp hR hS => ?_)
        subst hp
        refine lv_iload hx hb dL_cuts_164 (lv_at hl 2 rfl) ?_
        refine lv_iload hx hb dL_cuts_166 (lv_at hl 5 rfl) ?_
        refine lv_iadd hx hb dL_cuts_168 ?_
        refine lv_icmp_ne (tgt := 183) hx hb dL_cuts_169 (by decide) (fun c95 => ?_) (fun c95 => ?_)
        · replace hf := g_it hf c95
          refine lv_iconst (v := 0) hx hb dL_cuts_183 (by decide) ?_
          obtain ⟨rfl, rfl⟩ := g_sp hf
          exact g_zret hx hb hlocks hr hS hR ((g_le.rf).tr hle88) (by decide) rfl (by omega) (by omega) dL_cuts_184
        · replace hf := g_if hf (fun q => q c95)
          refine lv_aload_n hx hb dL_cuts_172 rfl (lv_at hl 10 rfl) ?_
          refine lv_iload hx hb dL_cuts_173 (lv_at hl 8 rfl) ?_
          refine lv_iconst (v := 0) hx hb dL_cuts_175 (by decide) ?_
          obtain ⟨r96, hc97, hf⟩ := g_b1_e hf
          refine g_call (va_runV (As := [.int r10, .int (0 : Int32)]) (rest := []) ⟨hx, hb, hml, hown, hts⟩ (c9_sheet l G E87 z84 _ _ _ hc97) (cwV 2 hts gL_cuts_X9_sheet rfl rfl rfl (by decide +kernel) ⟨Nat.le_of_ble_eq_true rfl, Nat.le_of_ble_eq_true rfl⟩) (g_preV (ci := 9) hR hK (hR.2.2.2.1) rfl) rfl rfl hl.1 rfl (lv_room (Nat.le_of_ble_eq_true rfl)) dL_cuts_176 ⟨by show _ ≤ 3; omega, by show _ ≤ 18; omega⟩) hS (fun w98 H locs hp hR hS => ?_)
          subst hp
          refine lv_iconst (v := -1) hx hb dL_cuts_179 (by decide) ?_
          refine lv_icmp_eq (tgt := 185) hx hb dL_cuts_180 (by decide) (fun c99 => ?_) (fun c99 => ?_)
          · replace hf := g_it hf c99
            refine lv_iload hx hb dL_cuts_185 (lv_at hl 0 rfl) ?_
            refine lv_bipush (v := 10) hx hb dL_cuts_187 (by decide) ?_
            refine lv_icmp_ne (tgt := 216) hx hb dL_cuts_189 (by decide) (fun c100 => ?_) (fun c100 => ?_)
            · replace hf := g_it hf c100
              refine lv_iload hx hb dL_cuts_216 (lv_at hl 0 rfl) ?_
              refine lv_if_lt (tgt := 287) hx hb dL_cuts_218 (by decide) (fun c101 => ?_) (fun c101 => ?_)
              · replace hf := g_it hf c101
                refine lv_iconst (v := 0) hx hb dL_cuts_287 (by decide) ?_
                obtain ⟨rfl, rfl⟩ := g_sp hf
                exact g_zret hx hb hlocks hr hS hR ((g_le.rf).tr hle88) (by decide) rfl (by omega) (by omega) dL_cuts_288
              · replace hf := g_if hf c101
                refine lv_iload hx hb dL_cuts_221 (lv_at hl 0 rfl) ?_
                refine lv_iconst (v := 2) hx hb dL_cuts_223 (by decide) ?_
                refine lv_icmp_gt (tgt := 287) hx hb dL_cuts_224 (by decide) (fun c102 => ?_) (fun c102 => ?_)
                · replace hf := g_it hf c102
                  refine lv_iconst (v := 0) hx hb dL_cuts_287 (by decide) ?_
                  obtain ⟨rfl, rfl⟩ := g_sp hf
                  exact g_zret hx hb hlocks hr hS hR ((g_le.rf).tr hle88) (by decide) rfl (by omega) (by omega) dL_cuts_288
                · replace hf := g_if hf c102
                  refine lv_aload_n hx hb dL_cuts_227 rfl (lv_at hl 10 rfl) ?_
                  refine lv_iload_n hx hb dL_cuts_228 rfl (lv_at hl 9 rfl) ?_
                  refine lv_iconst (v := 5) hx hb dL_cuts_229 (by decide) ?_
                  obtain ⟨r103, hc104, hf⟩ := g_b1_e hf
                  refine g_call (va_runV (As := [.int r4, .int (5 : Int32)]) (rest := []) ⟨hx, hb, hml, hown, hts⟩ (c9_ordered l G E87 z84 _ _ _ hc104) (cwV 2 hts gL_cuts_X9_ordered rfl rfl rfl (by decide +kernel) ⟨Nat.le_of_ble_eq_true rfl, Nat.le_of_ble_eq_true rfl⟩) (g_preV (ci := 9) hR hK (hR.2.2.2.1) rfl) rfl rfl hl.1 rfl (lv_room (Nat.le_of_ble_eq_true rfl)) dL_cuts_230 ⟨by show _ ≤ 3; omega, by show _ ≤ 18; omega⟩) hS (fun w105 H locs hp hR hS => ?_)
                  subst hp
                  refine lv_iload hx hb dL_cuts_233 (lv_at hl 8 rfl) ?_
                  refine lv_icmp_ne (tgt := 287) hx hb dL_cuts_235 (by decide) (fun c106 => ?_) (fun c106 => ?_)
                  · replace hf := g_it hf c106
                    refine lv_iconst (v := 0) hx hb dL_cuts_287 (by decide) ?_
                    obtain ⟨rfl, rfl⟩ := g_sp hf
                    exact g_zret hx hb hlocks hr hS hR ((g_le.rf).tr hle88) (by decide) rfl (by omega) (by omega) dL_cuts_288
                  · replace hf := g_if hf (fun q => q c106)
                    refine lv_aload_n hx hb dL_cuts_238 rfl (lv_at hl 10 rfl) ?_
                    refine lv_bipush (v := 7) hx hb dL_cuts_239 (by decide) ?_
                    obtain ⟨r107, hc108, hf⟩ := g_b1_e hf
                    refine g_call (va_runV (As := [.int (7 : Int32)]) (rest := []) ⟨hx, hb, hml, hown, hts⟩ (c9_count l G E87 z84 _ _ hc108) (cwV 1 hts gL_cuts_X9_count rfl rfl rfl (by decide +kernel) ⟨Nat.le_of_ble_eq_true rfl, Nat.le_of_ble_eq_true rfl⟩) (g_preV (ci := 9) hR hK (hR.2.2.2.1) rfl) rfl rfl hl.1 rfl (lv_room (Nat.le_of_ble_eq_true rfl)) dL_cuts_241 ⟨by show _ ≤ 3; omega, by show _ ≤ 18; omega⟩) hS (fun w109 H locs hp hR hS => ?_)
                    subst hp
                    refine lv_iload hx hb dL_cuts_244 (lv_at hl 3 rfl) ?_
                    refine lv_icmp_ne (tgt := 287) hx hb dL_cuts_246 (by decide) (fun c110 => ?_) (fun c110 => ?_)
                    · replace hf := g_it hf c110
                      refine lv_iconst (v := 0) hx hb dL_cuts_287 (by decide) ?_
                      obtain ⟨rfl, rfl⟩ := g_sp hf
                      exact g_zret hx hb hlocks hr hS hR ((g_le.rf).tr hle88) (by decide) rfl (by omega) (by omega) dL_cuts_288
                    · replace hf := g_if hf (fun q => q c110)
                      refine lv_aload_n hx hb dL_cuts_249 rfl (lv_at hl 10 rfl) ?_
                      refine lv_iconst (v := 5) hx hb dL_cuts_250 (by decide) ?_
                      obtain ⟨r111, hc112, hf⟩ := g_b1_e hf
                      refine g_call (va_runV (As := [.int (5 : Int32)]) (rest := []) ⟨hx, hb, hml, hown, hts⟩ (c9_count l G E87 z84 _ _ hc112) (cwV 1 hts gL_cuts_X9_count rfl rfl rfl (by decide +kernel) ⟨Nat.le_of_ble_eq_true rfl, Nat.le_of_ble_eq_true rfl⟩) (g_preV (ci := 9) hR hK (hR.2.2.2.1) rfl) rfl rfl hl.1 rfl (lv_room (Nat.le_of_ble_eq_true rfl)) dL_cuts_251 ⟨by show _ ≤ 3; omega, by show _ ≤ 18; omega⟩) hS (fun w113 H locs hp hR hS => ?_)
                      subst hp
                      refine lv_iload hx hb dL_cuts_254 (lv_at hl 4 rfl) ?_
                      refine lv_icmp_lt (tgt := 287) hx hb dL_cuts_256 (by decide) (fun c114 => ?_) (fun c114 => ?_)
                      · replace hf := g_it hf c114
                        refine lv_iconst (v := 0) hx hb dL_cuts_287 (by decide) ?_
                        obtain ⟨rfl, rfl⟩ := g_sp hf
                        exact g_zret hx hb hlocks hr hS hR ((g_le.rf).tr hle88) (by decide) rfl (by omega) (by omega) dL_cuts_288
                      · replace hf := g_if hf c114
                        refine lv_aload_n hx hb dL_cuts_259 rfl (lv_at hl 10 rfl) ?_
                        refine lv_bipush (v := 23) hx hb dL_cuts_260 (by decide) ?_
                        obtain ⟨r115, hc116, hf⟩ := g_b1_e hf
                        refine g_call (va_runV (As := [.int (23 : Int32)]) (rest := []) ⟨hx, hb, hml, hown, hts⟩ (c9_count l G E87 z84 _ _ hc116) (cwV 1 hts gL_cuts_X9_count rfl rfl rfl (by decide +kernel) ⟨Nat.le_of_ble_eq_true rfl, Nat.le_of_ble_eq_true rfl⟩) (g_preV (ci := 9) hR hK (hR.2.2.2.1) rfl) rfl rfl hl.1 rfl (lv_room (Nat.le_of_ble_eq_true rfl)) dL_cuts_262 ⟨by show _ ≤ 3; omega, by show _ ≤ 18; omega⟩) hS (fun w117 H locs hp hR hS => ?_)
                        subst hp
                        refine lv_if_gt (tgt := 283) hx hb dL_cuts_265 (by decide) (fun c118 => ?_) (fun c118 => ?_)
                        · replace hf := g_it hf c118
                          refine lv_iconst (v := 1) hx hb dL_cuts_283 (by decide) ?_
                          refine lv_goto (tgt := 288) hx hb dL_cuts_284 (by decide) ?_
                          obtain ⟨rfl, rfl⟩ := g_sp hf
                          exact g_zret hx hb hlocks hr hS hR ((g_le.rf).tr hle88) (by decide) rfl (by omega) (by omega) dL_cuts_288
                        · replace hf := g_if hf c118
                          refine lv_aload_n hx hb dL_cuts_268 rfl (lv_at hl 10 rfl) ?_
                          refine lv_iconst (v := 1) hx hb dL_cuts_269 (by decide) ?_
                          obtain ⟨r119, hc120, hf⟩ := g_b1_e hf
                          refine g_call (va_runV (As := [.int (1 : Int32)]) (rest := []) ⟨hx, hb, hml, hown, hts⟩ (c9_count l G E87 z84 _ _ hc120) (cwV 1 hts gL_cuts_X9_count rfl rfl rfl (by decide +kernel) ⟨Nat.le_of_ble_eq_true rfl, Nat.le_of_ble_eq_true rfl⟩) (g_preV (ci := 9) hR hK (hR.2.2.2.1) rfl) rfl rfl hl.1 rfl (lv_room (Nat.le_of_ble_eq_true rfl)) dL_cuts_270 ⟨by show _ ≤ 3; omega, by show _ ≤ 18; omega⟩) hS (fun w121 H locs hp hR hS => ?_)
                          subst hp
                          refine lv_iload hx hb dL_cuts_273 (lv_at hl 1 rfl) ?_
                          refine lv_iconst (v := 1) hx hb dL_cuts_275 (by decide) ?_
                          refine lv_isub hx hb dL_cuts_276 ?_
                          refine lv_iload hx hb dL_cuts_277 (lv_at hl 0 rfl) ?_
                          refine lv_iadd hx hb dL_cuts_279 ?_
                          refine lv_icmp_ne (tgt := 287) hx hb dL_cuts_280 (by decide) (fun c122 => ?_) (fun c122 => ?_)
                          · replace hf := g_it hf c122
                            refine lv_iconst (v := 0) hx hb dL_cuts_287 (by decide) ?_
                            obtain ⟨rfl, rfl⟩ := g_sp hf
                            exact g_zret hx hb hlocks hr hS hR ((g_le.rf).tr hle88) (by decide) rfl (by omega) (by omega) dL_cuts_288
                          · replace hf := g_if hf (fun q => q c122)
                            refine lv_iconst (v := 1) hx hb dL_cuts_283 (by decide) ?_
                            refine lv_goto (tgt := 288) hx hb dL_cuts_284 (by decide) ?_
                            obtain ⟨rfl, rfl⟩ := g_sp hf
                            exact g_zret hx hb hlocks hr hS hR ((g_le.rf).tr hle88) (by decide) rfl (by omega) (by omega) dL_cuts_288
            · replace hf := g_if hf (fun q => q c100)
              refine lv_aload_n hx hb dL_cuts_192 rfl (lv_at hl 10 rfl) ?_
              refine lv_bipush (v := 23) hx hb dL_cuts_193 (by decide) ?_
              obtain ⟨r123, hc124, hf⟩ := g_b1_e hf
              refine g_call (va_runV (As := [.int (23 : Int32)]) (rest := []) ⟨hx, hb, hml, hown, hts⟩ (c9_count l G E87 z84 _ _ hc124) (cwV 1 hts gL_cuts_X9_count rfl rfl rfl (by decide +kernel) ⟨Nat.le_of_ble_eq_true rfl, Nat.le_of_ble_eq_true rfl⟩) (g_preV (ci := 9) hR hK (hR.2.2.2.1) rfl) rfl rfl hl.1 rfl (lv_room (Nat.le_of_ble_eq_true rfl)) dL_cuts_195 ⟨by show _ ≤ 3; omega, by show _ ≤ 18; omega⟩) hS (fun w125 H locs hp hR hS => ?_)
              subst hp
              refine lv_if_le (tgt := 214) hx hb dL_cuts_198 (by decide) (fun c126 => ?_) (fun c126 => ?_)
              · replace hf := g_it hf c126
                refine lv_iconst (v := 0) hx hb dL_cuts_214 (by decide) ?_
                obtain ⟨rfl, rfl⟩ := g_sp hf
                exact g_zret hx hb hlocks hr hS hR ((g_le.rf).tr hle88) (by decide) rfl (by omega) (by omega) dL_cuts_215
              · replace hf := g_if hf c126
                refine lv_aload_n hx hb dL_cuts_201 rfl (lv_at hl 10 rfl) ?_
                refine lv_iload_n hx hb dL_cuts_202 rfl (lv_at hl 9 rfl) ?_
                refine lv_iconst (v := 4) hx hb dL_cuts_203 (by decide) ?_
                obtain ⟨r127, hc128, hf⟩ := g_b1_e hf
                refine g_call (va_runV (As := [.int r4, .int (4 : Int32)]) (rest := []) ⟨hx, hb, hml, hown, hts⟩ (c9_ordered l G E87 z84 _ _ _ hc128) (cwV 2 hts gL_cuts_X9_ordered rfl rfl rfl (by decide +kernel) ⟨Nat.le_of_ble_eq_true rfl, Nat.le_of_ble_eq_true rfl⟩) (g_preV (ci := 9) hR hK (hR.2.2.2.1) rfl) rfl rfl hl.1 rfl (lv_room (Nat.le_of_ble_eq_true rfl)) dL_cuts_204 ⟨by show _ ≤ 3; omega, by show _ ≤ 18; omega⟩) hS (fun w129 H locs hp hR hS => ?_)
                subst hp
                refine lv_if_ne (tgt := 214) hx hb dL_cuts_207 (by decide) (fun c130 => ?_) (fun c130 => ?_)
                · replace hf := g_it hf c130
                  refine lv_iconst (v := 0) hx hb dL_cuts_214 (by decide) ?_
                  obtain ⟨rfl, rfl⟩ := g_sp hf
                  exact g_zret hx hb hlocks hr hS hR ((g_le.rf).tr hle88) (by decide) rfl (by omega) (by omega) dL_cuts_215
                · replace hf := g_if hf (fun q => q c130)
                  refine lv_iconst (v := 1) hx hb dL_cuts_210 (by decide) ?_
                  refine lv_goto (tgt := 215) hx hb dL_cuts_211 (by decide) ?_
                  obtain ⟨rfl, rfl⟩ := g_sp hf
                  exact g_zret hx hb hlocks hr hS hR ((g_le.rf).tr hle88) (by decide) rfl (by omega) (by omega) dL_cuts_215
          · replace hf := g_if hf c99
            refine lv_iconst (v := 0) hx hb dL_cuts_183 (by decide) ?_
            obtain ⟨rfl, rfl⟩ := g_sp hf
            exact g_zret hx hb hlocks hr hS hR ((g_le.rf).tr hle88) (by decide) rfl (by omega) (by omega) dL_cuts_184
      · replace hf := g_if hf c91
        refine lv_iload hx hb dL_cuts_145 (lv_at hl 0 rfl) ?_
        refine lv_bipush (v := -4) hx hb dL_cuts_147 (by decide) ?_
        refine lv_icmp_ne (tgt := 156) hx hb dL_cuts_149 (by decide) (fun c131 => ?_) (fun c131 => ?_)
        · replace hf := g_it hf c131
          refine lv_iconst (v := 0) hx hb dL_cuts_156 (by decide) ?_
          obtain ⟨rfl, rfl⟩ := g_sp hf
          exact g_zret hx hb hlocks hr hS hR ((g_le.rf).tr hle88) (by decide) rfl (by omega) (by omega) dL_cuts_157
        · replace hf := g_if hf (fun q => q c131)
          refine lv_iconst (v := 1) hx hb dL_cuts_152 (by decide) ?_
          refine lv_goto (tgt := 157) hx hb dL_cuts_153 (by decide) ?_
          obtain ⟨rfl, rfl⟩ := g_sp hf
          exact g_zret hx hb hlocks hr hS hR ((g_le.rf).tr hle88) (by decide) rfl (by omega) (by omega) dL_cuts_157
    · replace hf := g_if hf (fun q => q c89)
      refine lv_iload hx hb dL_cuts_123 (lv_at hl 0 rfl) ?_
      refine lv_iconst (v := -1) hx hb dL_cuts_125 (by decide) ?_
      refine lv_icmp_ne (tgt := 133) hx hb dL_cuts_126 (by decide) (fun c132 => ?_) (fun c132 => ?_)
      · replace hf := g_it hf c132
        refine lv_iconst (v := 0) hx hb dL_cuts_133 (by decide) ?_
        obtain ⟨rfl, rfl⟩ := g_sp hf
        exact g_zret hx hb hlocks hr hS hR ((g_le.rf).tr hle88) (by decide) rfl (by omega) (by omega) dL_cuts_134
      · replace hf := g_if hf (fun q => q c132)
        refine lv_iconst (v := 1) hx hb dL_cuts_129 (by decide) ?_
        refine lv_goto (tgt := 134) hx hb dL_cuts_130 (by decide) ?_
        obtain ⟨rfl, rfl⟩ := g_sp hf
        exact g_zret hx hb hlocks hr hS hR ((g_le.rf).tr hle88) (by decide) rfl (by omega) (by omega) dL_cuts_134
set_option maxHeartbeats 4000000 in
set_option maxRecDepth 100000 in
theorem mL_digest (l : Launch) (G : gG) (E : gEn) (μ : gMu)  (ro : Int64) (hf : fL_digest μ = some ro) : Met l yL_digest wsL_digest ({ frames := 3, cells := 0, slots := 0, locals := 69 } : Room) (g_Pre G E μ [.ref G.2.2]) (g_Q G E μ (fun E' v => E' = E ∧ v = some (.long ro))) 0 0 (g_A G) := by
  refine Met.ofW (cc := cL_digest) (maxL := 6) (ret := some .long) (by decide) rfl ?_
  intro p e s m args below meth c s₁ B hml hv
  obtain ⟨rfl, hR, hK⟩ := hv
  have hx := B.exec
  have hb := B.bytes
  have hr := B.returns
  have hts := atoms_spec (ws := wsL_digest) B.pre
  have hown : s.vm.findClass RL = some m.cls := findClass_of_methodNamed B.named
  have hlocks := B.notSynchronized
  have hS : va_S (g_A G) s.heap s.heap [] := va_S.rf
  have hl := lv_entry ([.ref G.2.2]) (n := 6) (Nat.le_of_ble_eq_true rfl)
  rw [lg_entry_eq]
  generalize (lg_sl ([.ref G.2.2]) ++ List.replicate (6 - (lg_sl ([.ref G.2.2])).length) Slot.unset).toArray = ls at hl ⊢
  have hl : lv_has ls 6 [(0, .ref G.2.2)] := hl
  have ld_11 := hts (.constantLong RL 11 (31)) (by decide +kernel)
  have ld_23 := hts (.constantLong RL 23 (7)) (by decide +kernel)
  have ld_28 := hts (.constantLong RL 28 (49)) (by decide +kernel)
  have ld_30 := hts (.constantLong RL 30 (343)) (by decide +kernel)
  have ld_32 := hts (.constantLong RL 32 (2401)) (by decide +kernel)
  have ld_9 := hts (.constantLong RL 9 (83)) (by decide +kernel)
  have hB177 : ∀ (K : gMu → Int64 → Int32 → Option (Int64)) (n : Nat) (x1 : Int64) (x3 : Int32) (x4 : Int32) (H : Heap) (locs : List Loc) (ls : Array Slot), fL_digest_177 K n μ x1 x3 x4 = some ro → g_R G E μ H → va_S (g_A G) s.heap H locs → lv_has ls 6 [(0, .ref G.2.2), (1, .long x1), (3, .int x3), (4, .int x4)] → (∀ (x1 : Int64) (x3 : Int32) (H : Heap) (locs : List Loc) (ls : Array Slot), K μ x1 x3 = some ro → g_R G E μ H → va_S (g_A G) s.heap H locs → lv_has ls 6 [(0, .ref G.2.2), (1, .long x1), (3, .int x3)] → W p l e (headSpec wsL_digest ({ frames := 3, cells := 0, slots := 0, locals := 69 } : Room)).room s m ([.ref G.2.2] : List Value).toArray below meth c H locs 0 0 (MQ below (g_Q G E μ (fun E' v => E' = E ∧ v = some (.long ro))) ([.ref G.2.2] : List Value).toArray s 0 0 (g_A G)) (F0 m 205 ls [])) → W p l e (headSpec wsL_digest ({ frames := 3, cells := 0, slots := 0, locals := 69 } : Room)).room s m ([.ref G.2.2] : List Value).toArray below meth c H locs 0 0 (MQ below (g_Q G E μ (fun E' v => E' = E ∧ v = some (.long ro))) ([.ref G.2.2] : List Value).toArray s 0 0 (g_A G)) (F0 m 177 ls []) := by
    intro K n
    induction n with
    | zero =>
      intro x1 x3 x4 H locs ls hf
      rw [fL_digest_177] at hf
      cases hf
    | succ n ih =>
      intro x1 x3 x4 H locs ls hf  hR hS hl hKc
      rw [fL_digest_177] at hf
      refine lv_iload hx hb dL_digest_177 (lv_at hl 3 rfl) ?_
      refine lv_bipush (v := 8) hx hb dL_digest_179 (by decide) ?_
      refine lv_icmp_ge (tgt := 205) hx hb dL_digest_181 (by decide) (fun c9 => ?_) (fun c9 => ?_)
      · replace hf := g_it hf c9
        exact hKc _ _ _ _ _ hf hR hS (lv_sub hl [0, 1, 2] rfl)
      · replace hf := g_if hf c9
        refine lv_ldc2 hx hb hown ld_11 dL_digest_184 ?_
        refine lv_lload_n hx hb dL_digest_187 rfl (lv_at hl 1 rfl) ?_
        refine lv_lmul hx hb dL_digest_188 ?_
        refine lv_aload_n hx hb dL_digest_189 rfl (lv_at hl 0 rfl) ?_
        refine lv_iload_n hx hb dL_digest_190 rfl (lv_at hl 2 rfl) ?_
        refine lv_iload hx hb dL_digest_191 (lv_at hl 3 rfl) ?_
        obtain ⟨r10, hc11, hf⟩ := g_b1_e hf
        refine g_call (va_runV (As := [.int x3, .int x4]) (rest := [.long ((31 : Int64) * x1)]) ⟨hx, hb, hml, hown, hts⟩ (c9_ordered l G E μ _ _ _ hc11) (cwV 2 hts gL_digest_X9_ordered rfl rfl rfl (by decide +kernel) ⟨Nat.le_of_ble_eq_true rfl, Nat.le_of_ble_eq_true rfl⟩) (g_preV (ci := 9) hR hK (hR.2.2.2.1) rfl) rfl rfl hl.1 rfl (lv_room (Nat.le_of_ble_eq_true rfl)) dL_digest_193 ⟨by show _ ≤ 0; omega, by show _ ≤ 0; omega⟩) hS (fun w12 H locs hp hR hS => ?_)
        subst hp
        refine lv_i2l hx hb dL_digest_196 rfl ?_
        refine lv_ladd hx hb dL_digest_197 ?_
        refine lv_topl (fun t13 et13 => ?_)
        replace hf := g_let_at hf et13
        refine lv_lstore_n (lv' := [(1, .long t13), (0, .ref G.2.2), (3, .int x3), (4, .int x4)]) hx hb dL_digest_198 rfl hl (by decide) rfl (fun ls hl => ?_)
        refine lv_iinc (v := x4 + 1) (lv' := [(4, .int (x4 + 1)), (1, .long t13), (0, .ref G.2.2), (3, .int x3)]) hx hb dL_digest_199 hl (k := 3) rfl rfl (by decide) rfl (fun ls hl => ?_)
        refine lv_goto (tgt := 177) hx hb dL_digest_202 (by decide) ?_
        exact ih _ _ _ _ _ _ hf  hR hS (lv_sub hl [2, 1, 3, 0] rfl) hKc
  have hB164 : ∀ (n : Nat) (x1 : Int64) (x3 : Int32) (H : Heap) (locs : List Loc) (ls : Array Slot), fL_digest_164 n μ x1 x3 = some ro → g_R G E μ H → va_S (g_A G) s.heap H locs → lv_has ls 6 [(0, .ref G.2.2), (1, .long x1), (3, .int x3)] → W p l e (headSpec wsL_digest ({ frames := 3, cells := 0, slots := 0, locals := 69 } : Room)).room s m ([.ref G.2.2] : List Value).toArray below meth c H locs 0 0 (MQ below (g_Q G E μ (fun E' v => E' = E ∧ v = some (.long ro))) ([.ref G.2.2] : List Value).toArray s 0 0 (g_A G)) (F0 m 164 ls []) := by
    intro n
    induction n with
    | zero =>
      intro x1 x3 H locs ls hf
      rw [fL_digest_164] at hf
      cases hf
    | succ n ih =>
      intro x1 x3 H locs ls hf  hR hS hl
      rw [fL_digest_164] at hf
      refine lv_iload_n hx hb dL_digest_164 rfl (lv_at hl 2 rfl) ?_
      refine lv_aload_n hx hb dL_digest_165 rfl (lv_at hl 0 rfl) ?_
      refine lv_bipush (v := 9) hx hb dL_digest_166 (by decide) ?_
      obtain ⟨r5, hc6, hf⟩ := g_b1_e hf
      refine g_call (va_runV (As := [.int (9 : Int32)]) (rest := [.int x3]) ⟨hx, hb, hml, hown, hts⟩ (c9_count l G E μ _ _ hc6) (cwV 1 hts gL_digest_X9_count rfl rfl rfl (by decide +kernel) ⟨Nat.le_of_ble_eq_true rfl, Nat.le_of_ble_eq_true rfl⟩) (g_preV (ci := 9) hR hK (hR.2.2.2.1) rfl) rfl rfl hl.1 rfl (lv_room (Nat.le_of_ble_eq_true rfl)) dL_digest_168 ⟨by show _ ≤ 0; omega, by show _ ≤ 0; omega⟩) hS (fun w7 H locs hp hR hS => ?_)
      subst hp
      refine lv_icmp_ge (tgt := 211) hx hb dL_digest_171 (by decide) (fun c8 => ?_) (fun c8 => ?_)
      · replace hf := g_it hf c8
        refine lv_lload_n hx hb dL_digest_211 rfl (lv_at hl 1 rfl) ?_
        obtain rfl := g_s1 hf
        exact g_lret hx hb hlocks hr hS hR g_le.rf ⟨rfl, rfl⟩ (by omega) (by omega) dL_digest_212
      · replace hf := g_if hf c8
        refine lv_iconst (v := 0) hx hb dL_digest_174 (by decide) ?_
        refine lv_istore (lv' := [(4, .int (0 : Int32)), (0, .ref G.2.2), (1, .long x1), (3, .int x3)]) hx hb dL_digest_175 hl (by decide) rfl (fun ls hl => ?_)
        exact hB177 _ 70 _ _ _ _ _ _ hf  hR hS (lv_sub hl [1, 2, 3, 0] rfl) (fun  k15 k16 H locs ls hf hR hS hl => by
          refine lv_iinc (v := k16 + 1) (lv' := [(3, .int (k16 + 1)), (0, .ref G.2.2), (1, .long k15)]) hx hb dL_digest_205 hl (k := 2) rfl rfl (by decide) rfl (fun ls hl => ?_)
          refine lv_goto (tgt := 164) hx hb dL_digest_208 (by decide) ?_
          exact ih _ _ _ _ _ hf  hR hS (lv_sub hl [1, 2, 0] rfl))
  have hB69 : ∀ (K : gMu → Int64 → Int32 → Option (Int64)) (n : Nat) (x1 : Int64) (x3 : Int32) (x4 : Int32) (H : Heap) (locs : List Loc) (ls : Array Slot), fL_digest_69 K n μ x1 x3 x4 = some ro → g_R G E μ H → va_S (g_A G) s.heap H locs → lv_has ls 6 [(0, .ref G.2.2), (1, .long x1), (3, .int x3), (4, .int x4)] → (∀ (x1 : Int64) (x3 : Int32) (H : Heap) (locs : List Loc) (ls : Array Slot), K μ x1 x3 = some ro → g_R G E μ H → va_S (g_A G) s.heap H locs → lv_has ls 6 [(0, .ref G.2.2), (1, .long x1), (3, .int x3)] → W p l e (headSpec wsL_digest ({ frames := 3, cells := 0, slots := 0, locals := 69 } : Room)).room s m ([.ref G.2.2] : List Value).toArray below meth c H locs 0 0 (MQ below (g_Q G E μ (fun E' v => E' = E ∧ v = some (.long ro))) ([.ref G.2.2] : List Value).toArray s 0 0 (g_A G)) (F0 m 156 ls [])) → W p l e (headSpec wsL_digest ({ frames := 3, cells := 0, slots := 0, locals := 69 } : Room)).room s m ([.ref G.2.2] : List Value).toArray below meth c H locs 0 0 (MQ below (g_Q G E μ (fun E' v => E' = E ∧ v = some (.long ro))) ([.ref G.2.2] : List Value).toArray s 0 0 (g_A G)) (F0 m 69 ls []) := by
    intro K n
    induction n with
    | zero =>
      intro x1 x3 x4 H locs ls hf
      rw [fL_digest_69] at hf
      cases hf
    | succ n ih =>
      intro x1 x3 x4 H locs ls hf  hR hS hl hKc
      rw [fL_digest_69] at hf
      refine lv_aload_n hx hb dL_digest_69 rfl (lv_at hl 0 rfl) ?_
      refine lv_iload_n hx hb dL_digest_70 rfl (lv_at hl 2 rfl) ?_
      refine lv_iload hx hb dL_digest_71 (lv_at hl 3 rfl) ?_
      obtain ⟨r17, hc18, hf⟩ := g_b1_e hf
      refine g_call (va_runV (As := [.int x3, .int x4]) (rest := []) ⟨hx, hb, hml, hown, hts⟩ (c9_at l G E μ _ _ _ hc18) (cwV 2 hts gL_digest_X9_at rfl rfl rfl (by decide +kernel) ⟨Nat.le_of_ble_eq_true rfl, Nat.le_of_ble_eq_true rfl⟩) (g_preV (ci := 9) hR hK (hR.2.2.2.1) rfl) rfl rfl hl.1 rfl (lv_room (Nat.le_of_ble_eq_true rfl)) dL_digest_73 ⟨by show _ ≤ 0; omega, by show _ ≤ 0; omega⟩) hS (fun w19 H locs hp hR hS => ?_)
      subst hp
      refine lv_if_lt (tgt := 156) hx hb dL_digest_76 (by decide) (fun c20 => ?_) (fun c20 => ?_)
      · replace hf := g_it hf c20
        exact hKc _ _ _ _ _ hf hR hS (lv_sub hl [0, 1, 2] rfl)
      · replace hf := g_if hf c20
        refine lv_aload_n hx hb dL_digest_79 rfl (lv_at hl 0 rfl) ?_
        refine lv_iload_n hx hb dL_digest_80 rfl (lv_at hl 2 rfl) ?_
        refine lv_iload hx hb dL_digest_81 (lv_at hl 3 rfl) ?_
        obtain ⟨r21, hc22, hf⟩ := g_b1_e hf
        refine g_call (va_runV (As := [.int x3, .int x4]) (rest := []) ⟨hx, hb, hml, hown, hts⟩ (c9_at l G E μ _ _ _ hc22) (cwV 2 hts gL_digest_X9_at rfl rfl rfl (by decide +kernel) ⟨Nat.le_of_ble_eq_true rfl, Nat.le_of_ble_eq_true rfl⟩) (g_preV (ci := 9) hR hK (hR.2.2.2.1) rfl) rfl rfl hl.1 rfl (lv_room (Nat.le_of_ble_eq_true rfl)) dL_digest_83 ⟨by show _ ≤ 0; omega, by show _ ≤ 0; omega⟩) hS (fun w23 H locs hp hR hS => ?_)
        subst hp
        refine lv_istore (lv' := [(5, .int r21), (0, .ref G.2.2), (1, .long x1), (3, .int x3), (4, .int x4)]) hx hb dL_digest_86 hl (by decide) rfl (fun ls hl => ?_)
        refine lv_ldc2 hx hb hown ld_11 dL_digest_88 ?_
        refine lv_lload_n hx hb dL_digest_91 rfl (lv_at hl 2 rfl) ?_
        refine lv_lmul hx hb dL_digest_92 ?_
        refine lv_iload hx hb dL_digest_93 (lv_at hl 0 rfl) ?_
        refine lv_i2l hx hb dL_digest_95 rfl ?_
        refine lv_ladd hx hb dL_digest_96 ?_
        refine lv_ldc2 hx hb hown ld_23 dL_digest_97 ?_
        refine lv_aload_n hx hb dL_digest_100 rfl (lv_at hl 1 rfl) ?_
        refine lv_iload hx hb dL_digest_101 (lv_at hl 0 rfl) ?_
        refine lv_iconst (v := 0) hx hb dL_digest_103 (by decide) ?_
        obtain ⟨r24, hc25, hf⟩ := g_b1_e hf
        refine g_call (va_runV (As := [.int r21, .int (0 : Int32)]) (rest := [.long (7 : Int64), .long (((31 : Int64) * x1) + r21.toInt64)]) ⟨hx, hb, hml, hown, hts⟩ (c9_sheet l G E μ _ _ _ hc25) (cwV 2 hts gL_digest_X9_sheet rfl rfl rfl (by decide +kernel) ⟨Nat.le_of_ble_eq_true rfl, Nat.le_of_ble_eq_true rfl⟩) (g_preV (ci := 9) hR hK (hR.2.2.2.1) rfl) rfl rfl hl.1 rfl (lv_room (Nat.le_of_ble_eq_true rfl)) dL_digest_104 ⟨by show _ ≤ 0; omega, by show _ ≤ 0; omega⟩) hS (fun w26 H locs hp hR hS => ?_)
        subst hp
        refine lv_i2l hx hb dL_digest_107 rfl ?_
        refine lv_lmul hx hb dL_digest_108 ?_
        refine lv_ladd hx hb dL_digest_109 ?_
        refine lv_ldc2 hx hb hown ld_28 dL_digest_110 ?_
        refine lv_aload_n hx hb dL_digest_113 rfl (lv_at hl 1 rfl) ?_
        refine lv_iload hx hb dL_digest_114 (lv_at hl 0 rfl) ?_
        refine lv_iconst (v := 1) hx hb dL_digest_116 (by decide) ?_
        obtain ⟨r27, hc28, hf⟩ := g_b1_e hf
        refine g_call (va_runV (As := [.int r21, .int (1 : Int32)]) (rest := [.long (49 : Int64), .long ((((31 : Int64) * x1) + r21.toInt64) + ((7 : Int64) * r24.toInt64))]) ⟨hx, hb, hml, hown, hts⟩ (c9_sheet l G E μ _ _ _ hc28) (cwV 2 hts gL_digest_X9_sheet rfl rfl rfl (by decide +kernel) ⟨Nat.le_of_ble_eq_true rfl, Nat.le_of_ble_eq_true rfl⟩) (g_preV (ci := 9) hR hK (hR.2.2.2.1) rfl) rfl rfl hl.1 rfl (lv_room (Nat.le_of_ble_eq_true rfl)) dL_digest_117 ⟨by show _ ≤ 0; omega, by show _ ≤ 0; omega⟩) hS (fun w29 H locs hp hR hS => ?_)
        subst hp
        refine lv_i2l hx hb dL_digest_120 rfl ?_
        refine lv_lmul hx hb dL_digest_121 ?_
        refine lv_ladd hx hb dL_digest_122 ?_
        refine lv_ldc2 hx hb hown ld_30 dL_digest_123 ?_
        refine lv_aload_n hx hb dL_digest_126 rfl (lv_at hl 1 rfl) ?_
        refine lv_iload hx hb dL_digest_127 (lv_at hl 0 rfl) ?_
        refine lv_iconst (v := 2) hx hb dL_digest_129 (by decide) ?_
        obtain ⟨r30, hc31, hf⟩ := g_b1_e hf
        refine g_call (va_runV (As := [.int r21, .int (2 : Int32)]) (rest := [.long (343 : Int64), .long (((((31 : Int64) * x1) + r21.toInt64) + ((7 : Int64) * r24.toInt64)) + ((49 : Int64) * r27.toInt64))]) ⟨hx, hb, hml, hown, hts⟩ (c9_sheet l G E μ _ _ _ hc31) (cwV 2 hts gL_digest_X9_sheet rfl rfl rfl (by decide +kernel) ⟨Nat.le_of_ble_eq_true rfl, Nat.le_of_ble_eq_true rfl⟩) (g_preV (ci := 9) hR hK (hR.2.2.2.1) rfl) rfl rfl hl.1 rfl (lv_room (Nat.le_of_ble_eq_true rfl)) dL_digest_130 ⟨by show _ ≤ 0; omega, by show _ ≤ 0; omega⟩) hS (fun w32 H locs hp hR hS => ?_)
        subst hp
        refine lv_i2l hx hb dL_digest_133 rfl ?_
        refine lv_lmul hx hb dL_digest_134 ?_
        refine lv_ladd hx hb dL_digest_135 ?_
        refine lv_ldc2 hx hb hown ld_32 dL_digest_136 ?_
        refine lv_aload_n hx hb dL_digest_139 rfl (lv_at hl 1 rfl) ?_
        refine lv_iload hx hb dL_digest_140 (lv_at hl 0 rfl) ?_
        refine lv_iconst (v := 5) hx hb dL_digest_142 (by decide) ?_
        obtain ⟨r33, hc34, hf⟩ := g_b1_e hf
        refine g_call (va_runV (As := [.int r21, .int (5 : Int32)]) (rest := [.long (2401 : Int64), .long ((((((31 : Int64) * x1) + r21.toInt64) + ((7 : Int64) * r24.toInt64)) + ((49 : Int64) * r27.toInt64)) + ((343 : Int64) * r30.toInt64))]) ⟨hx, hb, hml, hown, hts⟩ (c9_sheet l G E μ _ _ _ hc34) (cwV 2 hts gL_digest_X9_sheet rfl rfl rfl (by decide +kernel) ⟨Nat.le_of_ble_eq_true rfl, Nat.le_of_ble_eq_true rfl⟩) (g_preV (ci := 9) hR hK (hR.2.2.2.1) rfl) rfl rfl hl.1 rfl (lv_room (Nat.le_of_ble_eq_true rfl)) dL_digest_143 ⟨by show _ ≤ 0; omega, by show _ ≤ 0; omega⟩) hS (fun w35 H locs hp hR hS => ?_)
        subst hp
        refine lv_i2l hx hb dL_digest_146 rfl ?_
        refine lv_lmul hx hb dL_digest_147 ?_
        refine lv_ladd hx hb dL_digest_148 ?_
        refine lv_topl (fun t36 et36 => ?_)
        replace hf := g_let_at hf et36
        refine lv_lstore_n (lv' := [(1, .long t36), (5, .int r21), (0, .ref G.2.2), (3, .int x3), (4, .int x4)]) hx hb dL_digest_149 rfl hl (by decide) rfl (fun ls hl => ?_)
        refine lv_iinc (v := x4 + 1) (lv' := [(4, .int (x4 + 1)), (1, .long t36), (5, .int r21), (0, .ref G.2.2), (3, .int x3)]) hx hb dL_digest_150 hl (k := 4) rfl rfl (by decide) rfl (fun ls hl => ?_)
        refine lv_goto (tgt := 69) hx hb dL_digest_153 (by decide) ?_
        exact ih _ _ _ _ _ _ hf  hR hS (lv_sub hl [3, 1, 4, 0] rfl) hKc
  have hB61 : ∀ (n : Nat) (x1 : Int64) (x3 : Int32) (H : Heap) (locs : List Loc) (ls : Array Slot), fL_digest_61 n μ x1 x3 = some ro → g_R G E μ H → va_S (g_A G) s.heap H locs → lv_has ls 6 [(0, .ref G.2.2), (1, .long x1), (3, .int x3)] → W p l e (headSpec wsL_digest ({ frames := 3, cells := 0, slots := 0, locals := 69 } : Room)).room s m ([.ref G.2.2] : List Value).toArray below meth c H locs 0 0 (MQ below (g_Q G E μ (fun E' v => E' = E ∧ v = some (.long ro))) ([.ref G.2.2] : List Value).toArray s 0 0 (g_A G)) (F0 m 61 ls []) := by
    intro n
    induction n with
    | zero =>
      intro x1 x3 H locs ls hf
      rw [fL_digest_61] at hf
      cases hf
    | succ n ih =>
      intro x1 x3 H locs ls hf  hR hS hl
      rw [fL_digest_61] at hf
      refine lv_iload_n hx hb dL_digest_61 rfl (lv_at hl 2 rfl) ?_
      refine lv_iconst (v := 4) hx hb dL_digest_62 (by decide) ?_
      refine lv_icmp_ge (tgt := 162) hx hb dL_digest_63 (by decide) (fun c4 => ?_) (fun c4 => ?_)
      · replace hf := g_it hf c4
        refine lv_iconst (v := 0) hx hb dL_digest_162 (by decide) ?_
        refine lv_istore_n (lv' := [(3, .int (0 : Int32)), (0, .ref G.2.2), (1, .long x1)]) hx hb dL_digest_163 rfl hl (by decide) rfl (fun ls hl => ?_)
        exact hB164 70 _ _ _ _ _ hf  hR hS (lv_sub hl [1, 2, 0] rfl)
      · replace hf := g_if hf c4
        refine lv_iconst (v := 0) hx hb dL_digest_66 (by decide) ?_
        refine lv_istore (lv' := [(4, .int (0 : Int32)), (0, .ref G.2.2), (1, .long x1), (3, .int x3)]) hx hb dL_digest_67 hl (by decide) rfl (fun ls hl => ?_)
        exact hB69 _ 70 _ _ _ _ _ _ hf  hR hS (lv_sub hl [1, 2, 3, 0] rfl) (fun  k38 k39 H locs ls hf hR hS hl => by
          refine lv_iinc (v := k39 + 1) (lv' := [(3, .int (k39 + 1)), (0, .ref G.2.2), (1, .long k38)]) hx hb dL_digest_156 hl (k := 2) rfl rfl (by decide) rfl (fun ls hl => ?_)
          refine lv_goto (tgt := 61) hx hb dL_digest_159 (by decide) ?_
          exact ih _ _ _ _ _ hf  hR hS (lv_sub hl [1, 2, 0] rfl))
  have hB34 : ∀ (n : Nat) (x1 : Int64) (x3 : Int32) (H : Heap) (locs : List Loc) (ls : Array Slot), fL_digest_34 n μ x1 x3 = some ro → g_R G E μ H → va_S (g_A G) s.heap H locs → lv_has ls 6 [(0, .ref G.2.2), (1, .long x1), (3, .int x3)] → W p l e (headSpec wsL_digest ({ frames := 3, cells := 0, slots := 0, locals := 69 } : Room)).room s m ([.ref G.2.2] : List Value).toArray below meth c H locs 0 0 (MQ below (g_Q G E μ (fun E' v => E' = E ∧ v = some (.long ro))) ([.ref G.2.2] : List Value).toArray s 0 0 (g_A G)) (F0 m 34 ls []) := by
    intro n
    induction n with
    | zero =>
      intro x1 x3 H locs ls hf
      rw [fL_digest_34] at hf
      cases hf
    | succ n ih =>
      intro x1 x3 H locs ls hf  hR hS hl
      rw [fL_digest_34] at hf
      refine lv_iload_n hx hb dL_digest_34 rfl (lv_at hl 2 rfl) ?_
      refine lv_bipush (v := 25) hx hb dL_digest_35 (by decide) ?_
      refine lv_icmp_ge (tgt := 59) hx hb dL_digest_37 (by decide) (fun c3 => ?_) (fun c3 => ?_)
      · replace hf := g_it hf c3
        refine lv_iconst (v := 0) hx hb dL_digest_59 (by decide) ?_
        refine lv_istore_n (lv' := [(3, .int (0 : Int32)), (0, .ref G.2.2), (1, .long x1)]) hx hb dL_digest_60 rfl hl (by decide) rfl (fun ls hl => ?_)
        exact hB61 70 _ _ _ _ _ hf  hR hS (lv_sub hl [1, 2, 0] rfl)
      · replace hf := g_if hf c3
        refine lv_ldc2 hx hb hown ld_11 dL_digest_40 ?_
        refine lv_lload_n hx hb dL_digest_43 rfl (lv_at hl 1 rfl) ?_
        refine lv_lmul hx hb dL_digest_44 ?_
        refine lv_aload_n hx hb dL_digest_45 rfl (lv_at hl 0 rfl) ?_
        refine lv_iload_n hx hb dL_digest_46 rfl (lv_at hl 2 rfl) ?_
        obtain ⟨r40, hc41, hf⟩ := g_b1_e hf
        refine g_call (va_runV (As := [.int x3]) (rest := [.long ((31 : Int64) * x1)]) ⟨hx, hb, hml, hown, hts⟩ (c9_count l G E μ _ _ hc41) (cwV 1 hts gL_digest_X9_count rfl rfl rfl (by decide +kernel) ⟨Nat.le_of_ble_eq_true rfl, Nat.le_of_ble_eq_true rfl⟩) (g_preV (ci := 9) hR hK (hR.2.2.2.1) rfl) rfl rfl hl.1 rfl (lv_room (Nat.le_of_ble_eq_true rfl)) dL_digest_47 ⟨by show _ ≤ 0; omega, by show _ ≤ 0; omega⟩) hS (fun w42 H locs hp hR hS => ?_)
        subst hp
        refine lv_i2l hx hb dL_digest_50 rfl ?_
        refine lv_ladd hx hb dL_digest_51 ?_
        refine lv_topl (fun t43 et43 => ?_)
        replace hf := g_let_at hf et43
        refine lv_lstore_n (lv' := [(1, .long t43), (0, .ref G.2.2), (3, .int x3)]) hx hb dL_digest_52 rfl hl (by decide) rfl (fun ls hl => ?_)
        refine lv_iinc (v := x3 + 1) (lv' := [(3, .int (x3 + 1)), (1, .long t43), (0, .ref G.2.2)]) hx hb dL_digest_53 hl (k := 2) rfl rfl (by decide) rfl (fun ls hl => ?_)
        refine lv_goto (tgt := 34) hx hb dL_digest_56 (by decide) ?_
        exact ih _ _ _ _ _ hf  hR hS (lv_sub hl [2, 1, 0] rfl)
  have hB6 : ∀ (n : Nat) (x1 : Int64) (x3 : Int32) (H : Heap) (locs : List Loc) (ls : Array Slot), fL_digest_6 n μ x1 x3 = some ro → g_R G E μ H → va_S (g_A G) s.heap H locs → lv_has ls 6 [(0, .ref G.2.2), (1, .long x1), (3, .int x3)] → W p l e (headSpec wsL_digest ({ frames := 3, cells := 0, slots := 0, locals := 69 } : Room)).room s m ([.ref G.2.2] : List Value).toArray below meth c H locs 0 0 (MQ below (g_Q G E μ (fun E' v => E' = E ∧ v = some (.long ro))) ([.ref G.2.2] : List Value).toArray s 0 0 (g_A G)) (F0 m 6 ls []) := by
    intro n
    induction n with
    | zero =>
      intro x1 x3 H locs ls hf
      rw [fL_digest_6] at hf
      cases hf
    | succ n ih =>
      intro x1 x3 H locs ls hf  hR hS hl
      rw [fL_digest_6] at hf
      refine lv_iload_n hx hb dL_digest_6 rfl (lv_at hl 2 rfl) ?_
      refine lv_bipush (v := 13) hx hb dL_digest_7 (by decide) ?_
      refine lv_icmp_ge (tgt := 31) hx hb dL_digest_9 (by decide) (fun c2 => ?_) (fun c2 => ?_)
      · replace hf := g_it hf c2
        refine lv_bipush (v := 20) hx hb dL_digest_31 (by decide) ?_
        refine lv_istore_n (lv' := [(3, .int (20 : Int32)), (0, .ref G.2.2), (1, .long x1)]) hx hb dL_digest_33 rfl hl (by decide) rfl (fun ls hl => ?_)
        exact hB34 70 _ _ _ _ _ hf  hR hS (lv_sub hl [1, 2, 0] rfl)
      · replace hf := g_if hf c2
        refine lv_ldc2 hx hb hown ld_11 dL_digest_12 ?_
        refine lv_lload_n hx hb dL_digest_15 rfl (lv_at hl 1 rfl) ?_
        refine lv_lmul hx hb dL_digest_16 ?_
        refine lv_aload_n hx hb dL_digest_17 rfl (lv_at hl 0 rfl) ?_
        refine lv_iload_n hx hb dL_digest_18 rfl (lv_at hl 2 rfl) ?_
        obtain ⟨r44, hc45, hf⟩ := g_b1_e hf
        refine g_call (va_runV (As := [.int x3]) (rest := [.long ((31 : Int64) * x1)]) ⟨hx, hb, hml, hown, hts⟩ (c9_count l G E μ _ _ hc45) (cwV 1 hts gL_digest_X9_count rfl rfl rfl (by decide +kernel) ⟨Nat.le_of_ble_eq_true rfl, Nat.le_of_ble_eq_true rfl⟩) (g_preV (ci := 9) hR hK (hR.2.2.2.1) rfl) rfl rfl hl.1 rfl (lv_room (Nat.le_of_ble_eq_true rfl)) dL_digest_19 ⟨by show _ ≤ 0; omega, by show _ ≤ 0; omega⟩) hS (fun w46 H locs hp hR hS => ?_)
        subst hp
        refine lv_i2l hx hb dL_digest_22 rfl ?_
        refine lv_ladd hx hb dL_digest_23 ?_
        refine lv_topl (fun t47 et47 => ?_)
        replace hf := g_let_at hf et47
        refine lv_lstore_n (lv' := [(1, .long t47), (0, .ref G.2.2), (3, .int x3)]) hx hb dL_digest_24 rfl hl (by decide) rfl (fun ls hl => ?_)
        refine lv_iinc (v := x3 + 1) (lv' := [(3, .int (x3 + 1)), (1, .long t47), (0, .ref G.2.2)]) hx hb dL_digest_25 hl (k := 2) rfl rfl (by decide) rfl (fun ls hl => ?_)
        refine lv_goto (tgt := 6) hx hb dL_digest_28 (by decide) ?_
        exact ih _ _ _ _ _ hf  hR hS (lv_sub hl [2, 1, 0] rfl)
  unfold fL_digest at hf
  refine lv_ldc2 hx hb hown ld_9 dL_digest_0 ?_
  refine lv_topl (fun t1 et1 => ?_)
  replace hf := g_let_at hf et1
  refine lv_lstore_n (lv' := [(1, .long t1), (0, .ref G.2.2)]) hx hb dL_digest_3 rfl hl (by decide) rfl (fun ls hl => ?_)
  refine lv_iconst (v := 0) hx hb dL_digest_4 (by decide) ?_
  refine lv_istore_n (lv' := [(3, .int (0 : Int32)), (1, .long t1), (0, .ref G.2.2)]) hx hb dL_digest_5 rfl hl (by decide) rfl (fun ls hl => ?_)
  exact hB6 70 _ _ _ _ _ hf  hR hS (lv_sub hl [2, 1, 0] rfl)
set_option maxHeartbeats 4000000 in
set_option maxRecDepth 100000 in
theorem mL_moves (l : Launch) (G : gG) (E : gEn) (μ : gMu) (p1 : Int32) (p2 : Int32) (ro : Int32) (zo : gMu) (hf : fL_moves μ p1 p2 = some (ro, zo)) : Met l yL_moves wsL_moves ({ frames := 6, cells := 0, slots := 0, locals := 129 } : Room) (g_Pre G E μ [.ref G.2.2, .int p1, .int p2]) (g_Q G E zo (fun E' v => E' = E ∧ v = some (.int ro))) 0 0 (g_A G) := by
  refine Met.ofW (cc := cL_moves) (maxL := 10) (ret := some .boolean) (by decide) rfl ?_
  intro p e s m args below meth c s₁ B hml hv
  obtain ⟨rfl, hR, hK⟩ := hv
  have hx := B.exec
  have hb := B.bytes
  have hr := B.returns
  have hts := atoms_spec (ws := wsL_moves) B.pre
  have hown : s.vm.findClass RL = some m.cls := findClass_of_methodNamed B.named
  have hlocks := B.notSynchronized
  have hS : va_S (g_A G) s.heap s.heap [] := va_S.rf
  have hl := lv_entry ([.ref G.2.2, .int p1, .int p2]) (n := 10) (Nat.le_of_ble_eq_true rfl)
  rw [lg_entry_eq]
  generalize (lg_sl ([.ref G.2.2, .int p1, .int p2]) ++ List.replicate (10 - (lg_sl ([.ref G.2.2, .int p1, .int p2])).length) Slot.unset).toArray = ls at hl ⊢
  have hl : lv_has ls 10 [(0, .ref G.2.2), (1, .int p1), (2, .int p2)] := hl
  have hB126 : ∀ (z0 : gMu) (x3 : Int32) (x4 : Int32) (x6 : Int32) (x7 : Int32) (x9 : Int32) (H : Heap) (locs : List Loc) (ls : Array Slot), fL_moves_126 z0 x3 x4 x6 x7 x9 = some (ro, zo) → g_R G E z0 H → va_S (g_A G) s.heap H locs → lv_has ls 10 [(0, .ref G.2.2), (3, .int x3), (4, .int x4), (6, .int x6), (7, .int x7), (9, .int x9)] → W p l e (headSpec wsL_moves ({ frames := 6, cells := 0, slots := 0, locals := 129 } : Room)).room s m ([.ref G.2.2, .int p1, .int p2] : List Value).toArray below meth c H locs 0 0 (MQ below (g_Q G E zo (fun E' v => E' = E ∧ v = some (.int ro))) ([.ref G.2.2, .int p1, .int p2] : List Value).toArray s 0 0 (g_A G)) (F0 m 126 ls []) := by
    intro z0 x3 x4 x6 x7 x9 H locs ls hf  hR hS hl
    unfold fL_moves_126 at hf
    refine lv_iload hx hb dL_moves_126 (lv_at hl 5 rfl) ?_
    refine lv_iload hx hb dL_moves_128 (lv_at hl 3 rfl) ?_
    refine lv_iconst (v := 1) hx hb dL_moves_130 (by decide) ?_
    refine lv_iadd hx hb dL_moves_131 ?_
    refine lv_icmp_ne (tgt := 196) hx hb dL_moves_132 (by decide) (fun c29 => ?_) (fun c29 => ?_)
    · replace hf := g_it hf c29
      refine lv_iconst (v := 0) hx hb dL_moves_196 (by decide) ?_
      obtain ⟨rfl, rfl⟩ := g_sp hf
      exact g_zret hx hb hlocks hr hS hR g_le.rf (by decide) ⟨rfl, rfl⟩ (by omega) (by omega) dL_moves_197
    · replace hf := g_if hf (fun q => q c29)
      refine lv_aload_n hx hb dL_moves_135 rfl (lv_at hl 0 rfl) ?_
      refine lv_bipush (v := 8) hx hb dL_moves_136 (by decide) ?_
      obtain ⟨r30, hc31, hf⟩ := g_b1_e hf
      refine g_call (va_runV (As := [.int (8 : Int32)]) (rest := []) ⟨hx, hb, hml, hown, hts⟩ (c9_count l G E z0 _ _ hc31) (cwV 1 hts gL_moves_X9_count rfl rfl rfl (by decide +kernel) ⟨Nat.le_of_ble_eq_true rfl, Nat.le_of_ble_eq_true rfl⟩) (g_preV (ci := 9) hR hK (hR.2.2.2.1) rfl) rfl rfl hl.1 rfl (lv_room (Nat.le_of_ble_eq_true rfl)) dL_moves_138 ⟨by show _ ≤ 0; omega, by show _ ≤ 0; omega⟩) hS (fun w32 H locs hp hR hS => ?_)
      subst hp
      refine lv_iload hx hb dL_moves_141 (lv_at hl 4 rfl) ?_
      refine lv_iload hx hb dL_moves_143 (lv_at hl 5 rfl) ?_
      refine lv_iadd hx hb dL_moves_145 ?_
      refine lv_icmp_ne (tgt := 196) hx hb dL_moves_146 (by decide) (fun c33 => ?_) (fun c33 => ?_)
      · replace hf := g_it hf c33
        refine lv_iconst (v := 0) hx hb dL_moves_196 (by decide) ?_
        obtain ⟨rfl, rfl⟩ := g_sp hf
        exact g_zret hx hb hlocks hr hS hR g_le.rf (by decide) ⟨rfl, rfl⟩ (by omega) (by omega) dL_moves_197
      · replace hf := g_if hf (fun q => q c33)
        refine lv_aload_n hx hb dL_moves_149 rfl (lv_at hl 0 rfl) ?_
        refine lv_bipush (v := 23) hx hb dL_moves_150 (by decide) ?_
        obtain ⟨r34, hc35, hf⟩ := g_b1_e hf
        refine g_call (va_runV (As := [.int (23 : Int32)]) (rest := []) ⟨hx, hb, hml, hown, hts⟩ (c9_count l G E z0 _ _ hc35) (cwV 1 hts gL_moves_X9_count rfl rfl rfl (by decide +kernel) ⟨Nat.le_of_ble_eq_true rfl, Nat.le_of_ble_eq_true rfl⟩) (g_preV (ci := 9) hR hK (hR.2.2.2.1) rfl) rfl rfl hl.1 rfl (lv_room (Nat.le_of_ble_eq_true rfl)) dL_moves_152 ⟨by show _ ≤ 0; omega, by show _ ≤ 0; omega⟩) hS (fun w36 H locs hp hR hS => ?_)
        subst hp
        refine lv_if_le (tgt := 181) hx hb dL_moves_155 (by decide) (fun c37 => ?_) (fun c37 => ?_)
        · replace hf := g_it hf c37
          refine lv_aload_n hx hb dL_moves_181 rfl (lv_at hl 0 rfl) ?_
          refine lv_iload hx hb dL_moves_182 (lv_at hl 2 rfl) ?_
          refine lv_iconst (v := 0) hx hb dL_moves_184 (by decide) ?_
          obtain ⟨r38, hc39, hf⟩ := g_b1_e hf
          refine g_call (va_runV (As := [.int x4, .int (0 : Int32)]) (rest := []) ⟨hx, hb, hml, hown, hts⟩ (c9_at l G E z0 _ _ _ hc39) (cwV 2 hts gL_moves_X9_at rfl rfl rfl (by decide +kernel) ⟨Nat.le_of_ble_eq_true rfl, Nat.le_of_ble_eq_true rfl⟩) (g_preV (ci := 9) hR hK (hR.2.2.2.1) rfl) rfl rfl hl.1 rfl (lv_room (Nat.le_of_ble_eq_true rfl)) dL_moves_185 ⟨by show _ ≤ 0; omega, by show _ ≤ 0; omega⟩) hS (fun w40 H locs hp hR hS => ?_)
          subst hp
          refine lv_iload_n hx hb dL_moves_188 rfl (lv_at hl 1 rfl) ?_
          refine lv_icmp_ne (tgt := 196) hx hb dL_moves_189 (by decide) (fun c41 => ?_) (fun c41 => ?_)
          · replace hf := g_it hf c41
            refine lv_iconst (v := 0) hx hb dL_moves_196 (by decide) ?_
            obtain ⟨rfl, rfl⟩ := g_sp hf
            exact g_zret hx hb hlocks hr hS hR g_le.rf (by decide) ⟨rfl, rfl⟩ (by omega) (by omega) dL_moves_197
          · replace hf := g_if hf (fun q => q c41)
            refine lv_iconst (v := 1) hx hb dL_moves_192 (by decide) ?_
            refine lv_goto (tgt := 197) hx hb dL_moves_193 (by decide) ?_
            obtain ⟨rfl, rfl⟩ := g_sp hf
            exact g_zret hx hb hlocks hr hS hR g_le.rf (by decide) ⟨rfl, rfl⟩ (by omega) (by omega) dL_moves_197
        · replace hf := g_if hf c37
          refine lv_aload_n hx hb dL_moves_158 rfl (lv_at hl 0 rfl) ?_
          refine lv_iload_n hx hb dL_moves_159 rfl (lv_at hl 1 rfl) ?_
          refine lv_iconst (v := 3) hx hb dL_moves_160 (by decide) ?_
          obtain ⟨r42, hc43, hf⟩ := g_b1_e hf
          refine g_call (va_runV (As := [.int x3, .int (3 : Int32)]) (rest := []) ⟨hx, hb, hml, hown, hts⟩ (c9_sheet l G E z0 _ _ _ hc43) (cwV 2 hts gL_moves_X9_sheet rfl rfl rfl (by decide +kernel) ⟨Nat.le_of_ble_eq_true rfl, Nat.le_of_ble_eq_true rfl⟩) (g_preV (ci := 9) hR hK (hR.2.2.2.1) rfl) rfl rfl hl.1 rfl (lv_room (Nat.le_of_ble_eq_true rfl)) dL_moves_161 ⟨by show _ ≤ 0; omega, by show _ ≤ 0; omega⟩) hS (fun w44 H locs hp hR hS => ?_)
          subst hp
          refine lv_if_lt (tgt := 192) hx hb dL_moves_164 (by decide) (fun c45 => ?_) (fun c45 => ?_)
          · replace hf := g_it hf c45
            refine lv_iconst (v := 1) hx hb dL_moves_192 (by decide) ?_
            refine lv_goto (tgt := 197) hx hb dL_moves_193 (by decide) ?_
            obtain ⟨rfl, rfl⟩ := g_sp hf
            exact g_zret hx hb hlocks hr hS hR g_le.rf (by decide) ⟨rfl, rfl⟩ (by omega) (by omega) dL_moves_197
          · replace hf := g_if hf c45
            refine lv_aload_n hx hb dL_moves_167 rfl (lv_at hl 0 rfl) ?_
            refine lv_iload hx hb dL_moves_168 (lv_at hl 2 rfl) ?_
            refine lv_iconst (v := 0) hx hb dL_moves_170 (by decide) ?_
            obtain ⟨r46, hc47, hf⟩ := g_b1_e hf
            refine g_call (va_runV (As := [.int x4, .int (0 : Int32)]) (rest := []) ⟨hx, hb, hml, hown, hts⟩ (c9_at l G E z0 _ _ _ hc47) (cwV 2 hts gL_moves_X9_at rfl rfl rfl (by decide +kernel) ⟨Nat.le_of_ble_eq_true rfl, Nat.le_of_ble_eq_true rfl⟩) (g_preV (ci := 9) hR hK (hR.2.2.2.1) rfl) rfl rfl hl.1 rfl (lv_room (Nat.le_of_ble_eq_true rfl)) dL_moves_171 ⟨by show _ ≤ 0; omega, by show _ ≤ 0; omega⟩) hS (fun w48 H locs hp hR hS => ?_)
            subst hp
            refine lv_iload_n hx hb dL_moves_174 rfl (lv_at hl 1 rfl) ?_
            refine lv_icmp_ne (tgt := 196) hx hb dL_moves_175 (by decide) (fun c49 => ?_) (fun c49 => ?_)
            · replace hf := g_it hf c49
              refine lv_iconst (v := 0) hx hb dL_moves_196 (by decide) ?_
              obtain ⟨rfl, rfl⟩ := g_sp hf
              exact g_zret hx hb hlocks hr hS hR g_le.rf (by decide) ⟨rfl, rfl⟩ (by omega) (by omega) dL_moves_197
            · replace hf := g_if hf (fun q => q c49)
              refine lv_goto (tgt := 192) hx hb dL_moves_178 (by decide) ?_
              refine lv_iconst (v := 1) hx hb dL_moves_192 (by decide) ?_
              refine lv_goto (tgt := 197) hx hb dL_moves_193 (by decide) ?_
              obtain ⟨rfl, rfl⟩ := g_sp hf
              exact g_zret hx hb hlocks hr hS hR g_le.rf (by decide) ⟨rfl, rfl⟩ (by omega) (by omega) dL_moves_197
  have hB45 : ∀ (n : Nat) (z0 : gMu) (x3 : Int32) (x4 : Int32) (x5 : Int32) (x6 : Int32) (x7 : Int32) (x8 : Int32) (H : Heap) (locs : List Loc) (ls : Array Slot), fL_moves_45 n z0 x3 x4 x5 x6 x7 x8 = some (ro, zo) → g_R G E z0 H → va_S (g_A G) s.heap H locs → lv_has ls 10 [(0, .ref G.2.2), (3, .int x3), (4, .int x4), (5, .int x5), (6, .int x6), (7, .int x7), (8, .int x8)] → W p l e (headSpec wsL_moves ({ frames := 6, cells := 0, slots := 0, locals := 129 } : Room)).room s m ([.ref G.2.2, .int p1, .int p2] : List Value).toArray below meth c H locs 0 0 (MQ below (g_Q G E zo (fun E' v => E' = E ∧ v = some (.int ro))) ([.ref G.2.2, .int p1, .int p2] : List Value).toArray s 0 0 (g_A G)) (F0 m 45 ls []) := by
    intro n
    induction n with
    | zero =>
      intro z0 x3 x4 x5 x6 x7 x8 H locs ls hf
      rw [fL_moves_45] at hf
      cases hf
    | succ n ih =>
      intro z0 x3 x4 x5 x6 x7 x8 H locs ls hf  hR hS hl
      rw [fL_moves_45] at hf
      refine lv_aload_n hx hb dL_moves_45 rfl (lv_at hl 0 rfl) ?_
      refine lv_iload hx hb dL_moves_46 (lv_at hl 2 rfl) ?_
      refine lv_iload hx hb dL_moves_48 (lv_at hl 6 rfl) ?_
      obtain ⟨r19, hc20, hf⟩ := g_b1_e hf
      refine g_call (va_runV (As := [.int x4, .int x8]) (rest := []) ⟨hx, hb, hml, hown, hts⟩ (c9_at l G E z0 _ _ _ hc20) (cwV 2 hts gL_moves_X9_at rfl rfl rfl (by decide +kernel) ⟨Nat.le_of_ble_eq_true rfl, Nat.le_of_ble_eq_true rfl⟩) (g_preV (ci := 9) hR hK (hR.2.2.2.1) rfl) rfl rfl hl.1 rfl (lv_room (Nat.le_of_ble_eq_true rfl)) dL_moves_50 ⟨by show _ ≤ 0; omega, by show _ ≤ 0; omega⟩) hS (fun w21 H locs hp hR hS => ?_)
      subst hp
      refine lv_if_lt (tgt := 62) hx hb dL_moves_53 (by decide) (fun c22 => ?_) (fun c22 => ?_)
      · replace hf := g_it hf c22
        refine lv_aload_n hx hb dL_moves_62 rfl (lv_at hl 0 rfl) ?_
        refine lv_iload_n hx hb dL_moves_63 rfl (lv_at hl 1 rfl) ?_
        refine lv_iload hx hb dL_moves_64 (lv_at hl 2 rfl) ?_
        obtain ⟨r23, z24, hc25, hf⟩ := g_bd_e hf
        refine g_call (va_runV (As := [.int x3, .int x4]) (rest := []) ⟨hx, hb, hml, hown, hts⟩ (c9_move l G E z0 _ _ _ _ hc25) (cwV 2 hts gL_moves_X9_move rfl rfl rfl (by decide +kernel) ⟨Nat.le_of_ble_eq_true rfl, Nat.le_of_ble_eq_true rfl⟩) (g_preV (ci := 9) hR hK (hR.2.2.2.1) rfl) rfl rfl hl.1 rfl (lv_room (Nat.le_of_ble_eq_true rfl)) dL_moves_66 ⟨by show _ ≤ 0; omega, by show _ ≤ 0; omega⟩) hS (fun w26 H locs hp hR hS => ?_)
        subst hp
        refine lv_istore (lv' := [(9, .int r23), (0, .ref G.2.2), (3, .int x3), (4, .int x4), (5, .int x5), (6, .int x6), (7, .int x7), (8, .int x8)]) hx hb dL_moves_69 hl (by decide) rfl (fun ls hl => ?_)
        refine lv_iload hx hb dL_moves_71 (lv_at hl 4 rfl) ?_
        refine lv_if_ge (tgt := 88) hx hb dL_moves_73 (by decide) (fun c27 => ?_) (fun c27 => ?_)
        · replace hf := g_it hf c27
          refine lv_iload hx hb dL_moves_88 (lv_at hl 4 rfl) ?_
          refine lv_iload hx hb dL_moves_90 (lv_at hl 3 rfl) ?_
          refine lv_icmp_eq (tgt := 126) hx hb dL_moves_92 (by decide) (fun c28 => ?_) (fun c28 => ?_)
          · replace hf := g_it hf c28
            exact hB126 _ _ _ _ _ _ _ _ _ hf  hR hS (lv_sub hl [1, 2, 3, 5, 6, 0] rfl)
          · replace hf := g_if hf c28
            refine lv_iload hx hb dL_moves_95 (lv_at hl 7 rfl) ?_
            refine lv_bipush (v := 8) hx hb dL_moves_97 (by decide) ?_
            refine lv_icmp_ne (tgt := 126) hx hb dL_moves_99 (by decide) (fun c50 => ?_) (fun c50 => ?_)
            · replace hf := g_it hf c50
              exact hB126 _ _ _ _ _ _ _ _ _ hf  hR hS (lv_sub hl [1, 2, 3, 5, 6, 0] rfl)
            · replace hf := g_if hf (fun q => q c50)
              refine lv_iload hx hb dL_moves_102 (lv_at hl 0 rfl) ?_
              refine lv_bipush (v := -3) hx hb dL_moves_104 (by decide) ?_
              refine lv_icmp_ne (tgt := 124) hx hb dL_moves_106 (by decide) (fun c51 => ?_) (fun c51 => ?_)
              · replace hf := g_it hf c51
                refine lv_iconst (v := 0) hx hb dL_moves_124 (by decide) ?_
                obtain ⟨rfl, rfl⟩ := g_sp hf
                exact g_zret hx hb hlocks hr hS hR g_le.rf (by decide) ⟨rfl, rfl⟩ (by omega) (by omega) dL_moves_125
              · replace hf := g_if hf (fun q => q c51)
                refine lv_aload_n hx hb dL_moves_109 rfl (lv_at hl 1 rfl) ?_
                refine lv_bipush (v := 8) hx hb dL_moves_110 (by decide) ?_
                obtain ⟨r52, hc53, hf⟩ := g_b1_e hf
                refine g_call (va_runV (As := [.int (8 : Int32)]) (rest := []) ⟨hx, hb, hml, hown, hts⟩ (c9_count l G E z24 _ _ hc53) (cwV 1 hts gL_moves_X9_count rfl rfl rfl (by decide +kernel) ⟨Nat.le_of_ble_eq_true rfl, Nat.le_of_ble_eq_true rfl⟩) (g_preV (ci := 9) hR hK (hR.2.2.2.1) rfl) rfl rfl hl.1 rfl (lv_room (Nat.le_of_ble_eq_true rfl)) dL_moves_112 ⟨by show _ ≤ 0; omega, by show _ ≤ 0; omega⟩) hS (fun w54 H locs hp hR hS => ?_)
                subst hp
                refine lv_iload hx hb dL_moves_115 (lv_at hl 6 rfl) ?_
                refine lv_icmp_ne (tgt := 124) hx hb dL_moves_117 (by decide) (fun c55 => ?_) (fun c55 => ?_)
                · replace hf := g_it hf c55
                  refine lv_iconst (v := 0) hx hb dL_moves_124 (by decide) ?_
                  obtain ⟨rfl, rfl⟩ := g_sp hf
                  exact g_zret hx hb hlocks hr hS hR g_le.rf (by decide) ⟨rfl, rfl⟩ (by omega) (by omega) dL_moves_125
                · replace hf := g_if hf (fun q => q c55)
                  refine lv_iconst (v := 1) hx hb dL_moves_120 (by decide) ?_
                  refine lv_goto (tgt := 125) hx hb dL_moves_121 (by decide) ?_
                  obtain ⟨rfl, rfl⟩ := g_sp hf
                  exact g_zret hx hb hlocks hr hS hR g_le.rf (by decide) ⟨rfl, rfl⟩ (by omega) (by omega) dL_moves_125
        · replace hf := g_if hf c27
          refine lv_iload hx hb dL_moves_76 (lv_at hl 0 rfl) ?_
          refine lv_iconst (v := -1) hx hb dL_moves_78 (by decide) ?_
          refine lv_icmp_ne (tgt := 86) hx hb dL_moves_79 (by decide) (fun c56 => ?_) (fun c56 => ?_)
          · replace hf := g_it hf c56
            refine lv_iconst (v := 0) hx hb dL_moves_86 (by decide) ?_
            obtain ⟨rfl, rfl⟩ := g_sp hf
            exact g_zret hx hb hlocks hr hS hR g_le.rf (by decide) ⟨rfl, rfl⟩ (by omega) (by omega) dL_moves_87
          · replace hf := g_if hf (fun q => q c56)
            refine lv_iconst (v := 1) hx hb dL_moves_82 (by decide) ?_
            refine lv_goto (tgt := 87) hx hb dL_moves_83 (by decide) ?_
            obtain ⟨rfl, rfl⟩ := g_sp hf
            exact g_zret hx hb hlocks hr hS hR g_le.rf (by decide) ⟨rfl, rfl⟩ (by omega) (by omega) dL_moves_87
      · replace hf := g_if hf c22
        refine lv_iinc (v := x8 + 1) (lv' := [(8, .int (x8 + 1)), (0, .ref G.2.2), (3, .int x3), (4, .int x4), (5, .int x5), (6, .int x6), (7, .int x7)]) hx hb dL_moves_56 hl (k := 6) rfl rfl (by decide) rfl (fun ls hl => ?_)
        refine lv_goto (tgt := 45) hx hb dL_moves_59 (by decide) ?_
        exact ih _ _ _ _ _ _ _ _ _ _ hf  hR hS (lv_sub hl [1, 2, 3, 4, 5, 6, 0] rfl)
  unfold fL_moves at hf
  refine lv_iload_n hx hb dL_moves_0 rfl (lv_at hl 1 rfl) ?_
  refine lv_aload_n hx hb dL_moves_1 rfl (lv_at hl 0 rfl) ?_
  refine lv_bipush (v := 12) hx hb dL_moves_2 (by decide) ?_
  obtain ⟨r1, hc2, hf⟩ := g_b1_e hf
  refine g_call (va_runV (As := [.int (12 : Int32)]) (rest := [.int p1]) ⟨hx, hb, hml, hown, hts⟩ (c9_count l G E μ _ _ hc2) (cwV 1 hts gL_moves_X9_count rfl rfl rfl (by decide +kernel) ⟨Nat.le_of_ble_eq_true rfl, Nat.le_of_ble_eq_true rfl⟩) (g_preV (ci := 9) hR hK (hR.2.2.2.1) rfl) rfl rfl hl.1 rfl (lv_room (Nat.le_of_ble_eq_true rfl)) dL_moves_4 ⟨by show _ ≤ 0; omega, by show _ ≤ 0; omega⟩) hS (fun w3 H locs hp hR hS => ?_)
  subst hp
  obtain ⟨r4, hc5, hf⟩ := g_b1_e hf
  refine g_call (va_runS (As := [.int p1, .int r1]) (rest := []) ⟨hx, hb, hml, hown, hts⟩ (mL_low l G E μ _ _ _ hc5) (cwS 2 hts gL_moves_L_low rfl rfl rfl (by decide +kernel) ⟨Nat.le_of_ble_eq_true rfl, Nat.le_of_ble_eq_true rfl⟩) (g_pre hR hK) rfl rfl hl.1 rfl (lv_room (Nat.le_of_ble_eq_true rfl)) dL_moves_7 ⟨by show _ ≤ 0; omega, by show _ ≤ 0; omega⟩) hS (fun w6 H locs hp hR hS => ?_)
  subst hp
  refine lv_istore_n (lv' := [(3, .int r4), (0, .ref G.2.2), (1, .int p1), (2, .int p2)]) hx hb dL_moves_10 rfl hl (by decide) rfl (fun ls hl => ?_)
  refine lv_iload_n hx hb dL_moves_11 rfl (lv_at hl 3 rfl) ?_
  refine lv_iconst (v := 4) hx hb dL_moves_12 (by decide) ?_
  obtain ⟨r7, hc8, hf⟩ := g_b1_e hf
  refine g_call (va_runS (As := [.int p2, .int (4 : Int32)]) (rest := []) ⟨hx, hb, hml, hown, hts⟩ (mL_low l G E μ _ _ _ hc8) (cwS 2 hts gL_moves_L_low rfl rfl rfl (by decide +kernel) ⟨Nat.le_of_ble_eq_true rfl, Nat.le_of_ble_eq_true rfl⟩) (g_pre hR hK) rfl rfl hl.1 rfl (lv_room (Nat.le_of_ble_eq_true rfl)) dL_moves_13 ⟨by show _ ≤ 0; omega, by show _ ≤ 0; omega⟩) hS (fun w9 H locs hp hR hS => ?_)
  subst hp
  refine lv_istore (lv' := [(4, .int r7), (3, .int r4), (0, .ref G.2.2), (1, .int p1), (2, .int p2)]) hx hb dL_moves_16 hl (by decide) rfl (fun ls hl => ?_)
  refine lv_aload_n hx hb dL_moves_18 rfl (lv_at hl 2 rfl) ?_
  refine lv_iload_n hx hb dL_moves_19 rfl (lv_at hl 1 rfl) ?_
  refine lv_iconst (v := 3) hx hb dL_moves_20 (by decide) ?_
  obtain ⟨r10, hc11, hf⟩ := g_b1_e hf
  refine g_call (va_runV (As := [.int r4, .int (3 : Int32)]) (rest := []) ⟨hx, hb, hml, hown, hts⟩ (c9_sheet l G E μ _ _ _ hc11) (cwV 2 hts gL_moves_X9_sheet rfl rfl rfl (by decide +kernel) ⟨Nat.le_of_ble_eq_true rfl, Nat.le_of_ble_eq_true rfl⟩) (g_preV (ci := 9) hR hK (hR.2.2.2.1) rfl) rfl rfl hl.1 rfl (lv_room (Nat.le_of_ble_eq_true rfl)) dL_moves_21 ⟨by show _ ≤ 0; omega, by show _ ≤ 0; omega⟩) hS (fun w12 H locs hp hR hS => ?_)
  subst hp
  refine lv_istore (lv' := [(5, .int r10), (4, .int r7), (3, .int r4), (0, .ref G.2.2), (1, .int p1), (2, .int p2)]) hx hb dL_moves_24 hl (by decide) rfl (fun ls hl => ?_)
  refine lv_aload_n hx hb dL_moves_26 rfl (lv_at hl 3 rfl) ?_
  refine lv_iload_n hx hb dL_moves_27 rfl (lv_at hl 2 rfl) ?_
  refine lv_iconst (v := 4) hx hb dL_moves_28 (by decide) ?_
  obtain ⟨r13, hc14, hf⟩ := g_b1_e hf
  refine g_call (va_runV (As := [.int r4, .int (4 : Int32)]) (rest := []) ⟨hx, hb, hml, hown, hts⟩ (c9_sheet l G E μ _ _ _ hc14) (cwV 2 hts gL_moves_X9_sheet rfl rfl rfl (by decide +kernel) ⟨Nat.le_of_ble_eq_true rfl, Nat.le_of_ble_eq_true rfl⟩) (g_preV (ci := 9) hR hK (hR.2.2.2.1) rfl) rfl rfl hl.1 rfl (lv_room (Nat.le_of_ble_eq_true rfl)) dL_moves_29 ⟨by show _ ≤ 0; omega, by show _ ≤ 0; omega⟩) hS (fun w15 H locs hp hR hS => ?_)
  subst hp
  refine lv_istore (lv' := [(6, .int r13), (5, .int r10), (4, .int r7), (3, .int r4), (0, .ref G.2.2), (1, .int p1), (2, .int p2)]) hx hb dL_moves_32 hl (by decide) rfl (fun ls hl => ?_)
  refine lv_aload_n hx hb dL_moves_34 rfl (lv_at hl 4 rfl) ?_
  refine lv_bipush (v := 8) hx hb dL_moves_35 (by decide) ?_
  obtain ⟨r16, hc17, hf⟩ := g_b1_e hf
  refine g_call (va_runV (As := [.int (8 : Int32)]) (rest := []) ⟨hx, hb, hml, hown, hts⟩ (c9_count l G E μ _ _ hc17) (cwV 1 hts gL_moves_X9_count rfl rfl rfl (by decide +kernel) ⟨Nat.le_of_ble_eq_true rfl, Nat.le_of_ble_eq_true rfl⟩) (g_preV (ci := 9) hR hK (hR.2.2.2.1) rfl) rfl rfl hl.1 rfl (lv_room (Nat.le_of_ble_eq_true rfl)) dL_moves_37 ⟨by show _ ≤ 0; omega, by show _ ≤ 0; omega⟩) hS (fun w18 H locs hp hR hS => ?_)
  subst hp
  refine lv_istore (lv' := [(7, .int r16), (6, .int r13), (5, .int r10), (4, .int r7), (3, .int r4), (0, .ref G.2.2), (1, .int p1), (2, .int p2)]) hx hb dL_moves_40 hl (by decide) rfl (fun ls hl => ?_)
  refine lv_iconst (v := 0) hx hb dL_moves_42 (by decide) ?_
  refine lv_istore (lv' := [(8, .int (0 : Int32)), (7, .int r16), (6, .int r13), (5, .int r10), (4, .int r7), (3, .int r4), (0, .ref G.2.2), (1, .int p1), (2, .int p2)]) hx hb dL_moves_43 hl (by decide) rfl (fun ls hl => ?_)
  exact hB45 70 _ _ _ _ _ _ _ _ _ _ hf  hR hS (lv_sub hl [6, 5, 4, 3, 2, 1, 0] rfl)
set_option maxHeartbeats 4000000 in
set_option maxRecDepth 100000 in
theorem mL_passes (l : Launch) (G : gG) (E : gEn) (μ : gMu) (p1 : Int32) (ro : Int32) (zo : gMu) (hf : fL_passes μ p1 = some (ro, zo)) : Met l yL_passes wsL_passes ({ frames := 6, cells := 0, slots := 0, locals := 128 } : Room) (g_Pre G E μ [.ref G.2.2, .int p1]) (g_Q G E zo (fun E' v => E' = E ∧ v = some (.int ro))) 0 0 (g_A G) := by
  refine Met.ofW (cc := cL_passes) (maxL := 6) (ret := some .boolean) (by decide) rfl ?_
  intro p e s m args below meth c s₁ B hml hv
  obtain ⟨rfl, hR, hK⟩ := hv
  have hx := B.exec
  have hb := B.bytes
  have hr := B.returns
  have hts := atoms_spec (ws := wsL_passes) B.pre
  have hown : s.vm.findClass RL = some m.cls := findClass_of_methodNamed B.named
  have hlocks := B.notSynchronized
  have hS : va_S (g_A G) s.heap s.heap [] := va_S.rf
  have hl := lv_entry ([.ref G.2.2, .int p1]) (n := 6) (Nat.le_of_ble_eq_true rfl)
  rw [lg_entry_eq]
  generalize (lg_sl ([.ref G.2.2, .int p1]) ++ List.replicate (6 - (lg_sl ([.ref G.2.2, .int p1])).length) Slot.unset).toArray = ls at hl ⊢
  have hl : lv_has ls 6 [(0, .ref G.2.2), (1, .int p1)] := hl
  unfold fL_passes at hf
  refine lv_iconst (v := 1) hx hb dL_passes_0 (by decide) ?_
  refine lv_iload_n hx hb dL_passes_1 rfl (lv_at hl 1 rfl) ?_
  refine lv_bipush (v := 9) hx hb dL_passes_2 (by decide) ?_
  obtain ⟨r1, hc2, hf⟩ := g_b1_e hf
  refine g_call (va_runS (As := [.int p1, .int (9 : Int32)]) (rest := [.int (1 : Int32)]) ⟨hx, hb, hml, hown, hts⟩ (mL_low l G E μ _ _ _ hc2) (cwS 2 hts gL_passes_L_low rfl rfl rfl (by decide +kernel) ⟨Nat.le_of_ble_eq_true rfl, Nat.le_of_ble_eq_true rfl⟩) (g_pre hR hK) rfl rfl hl.1 rfl (lv_room (Nat.le_of_ble_eq_true rfl)) dL_passes_4 ⟨by show _ ≤ 0; omega, by show _ ≤ 0; omega⟩) hS (fun w3 H locs hp hR hS => ?_)
  subst hp
  refine lv_iadd hx hb dL_passes_7 ?_
  refine lv_topi (fun t4 et4 => ?_)
  replace hf := g_let_at hf et4
  refine lv_istore_n (lv' := [(2, .int t4), (0, .ref G.2.2), (1, .int p1)]) hx hb dL_passes_8 rfl hl (by decide) rfl (fun ls hl => ?_)
  refine lv_aload_n hx hb dL_passes_9 rfl (lv_at hl 1 rfl) ?_
  refine lv_iconst (v := 0) hx hb dL_passes_10 (by decide) ?_
  obtain ⟨r5, hc6, hf⟩ := g_b1_e hf
  refine g_call (va_runV (As := [.int (0 : Int32)]) (rest := []) ⟨hx, hb, hml, hown, hts⟩ (c9_count l G E μ _ _ hc6) (cwV 1 hts gL_passes_X9_count rfl rfl rfl (by decide +kernel) ⟨Nat.le_of_ble_eq_true rfl, Nat.le_of_ble_eq_true rfl⟩) (g_preV (ci := 9) hR hK (hR.2.2.2.1) rfl) rfl rfl hl.1 rfl (lv_room (Nat.le_of_ble_eq_true rfl)) dL_passes_11 ⟨by show _ ≤ 0; omega, by show _ ≤ 0; omega⟩) hS (fun w7 H locs hp hR hS => ?_)
  subst hp
  refine lv_istore_n (lv' := [(3, .int r5), (2, .int t4), (0, .ref G.2.2), (1, .int p1)]) hx hb dL_passes_14 rfl hl (by decide) rfl (fun ls hl => ?_)
  refine lv_aload_n hx hb dL_passes_15 rfl (lv_at hl 2 rfl) ?_
  refine lv_bipush (v := 11) hx hb dL_passes_16 (by decide) ?_
  obtain ⟨r8, hc9, hf⟩ := g_b1_e hf
  refine g_call (va_runV (As := [.int (11 : Int32)]) (rest := []) ⟨hx, hb, hml, hown, hts⟩ (c9_count l G E μ _ _ hc9) (cwV 1 hts gL_passes_X9_count rfl rfl rfl (by decide +kernel) ⟨Nat.le_of_ble_eq_true rfl, Nat.le_of_ble_eq_true rfl⟩) (g_preV (ci := 9) hR hK (hR.2.2.2.1) rfl) rfl rfl hl.1 rfl (lv_room (Nat.le_of_ble_eq_true rfl)) dL_passes_18 ⟨by show _ ≤ 0; omega, by show _ ≤ 0; omega⟩) hS (fun w10 H locs hp hR hS => ?_)
  subst hp
  refine lv_istore (lv' := [(4, .int r8), (3, .int r5), (2, .int t4), (0, .ref G.2.2), (1, .int p1)]) hx hb dL_passes_21 hl (by decide) rfl (fun ls hl => ?_)
  refine lv_aload_n hx hb dL_passes_23 rfl (lv_at hl 3 rfl) ?_
  refine lv_iload_n hx hb dL_passes_24 rfl (lv_at hl 2 rfl) ?_
  obtain ⟨r11, z12, hc13, hf⟩ := g_bd_e hf
  refine g_call (va_runV (As := [.int t4]) (rest := []) ⟨hx, hb, hml, hown, hts⟩ (c9_pass l G E μ _ _ _ hc13) (cwV 1 hts gL_passes_X9_pass rfl rfl rfl (by decide +kernel) ⟨Nat.le_of_ble_eq_true rfl, Nat.le_of_ble_eq_true rfl⟩) (g_preV (ci := 9) hR hK (hR.2.2.2.1) rfl) rfl rfl hl.1 rfl (lv_room (Nat.le_of_ble_eq_true rfl)) dL_passes_25 ⟨by show _ ≤ 0; omega, by show _ ≤ 0; omega⟩) hS (fun w14 H locs hp hR hS => ?_)
  subst hp
  refine lv_istore (lv' := [(5, .int r11), (4, .int r8), (3, .int r5), (2, .int t4), (0, .ref G.2.2), (1, .int p1)]) hx hb dL_passes_28 hl (by decide) rfl (fun ls hl => ?_)
  refine lv_iload_n hx hb dL_passes_30 rfl (lv_at hl 2 rfl) ?_
  refine lv_iload_n hx hb dL_passes_31 rfl (lv_at hl 3 rfl) ?_
  refine lv_iadd hx hb dL_passes_32 ?_
  refine lv_sipush (v := 999) hx hb dL_passes_33 (by decide) ?_
  refine lv_icmp_le (tgt := 54) hx hb dL_passes_36 (by decide) (fun c15 => ?_) (fun c15 => ?_)
  · replace hf := g_it hf c15
    refine lv_aload_n hx hb dL_passes_54 rfl (lv_at hl 4 rfl) ?_
    refine lv_iconst (v := 0) hx hb dL_passes_55 (by decide) ?_
    obtain ⟨r16, hc17, hf⟩ := g_b1_e hf
    refine g_call (va_runV (As := [.int (0 : Int32)]) (rest := []) ⟨hx, hb, hml, hown, hts⟩ (c9_count l G E z12 _ _ hc17) (cwV 1 hts gL_passes_X9_count rfl rfl rfl (by decide +kernel) ⟨Nat.le_of_ble_eq_true rfl, Nat.le_of_ble_eq_true rfl⟩) (g_preV (ci := 9) hR hK (hR.2.2.2.1) rfl) rfl rfl hl.1 rfl (lv_room (Nat.le_of_ble_eq_true rfl)) dL_passes_56 ⟨by show _ ≤ 0; omega, by show _ ≤ 0; omega⟩) hS (fun w18 H locs hp hR hS => ?_)
    subst hp
    refine lv_iload_n hx hb dL_passes_59 rfl (lv_at hl 2 rfl) ?_
    refine lv_iload_n hx hb dL_passes_60 rfl (lv_at hl 3 rfl) ?_
    refine lv_iadd hx hb dL_passes_61 ?_
    refine lv_icmp_ne (tgt := 83) hx hb dL_passes_62 (by decide) (fun c19 => ?_) (fun c19 => ?_)
    · replace hf := g_it hf c19
      refine lv_iconst (v := 0) hx hb dL_passes_83 (by decide) ?_
      obtain ⟨rfl, rfl⟩ := g_sp hf
      exact g_zret hx hb hlocks hr hS hR g_le.rf (by decide) ⟨rfl, rfl⟩ (by omega) (by omega) dL_passes_84
    · replace hf := g_if hf (fun q => q c19)
      refine lv_iload hx hb dL_passes_65 (lv_at hl 0 rfl) ?_
      refine lv_aload_n hx hb dL_passes_67 rfl (lv_at hl 4 rfl) ?_
      refine lv_bipush (v := 11) hx hb dL_passes_68 (by decide) ?_
      obtain ⟨r20, hc21, hf⟩ := g_b1_e hf
      refine g_call (va_runV (As := [.int (11 : Int32)]) (rest := [.int r11]) ⟨hx, hb, hml, hown, hts⟩ (c9_count l G E z12 _ _ hc21) (cwV 1 hts gL_passes_X9_count rfl rfl rfl (by decide +kernel) ⟨Nat.le_of_ble_eq_true rfl, Nat.le_of_ble_eq_true rfl⟩) (g_preV (ci := 9) hR hK (hR.2.2.2.1) rfl) rfl rfl hl.1 rfl (lv_room (Nat.le_of_ble_eq_true rfl)) dL_passes_70 ⟨by show _ ≤ 0; omega, by show _ ≤ 0; omega⟩) hS (fun w22 H locs hp hR hS => ?_)
      subst hp
      refine lv_iload hx hb dL_passes_73 (lv_at hl 1 rfl) ?_
      refine lv_isub hx hb dL_passes_75 ?_
      refine lv_icmp_ne (tgt := 83) hx hb dL_passes_76 (by decide) (fun c23 => ?_) (fun c23 => ?_)
      · replace hf := g_it hf c23
        refine lv_iconst (v := 0) hx hb dL_passes_83 (by decide) ?_
        obtain ⟨rfl, rfl⟩ := g_sp hf
        exact g_zret hx hb hlocks hr hS hR g_le.rf (by decide) ⟨rfl, rfl⟩ (by omega) (by omega) dL_passes_84
      · replace hf := g_if hf (fun q => q c23)
        refine lv_iconst (v := 1) hx hb dL_passes_79 (by decide) ?_
        refine lv_goto (tgt := 84) hx hb dL_passes_80 (by decide) ?_
        obtain ⟨rfl, rfl⟩ := g_sp hf
        exact g_zret hx hb hlocks hr hS hR g_le.rf (by decide) ⟨rfl, rfl⟩ (by omega) (by omega) dL_passes_84
  · replace hf := g_if hf c15
    refine lv_iload hx hb dL_passes_39 (lv_at hl 0 rfl) ?_
    refine lv_bipush (v := -3) hx hb dL_passes_41 (by decide) ?_
    refine lv_icmp_ne (tgt := 50) hx hb dL_passes_43 (by decide) (fun c24 => ?_) (fun c24 => ?_)
    · replace hf := g_it hf c24
      refine lv_iconst (v := 0) hx hb dL_passes_50 (by decide) ?_
      refine lv_goto (tgt := 84) hx hb dL_passes_51 (by decide) ?_
      obtain ⟨rfl, rfl⟩ := g_sp hf
      exact g_zret hx hb hlocks hr hS hR g_le.rf (by decide) ⟨rfl, rfl⟩ (by omega) (by omega) dL_passes_84
    · replace hf := g_if hf (fun q => q c24)
      refine lv_iconst (v := 1) hx hb dL_passes_46 (by decide) ?_
      refine lv_goto (tgt := 84) hx hb dL_passes_47 (by decide) ?_
      obtain ⟨rfl, rfl⟩ := g_sp hf
      exact g_zret hx hb hlocks hr hS hR g_le.rf (by decide) ⟨rfl, rfl⟩ (by omega) (by omega) dL_passes_84
set_option maxHeartbeats 4000000 in
set_option maxRecDepth 100000 in
theorem mL_plans (l : Launch) (G : gG) (E : gEn) (μ : gMu) (p1 : Int32) (ro : Int32) (zo : gMu) (hf : fL_plans μ p1 = some (ro, zo)) : Met l yL_plans wsL_plans ({ frames := 7, cells := 195, slots := 1170, locals := 165 } : Room) (g_Pre G E μ [.ref G.2.2, .int p1]) (g_Q G E zo (fun E' v => v = some (.int ro))) 195 1170 (g_A G) := by
  refine Met.ofW (cc := cL_plans) (maxL := 9) (ret := some .boolean) (by decide) rfl ?_
  intro p e s m args below meth c s₁ B hml hv
  obtain ⟨rfl, hR, hK⟩ := hv
  have hx := B.exec
  have hb := B.bytes
  have hr := B.returns
  have hts := atoms_spec (ws := wsL_plans) B.pre
  have hown : s.vm.findClass RL = some m.cls := findClass_of_methodNamed B.named
  have hlocks := B.notSynchronized
  have hS : va_S (g_A G) s.heap s.heap [] := va_S.rf
  have hl := lv_entry ([.ref G.2.2, .int p1]) (n := 9) (Nat.le_of_ble_eq_true rfl)
  rw [lg_entry_eq]
  generalize (lg_sl ([.ref G.2.2, .int p1]) ++ List.replicate (9 - (lg_sl ([.ref G.2.2, .int p1])).length) Slot.unset).toArray = ls at hl ⊢
  have hl : lv_has ls 9 [(0, .ref G.2.2), (1, .int p1)] := hl
  unfold fL_plans at hf
  refine lv_iload_n hx hb dL_plans_0 rfl (lv_at hl 1 rfl) ?_
  refine lv_iconst (v := 3) hx hb dL_plans_1 (by decide) ?_
  obtain ⟨r1, hc2, hf⟩ := g_b1_e hf
  refine g_call (va_runS (As := [.int p1, .int (3 : Int32)]) (rest := []) ⟨hx, hb, hml, hown, hts⟩ (mL_low l G E μ _ _ _ hc2) (cwS 2 hts gL_plans_L_low rfl rfl rfl (by decide +kernel) ⟨Nat.le_of_ble_eq_true rfl, Nat.le_of_ble_eq_true rfl⟩) (g_pre hR hK) rfl rfl hl.1 rfl (lv_room (Nat.le_of_ble_eq_true rfl)) dL_plans_2 ⟨by show _ ≤ 195; omega, by show _ ≤ 1170; omega⟩) hS (fun w3 H locs hp hR hS => ?_)
  subst hp
  refine lv_istore_n (lv' := [(2, .int r1), (0, .ref G.2.2), (1, .int p1)]) hx hb dL_plans_5 rfl hl (by decide) rfl (fun ls hl => ?_)
  refine lv_aload_n hx hb dL_plans_6 rfl (lv_at hl 1 rfl) ?_
  refine lv_iload_n hx hb dL_plans_7 rfl (lv_at hl 0 rfl) ?_
  refine lv_iconst (v := 0) hx hb dL_plans_8 (by decide) ?_
  obtain ⟨r4, z5, hc6, hf⟩ := g_bd_e hf
  refine g_calln (va_runV (As := [.int r1, .int (0 : Int32)]) (rest := []) ⟨hx, hb, hml, hown, hts⟩ (c9_wouldPlan l G E μ _ _ _ _ hc6) (cwV 2 hts gL_plans_X9_wouldPlan rfl rfl rfl (by decide +kernel) ⟨Nat.le_of_ble_eq_true rfl, Nat.le_of_ble_eq_true rfl⟩) (g_preV (ci := 9) hR hK (hR.2.2.2.1) rfl) rfl rfl hl.1 rfl (lv_room (Nat.le_of_ble_eq_true rfl)) dL_plans_9 ⟨by show _ ≤ 195; omega, by show _ ≤ 1170; omega⟩) hS (fun w7 E8 H locs hp hle9 hR hS => ?_)
  subst hp
  refine lv_istore_n (lv' := [(3, .int r4), (2, .int r1), (0, .ref G.2.2), (1, .int p1)]) hx hb dL_plans_12 rfl hl (by decide) rfl (fun ls hl => ?_)
  refine lv_aload_n hx hb dL_plans_13 rfl (lv_at hl 2 rfl) ?_
  refine lv_iload_n hx hb dL_plans_14 rfl (lv_at hl 1 rfl) ?_
  refine lv_iconst (v := 1) hx hb dL_plans_15 (by decide) ?_
  obtain ⟨r10, z11, hc12, hf⟩ := g_bd_e hf
  refine g_calln (va_runV (As := [.int r1, .int (1 : Int32)]) (rest := []) ⟨hx, hb, hml, hown, hts⟩ (c9_wouldPlan l G E8 z5 _ _ _ _ hc12) (cwV 2 hts gL_plans_X9_wouldPlan rfl rfl rfl (by decide +kernel) ⟨Nat.le_of_ble_eq_true rfl, Nat.le_of_ble_eq_true rfl⟩) (g_preV (ci := 9) hR hK (hR.2.2.2.1) rfl) rfl rfl hl.1 rfl (lv_room (Nat.le_of_ble_eq_true rfl)) dL_plans_16 ⟨by show _ ≤ 195; omega, by show _ ≤ 1170; omega⟩) hS (fun w13 E14 H locs hp hle15 hR hS => ?_)
  subst hp
  refine lv_aload_n hx hb dL_plans_19 rfl (lv_at hl 2 rfl) ?_
  refine lv_iconst (v := 5) hx hb dL_plans_20 (by decide) ?_
  obtain ⟨r16, hc17, hf⟩ := g_b1_e hf
  refine g_call (va_runV (As := [.int (5 : Int32)]) (rest := [.int r10]) ⟨hx, hb, hml, hown, hts⟩ (c9_count l G E14 z11 _ _ hc17) (cwV 1 hts gL_plans_X9_count rfl rfl rfl (by decide +kernel) ⟨Nat.le_of_ble_eq_true rfl, Nat.le_of_ble_eq_true rfl⟩) (g_preV (ci := 9) hR hK (hR.2.2.2.1) rfl) rfl rfl hl.1 rfl (lv_room (Nat.le_of_ble_eq_true rfl)) dL_plans_21 ⟨by show _ ≤ 195; omega, by show _ ≤ 1170; omega⟩) hS (fun w18 H locs hp hR hS => ?_)
  subst hp
  refine lv_iadd hx hb dL_plans_24 ?_
  refine lv_topi (fun t19 et19 => ?_)
  replace hf := g_let_at hf et19
  refine lv_istore (lv' := [(4, .int t19), (3, .int r4), (2, .int r1), (0, .ref G.2.2), (1, .int p1)]) hx hb dL_plans_25 hl (by decide) rfl (fun ls hl => ?_)
  refine lv_aload_n hx hb dL_plans_27 rfl (lv_at hl 3 rfl) ?_
  refine lv_iload_n hx hb dL_plans_28 rfl (lv_at hl 2 rfl) ?_
  refine lv_iconst (v := 2) hx hb dL_plans_29 (by decide) ?_
  obtain ⟨r20, z21, hc22, hf⟩ := g_bd_e hf
  refine g_calln (va_runV (As := [.int r1, .int (2 : Int32)]) (rest := []) ⟨hx, hb, hml, hown, hts⟩ (c9_wouldPlan l G E14 z11 _ _ _ _ hc22) (cwV 2 hts gL_plans_X9_wouldPlan rfl rfl rfl (by decide +kernel) ⟨Nat.le_of_ble_eq_true rfl, Nat.le_of_ble_eq_true rfl⟩) (g_preV (ci := 9) hR hK (hR.2.2.2.1) rfl) rfl rfl hl.1 rfl (lv_room (Nat.le_of_ble_eq_true rfl)) dL_plans_30 ⟨by show _ ≤ 195; omega, by show _ ≤ 1170; omega⟩) hS (fun w23 E24 H locs hp hle25 hR hS => ?_)
  subst hp
  refine lv_aload_n hx hb dL_plans_33 rfl (lv_at hl 3 rfl) ?_
  refine lv_bipush (v := 8) hx hb dL_plans_34 (by decide) ?_
  obtain ⟨r26, hc27, hf⟩ := g_b1_e hf
  refine g_call (va_runV (As := [.int (8 : Int32)]) (rest := [.int r20]) ⟨hx, hb, hml, hown, hts⟩ (c9_count l G E24 z21 _ _ hc27) (cwV 1 hts gL_plans_X9_count rfl rfl rfl (by decide +kernel) ⟨Nat.le_of_ble_eq_true rfl, Nat.le_of_ble_eq_true rfl⟩) (g_preV (ci := 9) hR hK (hR.2.2.2.1) rfl) rfl rfl hl.1 rfl (lv_room (Nat.le_of_ble_eq_true rfl)) dL_plans_36 ⟨by show _ ≤ 195; omega, by show _ ≤ 1170; omega⟩) hS (fun w28 H locs hp hR hS => ?_)
  subst hp
  refine lv_iadd hx hb dL_plans_39 ?_
  refine lv_topi (fun t29 et29 => ?_)
  replace hf := g_let_at hf et29
  refine lv_istore (lv' := [(5, .int t29), (4, .int t19), (3, .int r4), (2, .int r1), (0, .ref G.2.2), (1, .int p1)]) hx hb dL_plans_40 hl (by decide) rfl (fun ls hl => ?_)
  refine lv_aload_n hx hb dL_plans_42 rfl (lv_at hl 4 rfl) ?_
  refine lv_iload_n hx hb dL_plans_43 rfl (lv_at hl 3 rfl) ?_
  refine lv_iconst (v := 3) hx hb dL_plans_44 (by decide) ?_
  obtain ⟨r30, z31, hc32, hf⟩ := g_bd_e hf
  refine g_calln (va_runV (As := [.int r1, .int (3 : Int32)]) (rest := []) ⟨hx, hb, hml, hown, hts⟩ (c9_wouldPlan l G E24 z21 _ _ _ _ hc32) (cwV 2 hts gL_plans_X9_wouldPlan rfl rfl rfl (by decide +kernel) ⟨Nat.le_of_ble_eq_true rfl, Nat.le_of_ble_eq_true rfl⟩) (g_preV (ci := 9) hR hK (hR.2.2.2.1) rfl) rfl rfl hl.1 rfl (lv_room (Nat.le_of_ble_eq_true rfl)) dL_plans_45 ⟨by show _ ≤ 195; omega, by show _ ≤ 1170; omega⟩) hS (fun w33 E34 H locs hp hle35 hR hS => ?_)
  subst hp
  refine lv_aload_n hx hb dL_plans_48 rfl (lv_at hl 4 rfl) ?_
  refine lv_bipush (v := 6) hx hb dL_plans_49 (by decide) ?_
  obtain ⟨r36, hc37, hf⟩ := g_b1_e hf
  refine g_call (va_runV (As := [.int (6 : Int32)]) (rest := [.int r30]) ⟨hx, hb, hml, hown, hts⟩ (c9_count l G E34 z31 _ _ hc37) (cwV 1 hts gL_plans_X9_count rfl rfl rfl (by decide +kernel) ⟨Nat.le_of_ble_eq_true rfl, Nat.le_of_ble_eq_true rfl⟩) (g_preV (ci := 9) hR hK (hR.2.2.2.1) rfl) rfl rfl hl.1 rfl (lv_room (Nat.le_of_ble_eq_true rfl)) dL_plans_51 ⟨by show _ ≤ 195; omega, by show _ ≤ 1170; omega⟩) hS (fun w38 H locs hp hR hS => ?_)
  subst hp
  refine lv_iadd hx hb dL_plans_54 ?_
  refine lv_topi (fun t39 et39 => ?_)
  replace hf := g_let_at hf et39
  refine lv_istore (lv' := [(6, .int t39), (5, .int t29), (4, .int t19), (3, .int r4), (2, .int r1), (0, .ref G.2.2), (1, .int p1)]) hx hb dL_plans_55 hl (by decide) rfl (fun ls hl => ?_)
  refine lv_aload_n hx hb dL_plans_57 rfl (lv_at hl 5 rfl) ?_
  refine lv_bipush (v := 10) hx hb dL_plans_58 (by decide) ?_
  obtain ⟨r40, hc41, hf⟩ := g_b1_e hf
  refine g_call (va_runV (As := [.int (10 : Int32)]) (rest := []) ⟨hx, hb, hml, hown, hts⟩ (c9_count l G E34 z31 _ _ hc41) (cwV 1 hts gL_plans_X9_count rfl rfl rfl (by decide +kernel) ⟨Nat.le_of_ble_eq_true rfl, Nat.le_of_ble_eq_true rfl⟩) (g_preV (ci := 9) hR hK (hR.2.2.2.1) rfl) rfl rfl hl.1 rfl (lv_room (Nat.le_of_ble_eq_true rfl)) dL_plans_60 ⟨by show _ ≤ 195; omega, by show _ ≤ 1170; omega⟩) hS (fun w42 H locs hp hR hS => ?_)
  subst hp
  refine lv_istore (lv' := [(7, .int r40), (6, .int t39), (5, .int t29), (4, .int t19), (3, .int r4), (2, .int r1), (0, .ref G.2.2), (1, .int p1)]) hx hb dL_plans_63 hl (by decide) rfl (fun ls hl => ?_)
  refine lv_aload_n hx hb dL_plans_65 rfl (lv_at hl 6 rfl) ?_
  refine lv_iload_n hx hb dL_plans_66 rfl (lv_at hl 5 rfl) ?_
  obtain ⟨r43, z44, hc45, hf⟩ := g_bd_e hf
  refine g_calln (va_runV (As := [.int r1]) (rest := []) ⟨hx, hb, hml, hown, hts⟩ (c9_plan l G E34 z31 _ _ _ hc45) (cwV 1 hts gL_plans_X9_plan rfl rfl rfl (by decide +kernel) ⟨Nat.le_of_ble_eq_true rfl, Nat.le_of_ble_eq_true rfl⟩) (g_preV (ci := 9) hR hK (hR.2.2.2.1) rfl) rfl rfl hl.1 rfl (lv_room (Nat.le_of_ble_eq_true rfl)) dL_plans_67 ⟨by show _ ≤ 195; omega, by show _ ≤ 1170; omega⟩) hS (fun w46 E47 H locs hp hle48 hR hS => ?_)
  subst hp
  refine lv_istore (lv' := [(8, .int r43), (7, .int r40), (6, .int t39), (5, .int t29), (4, .int t19), (3, .int r4), (2, .int r1), (0, .ref G.2.2), (1, .int p1)]) hx hb dL_plans_70 hl (by decide) rfl (fun ls hl => ?_)
  refine lv_iload hx hb dL_plans_72 (lv_at hl 1 rfl) ?_
  refine lv_if_ne (tgt := 94) hx hb dL_plans_74 (by decide) (fun c49 => ?_) (fun c49 => ?_)
  · replace hf := g_it hf c49
    refine lv_iload hx hb dL_plans_94 (lv_at hl 0 rfl) ?_
    refine lv_iload_n hx hb dL_plans_96 rfl (lv_at hl 5 rfl) ?_
    refine lv_icmp_ne (tgt := 149) hx hb dL_plans_97 (by decide) (fun c50 => ?_) (fun c50 => ?_)
    · replace hf := g_it hf c50
      refine lv_iconst (v := 0) hx hb dL_plans_149 (by decide) ?_
      obtain ⟨rfl, rfl⟩ := g_sp hf
      exact g_zret hx hb hlocks hr hS hR ((((((((((g_le.rf).tr hle9)).tr hle15)).tr hle25)).tr hle35)).tr hle48) (by decide) rfl (by omega) (by omega) dL_plans_150
    · replace hf := g_if hf (fun q => q c50)
      refine lv_aload_n hx hb dL_plans_100 rfl (lv_at hl 7 rfl) ?_
      refine lv_bipush (v := 10) hx hb dL_plans_101 (by decide) ?_
      obtain ⟨r51, hc52, hf⟩ := g_b1_e hf
      refine g_call (va_runV (As := [.int (10 : Int32)]) (rest := []) ⟨hx, hb, hml, hown, hts⟩ (c9_count l G E47 z44 _ _ hc52) (cwV 1 hts gL_plans_X9_count rfl rfl rfl (by decide +kernel) ⟨Nat.le_of_ble_eq_true rfl, Nat.le_of_ble_eq_true rfl⟩) (g_preV (ci := 9) hR hK (hR.2.2.2.1) rfl) rfl rfl hl.1 rfl (lv_room (Nat.le_of_ble_eq_true rfl)) dL_plans_103 ⟨by show _ ≤ 195; omega, by show _ ≤ 1170; omega⟩) hS (fun w53 H locs hp hR hS => ?_)
      subst hp
      refine lv_iload hx hb dL_plans_106 (lv_at hl 1 rfl) ?_
      refine lv_iload_n hx hb dL_plans_108 rfl (lv_at hl 5 rfl) ?_
      refine lv_isub hx hb dL_plans_109 ?_
      refine lv_icmp_ne (tgt := 149) hx hb dL_plans_110 (by decide) (fun c54 => ?_) (fun c54 => ?_)
      · replace hf := g_it hf c54
        refine lv_iconst (v := 0) hx hb dL_plans_149 (by decide) ?_
        obtain ⟨rfl, rfl⟩ := g_sp hf
        exact g_zret hx hb hlocks hr hS hR ((((((((((g_le.rf).tr hle9)).tr hle15)).tr hle25)).tr hle35)).tr hle48) (by decide) rfl (by omega) (by omega) dL_plans_150
      · replace hf := g_if hf (fun q => q c54)
        refine lv_aload_n hx hb dL_plans_113 rfl (lv_at hl 7 rfl) ?_
        refine lv_iconst (v := 5) hx hb dL_plans_114 (by decide) ?_
        obtain ⟨r55, hc56, hf⟩ := g_b1_e hf
        refine g_call (va_runV (As := [.int (5 : Int32)]) (rest := []) ⟨hx, hb, hml, hown, hts⟩ (c9_count l G E47 z44 _ _ hc56) (cwV 1 hts gL_plans_X9_count rfl rfl rfl (by decide +kernel) ⟨Nat.le_of_ble_eq_true rfl, Nat.le_of_ble_eq_true rfl⟩) (g_preV (ci := 9) hR hK (hR.2.2.2.1) rfl) rfl rfl hl.1 rfl (lv_room (Nat.le_of_ble_eq_true rfl)) dL_plans_115 ⟨by show _ ≤ 195; omega, by show _ ≤ 1170; omega⟩) hS (fun w57 H locs hp hR hS => ?_)
        subst hp
        refine lv_iload hx hb dL_plans_118 (lv_at hl 4 rfl) ?_
        refine lv_icmp_ne (tgt := 149) hx hb dL_plans_120 (by decide) (fun c58 => ?_) (fun c58 => ?_)
        · replace hf := g_it hf c58
          refine lv_iconst (v := 0) hx hb dL_plans_149 (by decide) ?_
          obtain ⟨rfl, rfl⟩ := g_sp hf
          exact g_zret hx hb hlocks hr hS hR ((((((((((g_le.rf).tr hle9)).tr hle15)).tr hle25)).tr hle35)).tr hle48) (by decide) rfl (by omega) (by omega) dL_plans_150
        · replace hf := g_if hf (fun q => q c58)
          refine lv_aload_n hx hb dL_plans_123 rfl (lv_at hl 7 rfl) ?_
          refine lv_bipush (v := 8) hx hb dL_plans_124 (by decide) ?_
          obtain ⟨r59, hc60, hf⟩ := g_b1_e hf
          refine g_call (va_runV (As := [.int (8 : Int32)]) (rest := []) ⟨hx, hb, hml, hown, hts⟩ (c9_count l G E47 z44 _ _ hc60) (cwV 1 hts gL_plans_X9_count rfl rfl rfl (by decide +kernel) ⟨Nat.le_of_ble_eq_true rfl, Nat.le_of_ble_eq_true rfl⟩) (g_preV (ci := 9) hR hK (hR.2.2.2.1) rfl) rfl rfl hl.1 rfl (lv_room (Nat.le_of_ble_eq_true rfl)) dL_plans_126 ⟨by show _ ≤ 195; omega, by show _ ≤ 1170; omega⟩) hS (fun w61 H locs hp hR hS => ?_)
          subst hp
          refine lv_iload hx hb dL_plans_129 (lv_at hl 3 rfl) ?_
          refine lv_icmp_ne (tgt := 149) hx hb dL_plans_131 (by decide) (fun c62 => ?_) (fun c62 => ?_)
          · replace hf := g_it hf c62
            refine lv_iconst (v := 0) hx hb dL_plans_149 (by decide) ?_
            obtain ⟨rfl, rfl⟩ := g_sp hf
            exact g_zret hx hb hlocks hr hS hR ((((((((((g_le.rf).tr hle9)).tr hle15)).tr hle25)).tr hle35)).tr hle48) (by decide) rfl (by omega) (by omega) dL_plans_150
          · replace hf := g_if hf (fun q => q c62)
            refine lv_aload_n hx hb dL_plans_134 rfl (lv_at hl 7 rfl) ?_
            refine lv_bipush (v := 6) hx hb dL_plans_135 (by decide) ?_
            obtain ⟨r63, hc64, hf⟩ := g_b1_e hf
            refine g_call (va_runV (As := [.int (6 : Int32)]) (rest := []) ⟨hx, hb, hml, hown, hts⟩ (c9_count l G E47 z44 _ _ hc64) (cwV 1 hts gL_plans_X9_count rfl rfl rfl (by decide +kernel) ⟨Nat.le_of_ble_eq_true rfl, Nat.le_of_ble_eq_true rfl⟩) (g_preV (ci := 9) hR hK (hR.2.2.2.1) rfl) rfl rfl hl.1 rfl (lv_room (Nat.le_of_ble_eq_true rfl)) dL_plans_137 ⟨by show _ ≤ 195; omega, by show _ ≤ 1170; omega⟩) hS (fun w65 H locs hp hR hS => ?_)
            subst hp
            refine lv_iload hx hb dL_plans_140 (lv_at hl 2 rfl) ?_
            refine lv_icmp_ne (tgt := 149) hx hb dL_plans_142 (by decide) (fun c66 => ?_) (fun c66 => ?_)
            · replace hf := g_it hf c66
              refine lv_iconst (v := 0) hx hb dL_plans_149 (by decide) ?_
              obtain ⟨rfl, rfl⟩ := g_sp hf
              exact g_zret hx hb hlocks hr hS hR ((((((((((g_le.rf).tr hle9)).tr hle15)).tr hle25)).tr hle35)).tr hle48) (by decide) rfl (by omega) (by omega) dL_plans_150
            · replace hf := g_if hf (fun q => q c66)
              refine lv_iconst (v := 1) hx hb dL_plans_145 (by decide) ?_
              refine lv_goto (tgt := 150) hx hb dL_plans_146 (by decide) ?_
              obtain ⟨rfl, rfl⟩ := g_sp hf
              exact g_zret hx hb hlocks hr hS hR ((((((((((g_le.rf).tr hle9)).tr hle15)).tr hle25)).tr hle35)).tr hle48) (by decide) rfl (by omega) (by omega) dL_plans_150
  · replace hf := g_if hf (fun q => q c49)
    refine lv_iload hx hb dL_plans_77 (lv_at hl 0 rfl) ?_
    refine lv_bipush (v := -5) hx hb dL_plans_79 (by decide) ?_
    refine lv_icmp_ne (tgt := 92) hx hb dL_plans_81 (by decide) (fun c67 => ?_) (fun c67 => ?_)
    · replace hf := g_it hf c67
      refine lv_iconst (v := 0) hx hb dL_plans_92 (by decide) ?_
      obtain ⟨rfl, rfl⟩ := g_sp hf
      exact g_zret hx hb hlocks hr hS hR ((((((((((g_le.rf).tr hle9)).tr hle15)).tr hle25)).tr hle35)).tr hle48) (by decide) rfl (by omega) (by omega) dL_plans_93
    · replace hf := g_if hf (fun q => q c67)
      refine lv_iload_n hx hb dL_plans_84 rfl (lv_at hl 5 rfl) ?_
      refine lv_if_ne (tgt := 92) hx hb dL_plans_85 (by decide) (fun c68 => ?_) (fun c68 => ?_)
      · replace hf := g_it hf c68
        refine lv_iconst (v := 0) hx hb dL_plans_92 (by decide) ?_
        obtain ⟨rfl, rfl⟩ := g_sp hf
        exact g_zret hx hb hlocks hr hS hR ((((((((((g_le.rf).tr hle9)).tr hle15)).tr hle25)).tr hle35)).tr hle48) (by decide) rfl (by omega) (by omega) dL_plans_93
      · replace hf := g_if hf (fun q => q c68)
        refine lv_iconst (v := 1) hx hb dL_plans_88 (by decide) ?_
        refine lv_goto (tgt := 93) hx hb dL_plans_89 (by decide) ?_
        obtain ⟨rfl, rfl⟩ := g_sp hf
        exact g_zret hx hb hlocks hr hS hR ((((((((((g_le.rf).tr hle9)).tr hle15)).tr hle25)).tr hle35)).tr hle48) (by decide) rfl (by omega) (by omega) dL_plans_93
set_option maxHeartbeats 4000000 in
set_option maxRecDepth 100000 in
theorem mL_does (l : Launch) (G : gG) (E : gEn) (μ : gMu) (p1 : Int32) (p2 : Int32) (p3 : Int32) (ro : Int32) (zo : gMu) (hf : fL_does μ p1 p2 p3 = some (ro, zo)) : Met l yL_does wsL_does ({ frames := 8, cells := 201, slots := 1209, locals := 194 } : Room) (g_Pre G E μ [.ref G.2.2, .int p1, .int p2, .int p3]) (g_Q G E zo (fun E' v => v = some (.int ro))) 201 1209 (g_A G) := by
  refine Met.ofW (cc := cL_does) (maxL := 8) (ret := some .boolean) (by decide) rfl ?_
  intro p e s m args below meth c s₁ B hml hv
  obtain ⟨rfl, hR, hK⟩ := hv
  have hx := B.exec
  have hb := B.bytes
  have hr := B.returns
  have hts := atoms_spec (ws := wsL_does) B.pre
  have hown : s.vm.findClass RL = some m.cls := findClass_of_methodNamed B.named
  have hlocks := B.notSynchronized
  have hS : va_S (g_A G) s.heap s.heap [] := va_S.rf
  have hl := lv_entry ([.ref G.2.2, .int p1, .int p2, .int p3]) (n := 8) (Nat.le_of_ble_eq_true rfl)
  rw [lg_entry_eq]
  generalize (lg_sl ([.ref G.2.2, .int p1, .int p2, .int p3]) ++ List.replicate (8 - (lg_sl ([.ref G.2.2, .int p1, .int p2, .int p3])).length) Slot.unset).toArray = ls at hl ⊢
  have hl : lv_has ls 8 [(0, .ref G.2.2), (1, .int p1), (2, .int p2), (3, .int p3)] := hl
  unfold fL_does at hf
  refine lv_aload_n hx hb dL_does_0 rfl (lv_at hl 0 rfl) ?_
  refine lv_bipush (v := 9) hx hb dL_does_1 (by decide) ?_
  obtain ⟨r1, hc2, hf⟩ := g_b1_e hf
  refine g_call (va_runV (As := [.int (9 : Int32)]) (rest := []) ⟨hx, hb, hml, hown, hts⟩ (c9_count l G E μ _ _ hc2) (cwV 1 hts gL_does_X9_count rfl rfl rfl (by decide +kernel) ⟨Nat.le_of_ble_eq_true rfl, Nat.le_of_ble_eq_true rfl⟩) (g_preV (ci := 9) hR hK (hR.2.2.2.1) rfl) rfl rfl hl.1 rfl (lv_room (Nat.le_of_ble_eq_true rfl)) dL_does_3 ⟨by show _ ≤ 201; omega, by show _ ≤ 1209; omega⟩) hS (fun w3 H locs hp hR hS => ?_)
  subst hp
  refine lv_istore (lv' := [(4, .int r1), (0, .ref G.2.2), (1, .int p1), (2, .int p2), (3, .int p3)]) hx hb dL_does_6 hl (by decide) rfl (fun ls hl => ?_)
  refine lv_iload_n hx hb dL_does_8 rfl (lv_at hl 2 rfl) ?_
  refine lv_if_ne (tgt := 128) hx hb dL_does_9 (by decide) (fun c4 => ?_) (fun c4 => ?_)
  · replace hf := g_it hf c4
    refine lv_iload_n hx hb dL_does_128 rfl (lv_at hl 2 rfl) ?_
    refine lv_iconst (v := 4) hx hb dL_does_129 (by decide) ?_
    refine lv_icmp_lt (tgt := 142) hx hb dL_does_130 (by decide) (fun c5 => ?_) (fun c5 => ?_)
    · replace hf := g_it hf c5
      refine lv_aload_n hx hb dL_does_142 rfl (lv_at hl 1 rfl) ?_
      refine lv_iload_n hx hb dL_does_143 rfl (lv_at hl 3 rfl) ?_
      refine lv_iload_n hx hb dL_does_144 rfl (lv_at hl 4 rfl) ?_
      obtain ⟨r6, z7, hc8, hf⟩ := g_bd_e hf
      refine g_calln (va_runS (As := [.ref G.2.2, .int p2, .int p3]) (rest := []) ⟨hx, hb, hml, hown, hts⟩ (mL_buys l G E μ _ _ _ _ hc8) (cwS 3 hts gL_does_L_buys rfl rfl rfl (by decide +kernel) ⟨Nat.le_of_ble_eq_true rfl, Nat.le_of_ble_eq_true rfl⟩) (g_pre hR hK) rfl rfl hl.1 rfl (lv_room (Nat.le_of_ble_eq_true rfl)) dL_does_145 ⟨by show _ ≤ 201; omega, by show _ ≤ 1209; omega⟩) hS (fun w9 E10 H locs hp hle11 hR hS => ?_)
      subst hp
      obtain ⟨hz12, hf⟩ := g_gd hf
      obtain ⟨rfl, rfl⟩ := g_sp hf
      exact g_zret hx hb hlocks hr hS hR ((g_le.rf).tr hle11) hz12 rfl (by omega) (by omega) dL_does_148
    · replace hf := g_if hf c5
      refine lv_aload_n hx hb dL_does_133 rfl (lv_at hl 1 rfl) ?_
      refine lv_bipush (v := 12) hx hb dL_does_134 (by decide) ?_
      obtain ⟨r13, hc14, hf⟩ := g_b1_e hf
      refine g_call (va_runV (As := [.int (12 : Int32)]) (rest := []) ⟨hx, hb, hml, hown, hts⟩ (c9_count l G E μ _ _ hc14) (cwV 1 hts gL_does_X9_count rfl rfl rfl (by decide +kernel) ⟨Nat.le_of_ble_eq_true rfl, Nat.le_of_ble_eq_true rfl⟩) (g_preV (ci := 9) hR hK (hR.2.2.2.1) rfl) rfl rfl hl.1 rfl (lv_room (Nat.le_of_ble_eq_true rfl)) dL_does_136 ⟨by show _ ≤ 201; omega, by show _ ≤ 1209; omega⟩) hS (fun w15 H locs hp hR hS => ?_)
      subst hp
      refine lv_if_ne (tgt := 149) hx hb dL_does_139 (by decide) (fun c16 => ?_) (fun c16 => ?_)
      · replace hf := g_it hf c16
        refine lv_iload_n hx hb dL_does_149 rfl (lv_at hl 2 rfl) ?_
        refine lv_bipush (v := 7) hx hb dL_does_150 (by decide) ?_
        refine lv_icmp_lt (tgt := 160) hx hb dL_does_152 (by decide) (fun c17 => ?_) (fun c17 => ?_)
        · replace hf := g_it hf c17
          refine lv_aload_n hx hb dL_does_160 rfl (lv_at hl 1 rfl) ?_
          refine lv_iload_n hx hb dL_does_161 rfl (lv_at hl 3 rfl) ?_
          refine lv_iconst (v := 3) hx hb dL_does_162 (by decide) ?_
          obtain ⟨r18, hc19, hf⟩ := g_b1_e hf
          refine g_call (va_runS (As := [.int p2, .int (3 : Int32)]) (rest := [.ref G.2.2]) ⟨hx, hb, hml, hown, hts⟩ (mL_low l G E μ _ _ _ hc19) (cwS 2 hts gL_does_L_low rfl rfl rfl (by decide +kernel) ⟨Nat.le_of_ble_eq_true rfl, Nat.le_of_ble_eq_true rfl⟩) (g_pre hR hK) rfl rfl hl.1 rfl (lv_room (Nat.le_of_ble_eq_true rfl)) dL_does_163 ⟨by show _ ≤ 201; omega, by show _ ≤ 1209; omega⟩) hS (fun w20 H locs hp hR hS => ?_)
          subst hp
          refine lv_iconst (v := 1) hx hb dL_does_166 (by decide) ?_
          refine lv_iload_n hx hb dL_does_167 rfl (lv_at hl 3 rfl) ?_
          refine lv_iconst (v := 3) hx hb dL_does_168 (by decide) ?_
          refine lv_ishr hx hb dL_does_169 ?_
          refine lv_bipush (v := 40) hx hb dL_does_170 (by decide) ?_
          obtain ⟨r21, hc22, hf⟩ := g_b1_e hf
          refine g_call (va_runS (As := [.int (p2 >>> ((3 : Int32) &&& 31)), .int (40 : Int32)]) (rest := [.int (1 : Int32), .int r18, .ref G.2.2]) ⟨hx, hb, hml, hown, hts⟩ (mL_low l G E μ _ _ _ hc22) (cwS 2 hts gL_does_L_low rfl rfl rfl (by decide +kernel) ⟨Nat.le_of_ble_eq_true rfl, Nat.le_of_ble_eq_true rfl⟩) (g_pre hR hK) rfl rfl hl.1 rfl (lv_room (Nat.le_of_ble_eq_true rfl)) dL_does_172 ⟨by show _ ≤ 201; omega, by show _ ≤ 1209; omega⟩) hS (fun w23 H locs hp hR hS => ?_)
          subst hp
          refine lv_iadd hx hb dL_does_175 ?_
          refine lv_iconst (v := 1) hx hb dL_does_176 (by decide) ?_
          refine lv_iload_n hx hb dL_does_177 rfl (lv_at hl 4 rfl) ?_
          refine lv_bipush (v := 40) hx hb dL_does_178 (by decide) ?_
          obtain ⟨r24, hc25, hf⟩ := g_b1_e hf
          refine g_call (va_runS (As := [.int p3, .int (40 : Int32)]) (rest := [.int (1 : Int32), .int ((1 : Int32) + r21), .int r18, .ref G.2.2]) ⟨hx, hb, hml, hown, hts⟩ (mL_low l G E μ _ _ _ hc25) (cwS 2 hts gL_does_L_low rfl rfl rfl (by decide +kernel) ⟨Nat.le_of_ble_eq_true rfl, Nat.le_of_ble_eq_true rfl⟩) (g_pre hR hK) rfl rfl hl.1 rfl (lv_room (Nat.le_of_ble_eq_true rfl)) dL_does_180 ⟨by show _ ≤ 201; omega, by show _ ≤ 1209; omega⟩) hS (fun w26 H locs hp hR hS => ?_)
          subst hp
          refine lv_iadd hx hb dL_does_183 ?_
          refine lv_iload_n hx hb dL_does_184 rfl (lv_at hl 4 rfl) ?_
          refine lv_bipush (v := 7) hx hb dL_does_185 (by decide) ?_
          refine lv_ishr hx hb dL_does_187 ?_
          refine lv_bipush (v := 30) hx hb dL_does_188 (by decide) ?_
          obtain ⟨r27, hc28, hf⟩ := g_b1_e hf
          refine g_call (va_runS (As := [.int (p3 >>> ((7 : Int32) &&& 31)), .int (30 : Int32)]) (rest := [.int ((1 : Int32) + r24), .int ((1 : Int32) + r21), .int r18, .ref G.2.2]) ⟨hx, hb, hml, hown, hts⟩ (mL_low l G E μ _ _ _ hc28) (cwS 2 hts gL_does_L_low rfl rfl rfl (by decide +kernel) ⟨Nat.le_of_ble_eq_true rfl, Nat.le_of_ble_eq_true rfl⟩) (g_pre hR hK) rfl rfl hl.1 rfl (lv_room (Nat.le_of_ble_eq_true rfl)) dL_does_190 ⟨by show _ ≤ 201; omega, by show _ ≤ 1209; omega⟩) hS (fun w29 H locs hp hR hS => ?_)
          subst hp
          obtain ⟨r30, z31, hc32, hf⟩ := g_bd_e hf
          refine g_calln (va_runV (As := [.int r18, .int ((1 : Int32) + r21), .int ((1 : Int32) + r24), .int r27]) (rest := []) ⟨hx, hb, hml, hown, hts⟩ (c9_order l G E μ _ _ _ _ _ _ hc32) (cwV 4 hts gL_does_X9_order rfl rfl rfl (by decide +kernel) ⟨Nat.le_of_ble_eq_true rfl, Nat.le_of_ble_eq_true rfl⟩) (g_preV (ci := 9) hR hK (hR.2.2.2.1) rfl) rfl rfl hl.1 rfl (lv_room (Nat.le_of_ble_eq_true rfl)) dL_does_193 ⟨by show _ ≤ 201; omega, by show _ ≤ 1209; omega⟩) hS (fun w33 E34 H locs hp hle35 hR hS => ?_)
          subst hp
          refine lv_iload hx hb dL_does_196 (lv_at hl 0 rfl) ?_
          refine lv_bipush (v := 12) hx hb dL_does_198 (by decide) ?_
          refine lv_icmp_ne (tgt := 208) hx hb dL_does_200 (by decide) (fun c36 => ?_) (fun c36 => ?_)
          · replace hf := g_it hf c36
            refine lv_iload hx hb dL_does_208 (lv_at hl 0 rfl) ?_
            refine lv_icmp_ne (tgt := 217) hx hb dL_does_210 (by decide) (fun c37 => ?_) (fun c37 => ?_)
            · replace hf := g_it hf c37
              refine lv_iconst (v := 0) hx hb dL_does_217 (by decide) ?_
              obtain ⟨rfl, rfl⟩ := g_sp hf
              exact g_zret hx hb hlocks hr hS hR ((g_le.rf).tr hle35) (by decide) rfl (by omega) (by omega) dL_does_218
            · replace hf := g_if hf (fun q => q c37)
              refine lv_iconst (v := 1) hx hb dL_does_213 (by decide) ?_
              refine lv_goto (tgt := 218) hx hb dL_does_214 (by decide) ?_
              obtain ⟨rfl, rfl⟩ := g_sp hf
              exact g_zret hx hb hlocks hr hS hR ((g_le.rf).tr hle35) (by decide) rfl (by omega) (by omega) dL_does_218
          · replace hf := g_if hf (fun q => q c36)
            refine lv_bipush (v := -3) hx hb dL_does_203 (by decide) ?_
            refine lv_goto (tgt := 210) hx hb dL_does_205 (by decide) ?_
            refine lv_icmp_ne (tgt := 217) hx hb dL_does_210 (by decide) (fun c38 => ?_) (fun c38 => ?_)
            · replace hf := g_it hf c38
              refine lv_iconst (v := 0) hx hb dL_does_217 (by decide) ?_
              obtain ⟨rfl, rfl⟩ := g_sp hf
              exact g_zret hx hb hlocks hr hS hR ((g_le.rf).tr hle35) (by decide) rfl (by omega) (by omega) dL_does_218
            · replace hf := g_if hf (fun q => q c38)
              refine lv_iconst (v := 1) hx hb dL_does_213 (by decide) ?_
              refine lv_goto (tgt := 218) hx hb dL_does_214 (by decide) ?_
              obtain ⟨rfl, rfl⟩ := g_sp hf
              exact g_zret hx hb hlocks hr hS hR ((g_le.rf).tr hle35) (by decide) rfl (by omega) (by omega) dL_does_218
        · replace hf := g_if hf c17
          refine lv_iload hx hb dL_does_155 (lv_at hl 0 rfl) ?_
          refine lv_if_ne (tgt := 219) hx hb dL_does_157 (by decide) (fun c39 => ?_) (fun c39 => ?_)
          · replace hf := g_it hf c39
            refine lv_iload_n hx hb dL_does_219 rfl (lv_at hl 2 rfl) ?_
            refine lv_bipush (v := 9) hx hb dL_does_220 (by decide) ?_
            refine lv_icmp_ge (tgt := 232) hx hb dL_does_222 (by decide) (fun c40 => ?_) (fun c40 => ?_)
            · replace hf := g_it hf c40
              refine lv_iload_n hx hb dL_does_232 rfl (lv_at hl 2 rfl) ?_
              refine lv_bipush (v := 9) hx hb dL_does_233 (by decide) ?_
              refine lv_icmp_ne (tgt := 244) hx hb dL_does_235 (by decide) (fun c41 => ?_) (fun c41 => ?_)
              · replace hf := g_it hf c41
                refine lv_iload_n hx hb dL_does_244 rfl (lv_at hl 2 rfl) ?_
                refine lv_bipush (v := 12) hx hb dL_does_245 (by decide) ?_
                refine lv_icmp_ge (tgt := 257) hx hb dL_does_247 (by decide) (fun c42 => ?_) (fun c42 => ?_)
                · replace hf := g_it hf c42
                  refine lv_iload_n hx hb dL_does_257 rfl (lv_at hl 2 rfl) ?_
                  refine lv_bipush (v := 12) hx hb dL_does_258 (by decide) ?_
                  refine lv_icmp_ne (tgt := 335) hx hb dL_does_260 (by decide) (fun c43 => ?_) (fun c43 => ?_)
                  · replace hf := g_it hf c43
                    refine lv_aload_n hx hb dL_does_335 rfl (lv_at hl 1 rfl) ?_
                    refine lv_iload_n hx hb dL_does_336 rfl (lv_at hl 3 rfl) ?_
                    obtain ⟨r44, z45, hc46, hf⟩ := g_bd_e hf
                    refine g_call (va_runS (As := [.ref G.2.2, .int p2]) (rest := []) ⟨hx, hb, hml, hown, hts⟩ (mL_passes l G E μ _ _ _ hc46) (cwS 2 hts gL_does_L_passes rfl rfl rfl (by decide +kernel) ⟨Nat.le_of_ble_eq_true rfl, Nat.le_of_ble_eq_true rfl⟩) (g_pre hR hK) rfl rfl hl.1 rfl (lv_room (Nat.le_of_ble_eq_true rfl)) dL_does_337 ⟨by show _ ≤ 201; omega, by show _ ≤ 1209; omega⟩) hS (fun w47 H locs hp hR hS => ?_)
                    subst hp
                    obtain ⟨hz48, hf⟩ := g_gd hf
                    obtain ⟨rfl, rfl⟩ := g_sp hf
                    exact g_zret hx hb hlocks hr hS hR g_le.rf hz48 rfl (by omega) (by omega) dL_does_340
                  · replace hf := g_if hf (fun q => q c43)
                    refine lv_iload_n hx hb dL_does_263 rfl (lv_at hl 3 rfl) ?_
                    refine lv_iload hx hb dL_does_264 (lv_at hl 0 rfl) ?_
                    obtain ⟨r49, hc50, hf⟩ := g_b1_e hf
                    refine g_call (va_runS (As := [.int p2, .int r1]) (rest := []) ⟨hx, hb, hml, hown, hts⟩ (mL_low l G E μ _ _ _ hc50) (cwS 2 hts gL_does_L_low rfl rfl rfl (by decide +kernel) ⟨Nat.le_of_ble_eq_true rfl, Nat.le_of_ble_eq_true rfl⟩) (g_pre hR hK) rfl rfl hl.1 rfl (lv_room (Nat.le_of_ble_eq_true rfl)) dL_does_266 ⟨by show _ ≤ 201; omega, by show _ ≤ 1209; omega⟩) hS (fun w51 H locs hp hR hS => ?_)
                    subst hp
                    refine lv_istore (lv' := [(5, .int r49), (4, .int r1), (0, .ref G.2.2), (1, .int p1), (2, .int p2), (3, .int p3)]) hx hb dL_does_269 hl (by decide) rfl (fun ls hl => ?_)
                    refine lv_aload_n hx hb dL_does_271 rfl (lv_at hl 2 rfl) ?_
                    refine lv_bipush (v := 10) hx hb dL_does_272 (by decide) ?_
                    obtain ⟨r52, hc53, hf⟩ := g_b1_e hf
                    refine g_call (va_runV (As := [.int (10 : Int32)]) (rest := []) ⟨hx, hb, hml, hown, hts⟩ (c9_count l G E μ _ _ hc53) (cwV 1 hts gL_does_X9_count rfl rfl rfl (by decide +kernel) ⟨Nat.le_of_ble_eq_true rfl, Nat.le_of_ble_eq_true rfl⟩) (g_preV (ci := 9) hR hK (hR.2.2.2.1) rfl) rfl rfl hl.1 rfl (lv_room (Nat.le_of_ble_eq_true rfl)) dL_does_274 ⟨by show _ ≤ 201; omega, by show _ ≤ 1209; omega⟩) hS (fun w54 H locs hp hR hS => ?_)
                    subst hp
                    refine lv_istore (lv' := [(6, .int r52), (5, .int r49), (4, .int r1), (0, .ref G.2.2), (1, .int p1), (2, .int p2), (3, .int p3)]) hx hb dL_does_277 hl (by decide) rfl (fun ls hl => ?_)
                    refine lv_aload_n hx hb dL_does_279 rfl (lv_at hl 3 rfl) ?_
                    refine lv_iload hx hb dL_does_280 (lv_at hl 1 rfl) ?_
                    refine lv_iconst (v := 4) hx hb dL_does_282 (by decide) ?_
                    obtain ⟨r55, hc56, hf⟩ := g_b1_e hf
                    refine g_call (va_runV (As := [.int r49, .int (4 : Int32)]) (rest := []) ⟨hx, hb, hml, hown, hts⟩ (c9_ordered l G E μ _ _ _ hc56) (cwV 2 hts gL_does_X9_ordered rfl rfl rfl (by decide +kernel) ⟨Nat.le_of_ble_eq_true rfl, Nat.le_of_ble_eq_true rfl⟩) (g_preV (ci := 9) hR hK (hR.2.2.2.1) rfl) rfl rfl hl.1 rfl (lv_room (Nat.le_of_ble_eq_true rfl)) dL_does_283 ⟨by show _ ≤ 201; omega, by show _ ≤ 1209; omega⟩) hS (fun w57 H locs hp hR hS => ?_)
                    subst hp
                    refine lv_if_ne (tgt := 293) hx hb dL_does_286 (by decide) (fun c58 => ?_) (fun c58 => ?_)
                    · replace hf := g_it hf c58
                      refine lv_iconst (v := 0) hx hb dL_does_293 (by decide) ?_
                      refine lv_istore (lv' := [(7, .int (0 : Int32)), (6, .int r52), (5, .int r49), (4, .int r1), (0, .ref G.2.2), (1, .int p1), (2, .int p2), (3, .int p3)]) hx hb dL_does_294 hl (by decide) rfl (fun ls hl => ?_)
                      refine lv_aload_n hx hb dL_does_296 rfl (lv_at hl 4 rfl) ?_
                      refine lv_iload hx hb dL_does_297 (lv_at hl 2 rfl) ?_
                      obtain ⟨r59, z60, hc61, hf⟩ := g_bd_e hf
                      refine g_calln (va_runV (As := [.int r49]) (rest := []) ⟨hx, hb, hml, hown, hts⟩ (c9_cancel l G E μ _ _ _ hc61) (cwV 1 hts gL_does_X9_cancel rfl rfl rfl (by decide +kernel) ⟨Nat.le_of_ble_eq_true rfl, Nat.le_of_ble_eq_true rfl⟩) (g_preV (ci := 9) hR hK (hR.2.2.2.1) rfl) rfl rfl hl.1 rfl (lv_room (Nat.le_of_ble_eq_true rfl)) dL_does_299 ⟨by show _ ≤ 201; omega, by show _ ≤ 1209; omega⟩) hS (fun w62 E63 H locs hp hle64 hR hS => ?_)
                      subst hp
                      refine lv_iload hx hb dL_does_302 (lv_at hl 0 rfl) ?_
                      refine lv_if_eq (tgt := 314) hx hb dL_does_304 (by decide) (fun _ => ?_) (fun c65 => absurd (by decide) c65)
                      refine lv_bipush (v := -4) hx hb dL_does_314 (by decide) ?_
                      refine lv_icmp_ne (tgt := 333) hx hb dL_does_316 (by decide) (fun c66 => ?_) (fun c66 => ?_)
                      · replace hf := g_it hf c66
                        refine lv_iconst (v := 0) hx hb dL_does_333 (by decide) ?_
                        obtain ⟨rfl, rfl⟩ := g_sp hf
                        exact g_zret hx hb hlocks hr hS hR ((g_le.rf).tr hle64) (by decide) rfl (by omega) (by omega) dL_does_334
                      · replace hf := g_if hf (fun q => q c66)
                        refine lv_aload_n hx hb dL_does_319 rfl (lv_at hl 4 rfl) ?_
                        refine lv_iload hx hb dL_does_320 (lv_at hl 2 rfl) ?_
                        refine lv_iconst (v := 4) hx hb dL_does_322 (by decide) ?_
                        obtain ⟨r67, hc68, hf⟩ := g_b1_e hf
                        refine g_call (va_runV (As := [.int r49, .int (4 : Int32)]) (rest := []) ⟨hx, hb, hml, hown, hts⟩ (c9_ordered l G E63 z60 _ _ _ hc68) (cwV 2 hts gL_does_X9_ordered rfl rfl rfl (by decide +kernel) ⟨Nat.le_of_ble_eq_true rfl, Nat.le_of_ble_eq_true rfl⟩) (g_preV (ci := 9) hR hK (hR.2.2.2.1) rfl) rfl rfl hl.1 rfl (lv_room (Nat.le_of_ble_eq_true rfl)) dL_does_323 ⟨by show _ ≤ 201; omega, by show _ ≤ 1209; omega⟩) hS (fun w69 H locs hp hR hS => ?_)
                        subst hp
                        refine lv_if_eq (tgt := 333) hx hb dL_does_326 (by decide) (fun c70 => ?_) (fun c70 => ?_)
                        · replace hf := g_it hf c70
                          refine lv_iconst (v := 0) hx hb dL_does_333 (by decide) ?_
                          obtain ⟨rfl, rfl⟩ := g_sp hf
                          exact g_zret hx hb hlocks hr hS hR ((g_le.rf).tr hle64) (by decide) rfl (by omega) (by omega) dL_does_334
                        · replace hf := g_if hf c70
                          refine lv_iconst (v := 1) hx hb dL_does_329 (by decide) ?_
                          refine lv_goto (tgt := 334) hx hb dL_does_330 (by decide) ?_
                          obtain ⟨rfl, rfl⟩ := g_sp hf
                          exact g_zret hx hb hlocks hr hS hR ((g_le.rf).tr hle64) (by decide) rfl (by omega) (by omega) dL_does_334
                    · replace hf := g_if hf (fun q => q c58)
                      refine lv_iconst (v := 1) hx hb dL_does_289 (by decide) ?_
                      refine lv_goto (tgt := 294) hx hb dL_does_290 (by decide) ?_
                      refine lv_istore (lv' := [(7, .int (1 : Int32)), (6, .int r52), (5, .int r49), (4, .int r1), (0, .ref G.2.2), (1, .int p1), (2, .int p2), (3, .int p3)]) hx hb dL_does_294 hl (by decide) rfl (fun ls hl => ?_)
                      refine lv_aload_n hx hb dL_does_296 rfl (lv_at hl 4 rfl) ?_
                      refine lv_iload hx hb dL_does_297 (lv_at hl 2 rfl) ?_
                      obtain ⟨r71, z72, hc73, hf⟩ := g_bd_e hf
                      refine g_calln (va_runV (As := [.int r49]) (rest := []) ⟨hx, hb, hml, hown, hts⟩ (c9_cancel l G E μ _ _ _ hc73) (cwV 1 hts gL_does_X9_cancel rfl rfl rfl (by decide +kernel) ⟨Nat.le_of_ble_eq_true rfl, Nat.le_of_ble_eq_true rfl⟩) (g_preV (ci := 9) hR hK (hR.2.2.2.1) rfl) rfl rfl hl.1 rfl (lv_room (Nat.le_of_ble_eq_true rfl)) dL_does_299 ⟨by show _ ≤ 201; omega, by show _ ≤ 1209; omega⟩) hS (fun w74 E75 H locs hp hle76 hR hS => ?_)
                      subst hp
                      refine lv_iload hx hb dL_does_302 (lv_at hl 0 rfl) ?_
                      refine lv_if_eq (tgt := 314) hx hb dL_does_304 (by decide) (fun c77 => absurd c77 (by decide)) (fun _ => ?_)
                      refine lv_iload hx hb dL_does_307 (lv_at hl 1 rfl) ?_
                      refine lv_iconst (v := 1) hx hb dL_does_309 (by decide) ?_
                      refine lv_isub hx hb dL_does_310 ?_
                      refine lv_goto (tgt := 316) hx hb dL_does_311 (by decide) ?_
                      refine lv_icmp_ne (tgt := 333) hx hb dL_does_316 (by decide) (fun c78 => ?_) (fun c78 => ?_)
                      · replace hf := g_it hf c78
                        refine lv_iconst (v := 0) hx hb dL_does_333 (by decide) ?_
                        obtain ⟨rfl, rfl⟩ := g_sp hf
                        exact g_zret hx hb hlocks hr hS hR ((g_le.rf).tr hle76) (by decide) rfl (by omega) (by omega) dL_does_334
                      · replace hf := g_if hf (fun q => q c78)
                        refine lv_aload_n hx hb dL_does_319 rfl (lv_at hl 4 rfl) ?_
                        refine lv_iload hx hb dL_does_320 (lv_at hl 2 rfl) ?_
                        refine lv_iconst (v := 4) hx hb dL_does_322 (by decide) ?_
                        obtain ⟨r79, hc80, hf⟩ := g_b1_e hf
                        refine g_call (va_runV (As := [.int r49, .int (4 : Int32)]) (rest := []) ⟨hx, hb, hml, hown, hts⟩ (c9_ordered l G E75 z72 _ _ _ hc80) (cwV 2 hts gL_does_X9_ordered rfl rfl rfl (by decide +kernel) ⟨Nat.le_of_ble_eq_true rfl, Nat.le_of_ble_eq_true rfl⟩) (g_preV (ci := 9) hR hK (hR.2.2.2.1) rfl) rfl rfl hl.1 rfl (lv_room (Nat.le_of_ble_eq_true rfl)) dL_does_323 ⟨by show _ ≤ 201; omega, by show _ ≤ 1209; omega⟩) hS (fun w81 H locs hp hR hS => ?_)
                        subst hp
                        refine lv_if_eq (tgt := 333) hx hb dL_does_326 (by decide) (fun c82 => ?_) (fun c82 => ?_)
                        · replace hf := g_it hf c82
                          refine lv_iconst (v := 0) hx hb dL_does_333 (by decide) ?_
                          obtain ⟨rfl, rfl⟩ := g_sp hf
                          exact g_zret hx hb hlocks hr hS hR ((g_le.rf).tr hle76) (by decide) rfl (by omega) (by omega) dL_does_334
                        · replace hf := g_if hf c82
                          refine lv_iconst (v := 1) hx hb dL_does_329 (by decide) ?_
                          refine lv_goto (tgt := 334) hx hb dL_does_330 (by decide) ?_
                          obtain ⟨rfl, rfl⟩ := g_sp hf
                          exact g_zret hx hb hlocks hr hS hR ((g_le.rf).tr hle76) (by decide) rfl (by omega) (by omega) dL_does_334
                · replace hf := g_if hf c42
                  refine lv_aload_n hx hb dL_does_250 rfl (lv_at hl 1 rfl) ?_
                  refine lv_iload_n hx hb dL_does_251 rfl (lv_at hl 3 rfl) ?_
                  refine lv_iload_n hx hb dL_does_252 rfl (lv_at hl 4 rfl) ?_
                  obtain ⟨r83, z84, hc85, hf⟩ := g_bd_e hf
                  refine g_call (va_runS (As := [.ref G.2.2, .int p2, .int p3]) (rest := []) ⟨hx, hb, hml, hown, hts⟩ (mL_moves l G E μ _ _ _ _ hc85) (cwS 3 hts gL_does_L_moves rfl rfl rfl (by decide +kernel) ⟨Nat.le_of_ble_eq_true rfl, Nat.le_of_ble_eq_true rfl⟩) (g_pre hR hK) rfl rfl hl.1 rfl (lv_room (Nat.le_of_ble_eq_true rfl)) dL_does_253 ⟨by show _ ≤ 201; omega, by show _ ≤ 1209; omega⟩) hS (fun w86 H locs hp hR hS => ?_)
                  subst hp
                  obtain ⟨hz87, hf⟩ := g_gd hf
                  obtain ⟨rfl, rfl⟩ := g_sp hf
                  exact g_zret hx hb hlocks hr hS hR g_le.rf hz87 rfl (by omega) (by omega) dL_does_256
              · replace hf := g_if hf (fun q => q c41)
                refine lv_aload_n hx hb dL_does_238 rfl (lv_at hl 1 rfl) ?_
                refine lv_iload_n hx hb dL_does_239 rfl (lv_at hl 3 rfl) ?_
                obtain ⟨r88, z89, hc90, hf⟩ := g_bd_e hf
                refine g_calln (va_runS (As := [.ref G.2.2, .int p2]) (rest := []) ⟨hx, hb, hml, hown, hts⟩ (mL_plans l G E μ _ _ _ hc90) (cwS 2 hts gL_does_L_plans rfl rfl rfl (by decide +kernel) ⟨Nat.le_of_ble_eq_true rfl, Nat.le_of_ble_eq_true rfl⟩) (g_pre hR hK) rfl rfl hl.1 rfl (lv_room (Nat.le_of_ble_eq_true rfl)) dL_does_240 ⟨by show _ ≤ 201; omega, by show _ ≤ 1209; omega⟩) hS (fun w91 E92 H locs hp hle93 hR hS => ?_)
                subst hp
                obtain ⟨hz94, hf⟩ := g_gd hf
                obtain ⟨rfl, rfl⟩ := g_sp hf
                exact g_zret hx hb hlocks hr hS hR ((g_le.rf).tr hle93) hz94 rfl (by omega) (by omega) dL_does_243
            · replace hf := g_if hf c40
              refine lv_aload_n hx hb dL_does_225 rfl (lv_at hl 1 rfl) ?_
              refine lv_iload_n hx hb dL_does_226 rfl (lv_at hl 3 rfl) ?_
              refine lv_iload_n hx hb dL_does_227 rfl (lv_at hl 4 rfl) ?_
              obtain ⟨r95, z96, hc97, hf⟩ := g_bd_e hf
              refine g_calln (va_runS (As := [.ref G.2.2, .int p2, .int p3]) (rest := []) ⟨hx, hb, hml, hown, hts⟩ (mL_cuts l G E μ _ _ _ _ hc97) (cwS 3 hts gL_does_L_cuts rfl rfl rfl (by decide +kernel) ⟨Nat.le_of_ble_eq_true rfl, Nat.le_of_ble_eq_true rfl⟩) (g_pre hR hK) rfl rfl hl.1 rfl (lv_room (Nat.le_of_ble_eq_true rfl)) dL_does_228 ⟨by show _ ≤ 201; omega, by show _ ≤ 1209; omega⟩) hS (fun w98 E99 H locs hp hle100 hR hS => ?_)
              subst hp
              obtain ⟨hz101, hf⟩ := g_gd hf
              obtain ⟨rfl, rfl⟩ := g_sp hf
              exact g_zret hx hb hlocks hr hS hR ((g_le.rf).tr hle100) hz101 rfl (by omega) (by omega) dL_does_231
          · replace hf := g_if hf (fun q => q c39)
            refine lv_aload_n hx hb dL_does_160 rfl (lv_at hl 1 rfl) ?_
            refine lv_iload_n hx hb dL_does_161 rfl (lv_at hl 3 rfl) ?_
            refine lv_iconst (v := 3) hx hb dL_does_162 (by decide) ?_
            obtain ⟨r102, hc103, hf⟩ := g_b1_e hf
            refine g_call (va_runS (As := [.int p2, .int (3 : Int32)]) (rest := [.ref G.2.2]) ⟨hx, hb, hml, hown, hts⟩ (mL_low l G E μ _ _ _ hc103) (cwS 2 hts gL_does_L_low rfl rfl rfl (by decide +kernel) ⟨Nat.le_of_ble_eq_true rfl, Nat.le_of_ble_eq_true rfl⟩) (g_pre hR hK) rfl rfl hl.1 rfl (lv_room (Nat.le_of_ble_eq_true rfl)) dL_does_163 ⟨by show _ ≤ 201; omega, by show _ ≤ 1209; omega⟩) hS (fun w104 H locs hp hR hS => ?_)
            subst hp
            refine lv_iconst (v := 1) hx hb dL_does_166 (by decide) ?_
            refine lv_iload_n hx hb dL_does_167 rfl (lv_at hl 3 rfl) ?_
            refine lv_iconst (v := 3) hx hb dL_does_168 (by decide) ?_
            refine lv_ishr hx hb dL_does_169 ?_
            refine lv_bipush (v := 40) hx hb dL_does_170 (by decide) ?_
            obtain ⟨r105, hc106, hf⟩ := g_b1_e hf
            refine g_call (va_runS (As := [.int (p2 >>> ((3 : Int32) &&& 31)), .int (40 : Int32)]) (rest := [.int (1 : Int32), .int r102, .ref G.2.2]) ⟨hx, hb, hml, hown, hts⟩ (mL_low l G E μ _ _ _ hc106) (cwS 2 hts gL_does_L_low rfl rfl rfl (by decide +kernel) ⟨Nat.le_of_ble_eq_true rfl, Nat.le_of_ble_eq_true rfl⟩) (g_pre hR hK) rfl rfl hl.1 rfl (lv_room (Nat.le_of_ble_eq_true rfl)) dL_does_172 ⟨by show _ ≤ 201; omega, by show _ ≤ 1209; omega⟩) hS (fun w107 H locs hp hR hS => ?_)
            subst hp
            refine lv_iadd hx hb dL_does_175 ?_
            refine lv_iconst (v := 1) hx hb dL_does_176 (by decide) ?_
            refine lv_iload_n hx hb dL_does_177 rfl (lv_at hl 4 rfl) ?_
            refine lv_bipush (v := 40) hx hb dL_does_178 (by decide) ?_
            obtain ⟨r108, hc109, hf⟩ := g_b1_e hf
            refine g_call (va_runS (As := [.int p3, .int (40 : Int32)]) (rest := [.int (1 : Int32), .int ((1 : Int32) + r105), .int r102, .ref G.2.2]) ⟨hx, hb, hml, hown, hts⟩ (mL_low l G E μ _ _ _ hc109) (cwS 2 hts gL_does_L_low rfl rfl rfl (by decide +kernel) ⟨Nat.le_of_ble_eq_true rfl, Nat.le_of_ble_eq_true rfl⟩) (g_pre hR hK) rfl rfl hl.1 rfl (lv_room (Nat.le_of_ble_eq_true rfl)) dL_does_180 ⟨by show _ ≤ 201; omega, by show _ ≤ 1209; omega⟩) hS (fun w110 H locs hp hR hS => ?_)
            subst hp
            refine lv_iadd hx hb dL_does_183 ?_
            refine lv_iload_n hx hb dL_does_184 rfl (lv_at hl 4 rfl) ?_
            refine lv_bipush (v := 7) hx hb dL_does_185 (by decide) ?_
            refine lv_ishr hx hb dL_does_187 ?_
            refine lv_bipush (v := 30) hx hb dL_does_188 (by decide) ?_
            obtain ⟨r111, hc112, hf⟩ := g_b1_e hf
            refine g_call (va_runS (As := [.int (p3 >>> ((7 : Int32) &&& 31)), .int (30 : Int32)]) (rest := [.int ((1 : Int32) + r108), .int ((1 : Int32) + r105), .int r102, .ref G.2.2]) ⟨hx, hb, hml, hown, hts⟩ (mL_low l G E μ _ _ _ hc112) (cwS 2 hts gL_does_L_low rfl rfl rfl (by decide +kernel) ⟨Nat.le_of_ble_eq_true rfl, Nat.le_of_ble_eq_true rfl⟩) (g_pre hR hK) rfl rfl hl.1 rfl (lv_room (Nat.le_of_ble_eq_true rfl)) dL_does_190 ⟨by show _ ≤ 201; omega, by show _ ≤ 1209; omega⟩) hS (fun w113 H locs hp hR hS => ?_)
            subst hp
            obtain ⟨r114, z115, hc116, hf⟩ := g_bd_e hf
            refine g_calln (va_runV (As := [.int r102, .int ((1 : Int32) + r105), .int ((1 : Int32) + r108), .int r111]) (rest := []) ⟨hx, hb, hml, hown, hts⟩ (c9_order l G E μ _ _ _ _ _ _ hc116) (cwV 4 hts gL_does_X9_order rfl rfl rfl (by decide +kernel) ⟨Nat.le_of_ble_eq_true rfl, Nat.le_of_ble_eq_true rfl⟩) (g_preV (ci := 9) hR hK (hR.2.2.2.1) rfl) rfl rfl hl.1 rfl (lv_room (Nat.le_of_ble_eq_true rfl)) dL_does_193 ⟨by show _ ≤ 201; omega, by show _ ≤ 1209; omega⟩) hS (fun w117 E118 H locs hp hle119 hR hS => ?_)
            subst hp
            refine lv_iload hx hb dL_does_196 (lv_at hl 0 rfl) ?_
            refine lv_bipush (v := 12) hx hb dL_does_198 (by decide) ?_
            refine lv_icmp_ne (tgt := 208) hx hb dL_does_200 (by decide) (fun _ => ?_) (fun c120 => absurd c120 (fun q => absurd ((c39).symm.trans q) (by decide)))
            refine lv_iload hx hb dL_does_208 (lv_at hl 0 rfl) ?_
            refine lv_icmp_ne (tgt := 217) hx hb dL_does_210 (by decide) (fun c121 => ?_) (fun c121 => ?_)
            · replace hf := g_it hf c121
              refine lv_iconst (v := 0) hx hb dL_does_217 (by decide) ?_
              obtain ⟨rfl, rfl⟩ := g_sp hf
              exact g_zret hx hb hlocks hr hS hR ((g_le.rf).tr hle119) (by decide) rfl (by omega) (by omega) dL_does_218
            · replace hf := g_if hf (fun q => q c121)
              refine lv_iconst (v := 1) hx hb dL_does_213 (by decide) ?_
              refine lv_goto (tgt := 218) hx hb dL_does_214 (by decide) ?_
              obtain ⟨rfl, rfl⟩ := g_sp hf
              exact g_zret hx hb hlocks hr hS hR ((g_le.rf).tr hle119) (by decide) rfl (by omega) (by omega) dL_does_218
      · replace hf := g_if hf (fun q => q c16)
        refine lv_aload_n hx hb dL_does_142 rfl (lv_at hl 1 rfl) ?_
        refine lv_iload_n hx hb dL_does_143 rfl (lv_at hl 3 rfl) ?_
        refine lv_iload_n hx hb dL_does_144 rfl (lv_at hl 4 rfl) ?_
        obtain ⟨r122, z123, hc124, hf⟩ := g_bd_e hf
        refine g_calln (va_runS (As := [.ref G.2.2, .int p2, .int p3]) (rest := []) ⟨hx, hb, hml, hown, hts⟩ (mL_buys l G E μ _ _ _ _ hc124) (cwS 3 hts gL_does_L_buys rfl rfl rfl (by decide +kernel) ⟨Nat.le_of_ble_eq_true rfl, Nat.le_of_ble_eq_true rfl⟩) (g_pre hR hK) rfl rfl hl.1 rfl (lv_room (Nat.le_of_ble_eq_true rfl)) dL_does_145 ⟨by show _ ≤ 201; omega, by show _ ≤ 1209; omega⟩) hS (fun w125 E126 H locs hp hle127 hR hS => ?_)
        subst hp
        obtain ⟨hz128, hf⟩ := g_gd hf
        obtain ⟨rfl, rfl⟩ := g_sp hf
        exact g_zret hx hb hlocks hr hS hR ((g_le.rf).tr hle127) hz128 rfl (by omega) (by omega) dL_does_148
  · replace hf := g_if hf (fun q => q c4)
    refine lv_iload_n hx hb dL_does_12 rfl (lv_at hl 3 rfl) ?_
    refine lv_iconst (v := 5) hx hb dL_does_13 (by decide) ?_
    obtain ⟨r129, hc130, hf⟩ := g_b1_e hf
    refine g_call (va_runS (As := [.int p2, .int (5 : Int32)]) (rest := []) ⟨hx, hb, hml, hown, hts⟩ (mL_low l G E μ _ _ _ hc130) (cwS 2 hts gL_does_L_low rfl rfl rfl (by decide +kernel) ⟨Nat.le_of_ble_eq_true rfl, Nat.le_of_ble_eq_true rfl⟩) (g_pre hR hK) rfl rfl hl.1 rfl (lv_room (Nat.le_of_ble_eq_true rfl)) dL_does_14 ⟨by show _ ≤ 201; omega, by show _ ≤ 1209; omega⟩) hS (fun w131 H locs hp hR hS => ?_)
    subst hp
    refine lv_istore (lv' := [(5, .int r129), (4, .int r1), (0, .ref G.2.2), (1, .int p1), (2, .int p2), (3, .int p3)]) hx hb dL_does_17 hl (by decide) rfl (fun ls hl => ?_)
    refine lv_iload hx hb dL_does_19 (lv_at hl 0 rfl) ?_
    refine lv_if_ne (tgt := 33) hx hb dL_does_21 (by decide) (fun c132 => ?_) (fun c132 => ?_)
    · replace hf := g_it hf c132
      refine lv_iload hx hb dL_does_33 (lv_at hl 0 rfl) ?_
      refine lv_iconst (v := 1) hx hb dL_does_35 (by decide) ?_
      refine lv_icmp_ne (tgt := 50) hx hb dL_does_36 (by decide) (fun c133 => ?_) (fun c133 => ?_)
      · replace hf := g_it hf c133
        refine lv_iload hx hb dL_does_50 (lv_at hl 0 rfl) ?_
        refine lv_iconst (v := 3) hx hb dL_does_52 (by decide) ?_
        refine lv_icmp_ne (tgt := 65) hx hb dL_does_53 (by decide) (fun c134 => ?_) (fun c134 => ?_)
        · replace hf := g_it hf c134
          refine lv_iload_n hx hb dL_does_65 rfl (lv_at hl 5 rfl) ?_
          refine lv_iconst (v := 2) hx hb dL_does_66 (by decide) ?_
          obtain ⟨r135, hc136, hf⟩ := g_b1_e hf
          refine g_call (va_runS (As := [.int p3, .int (2 : Int32)]) (rest := []) ⟨hx, hb, hml, hown, hts⟩ (mL_low l G E μ _ _ _ hc136) (cwS 2 hts gL_does_L_low rfl rfl rfl (by decide +kernel) ⟨Nat.le_of_ble_eq_true rfl, Nat.le_of_ble_eq_true rfl⟩) (g_pre hR hK) rfl rfl hl.1 rfl (lv_room (Nat.le_of_ble_eq_true rfl)) dL_does_67 ⟨by show _ ≤ 201; omega, by show _ ≤ 1209; omega⟩) hS (fun w137 H locs hp hR hS => ?_)
          subst hp
          refine lv_istore (lv' := [(6, .int r135), (5, .int r129), (4, .int r1), (0, .ref G.2.2), (1, .int p1), (2, .int p2), (3, .int p3)]) hx hb dL_does_70 hl (by decide) rfl (fun ls hl => ?_)
          refine lv_aload_n hx hb dL_does_72 rfl (lv_at hl 3 rfl) ?_
          refine lv_bipush (v := 20) hx hb dL_does_73 (by decide) ?_
          refine lv_iload hx hb dL_does_75 (lv_at hl 1 rfl) ?_
          refine lv_iadd hx hb dL_does_77 ?_
          obtain ⟨r138, hc139, hf⟩ := g_b1_e hf
          refine g_call (va_runV (As := [.int ((20 : Int32) + r129)]) (rest := []) ⟨hx, hb, hml, hown, hts⟩ (c9_count l G E μ _ _ hc139) (cwV 1 hts gL_does_X9_count rfl rfl rfl (by decide +kernel) ⟨Nat.le_of_ble_eq_true rfl, Nat.le_of_ble_eq_true rfl⟩) (g_preV (ci := 9) hR hK (hR.2.2.2.1) rfl) rfl rfl hl.1 rfl (lv_room (Nat.le_of_ble_eq_true rfl)) dL_does_78 ⟨by show _ ≤ 201; omega, by show _ ≤ 1209; omega⟩) hS (fun w140 H locs hp hR hS => ?_)
          subst hp
          refine lv_istore (lv' := [(7, .int r138), (6, .int r135), (5, .int r129), (4, .int r1), (0, .ref G.2.2), (1, .int p1), (2, .int p2), (3, .int p3)]) hx hb dL_does_81 hl (by decide) rfl (fun ls hl => ?_)
          refine lv_aload_n hx hb dL_does_83 rfl (lv_at hl 4 rfl) ?_
          refine lv_iload hx hb dL_does_84 (lv_at hl 2 rfl) ?_
          refine lv_iload hx hb dL_does_86 (lv_at hl 1 rfl) ?_
          obtain ⟨r141, z142, hc143, hf⟩ := g_bd_e hf
          refine g_call (va_runV (As := [.int r129, .int r135]) (rest := []) ⟨hx, hb, hml, hown, hts⟩ (c9_set l G E μ _ _ _ _ hc143) (cwV 2 hts gL_does_X9_set rfl rfl rfl (by decide +kernel) ⟨Nat.le_of_ble_eq_true rfl, Nat.le_of_ble_eq_true rfl⟩) (g_preV (ci := 9) hR hK (hR.2.2.2.1) rfl) rfl rfl hl.1 rfl (lv_room (Nat.le_of_ble_eq_true rfl)) dL_does_88 ⟨by show _ ≤ 201; omega, by show _ ≤ 1209; omega⟩) hS (fun w144 H locs hp hR hS => ?_)
          subst hp
          refine lv_iload hx hb dL_does_91 (lv_at hl 0 rfl) ?_
          refine lv_iload hx hb dL_does_93 (lv_at hl 1 rfl) ?_
          refine lv_icmp_ne (tgt := 103) hx hb dL_does_95 (by decide) (fun c145 => ?_) (fun c145 => ?_)
          · replace hf := g_it hf c145
            refine lv_iload hx hb dL_does_103 (lv_at hl 0 rfl) ?_
            refine lv_icmp_ne (tgt := 126) hx hb dL_does_105 (by decide) (fun c146 => ?_) (fun c146 => ?_)
            · replace hf := g_it hf c146
              refine lv_iconst (v := 0) hx hb dL_does_126 (by decide) ?_
              obtain ⟨rfl, rfl⟩ := g_sp hf
              exact g_zret hx hb hlocks hr hS hR g_le.rf (by decide) rfl (by omega) (by omega) dL_does_127
            · replace hf := g_if hf (fun q => q c146)
              refine lv_aload_n hx hb dL_does_108 rfl (lv_at hl 4 rfl) ?_
              refine lv_bipush (v := 20) hx hb dL_does_109 (by decide) ?_
              refine lv_iload hx hb dL_does_111 (lv_at hl 2 rfl) ?_
              refine lv_iadd hx hb dL_does_113 ?_
              obtain ⟨r147, hc148, hf⟩ := g_b1_e hf
              refine g_call (va_runV (As := [.int ((20 : Int32) + r129)]) (rest := []) ⟨hx, hb, hml, hown, hts⟩ (c9_count l G E z142 _ _ hc148) (cwV 1 hts gL_does_X9_count rfl rfl rfl (by decide +kernel) ⟨Nat.le_of_ble_eq_true rfl, Nat.le_of_ble_eq_true rfl⟩) (g_preV (ci := 9) hR hK (hR.2.2.2.1) rfl) rfl rfl hl.1 rfl (lv_room (Nat.le_of_ble_eq_true rfl)) dL_does_114 ⟨by show _ ≤ 201; omega, by show _ ≤ 1209; omega⟩) hS (fun w149 H locs hp hR hS => ?_)
              subst hp
              refine lv_iload hx hb dL_does_117 (lv_at hl 1 rfl) ?_
              refine lv_icmp_ne (tgt := 126) hx hb dL_does_119 (by decide) (fun c150 => ?_) (fun c150 => ?_)
              · replace hf := g_it hf c150
                refine lv_iconst (v := 0) hx hb dL_does_126 (by decide) ?_
                obtain ⟨rfl, rfl⟩ := g_sp hf
                exact g_zret hx hb hlocks hr hS hR g_le.rf (by decide) rfl (by omega) (by omega) dL_does_127
              · replace hf := g_if hf (fun q => q c150)
                refine lv_iconst (v := 1) hx hb dL_does_122 (by decide) ?_
                refine lv_goto (tgt := 127) hx hb dL_does_123 (by decide) ?_
                obtain ⟨rfl, rfl⟩ := g_sp hf
                exact g_zret hx hb hlocks hr hS hR g_le.rf (by decide) rfl (by omega) (by omega) dL_does_127
          · replace hf := g_if hf (fun q => q c145)
            refine lv_bipush (v := -5) hx hb dL_does_98 (by decide) ?_
            refine lv_goto (tgt := 105) hx hb dL_does_100 (by decide) ?_
            refine lv_icmp_ne (tgt := 126) hx hb dL_does_105 (by decide) (fun c151 => ?_) (fun c151 => ?_)
            · replace hf := g_it hf c151
              refine lv_iconst (v := 0) hx hb dL_does_126 (by decide) ?_
              obtain ⟨rfl, rfl⟩ := g_sp hf
              exact g_zret hx hb hlocks hr hS hR g_le.rf (by decide) rfl (by omega) (by omega) dL_does_127
            · replace hf := g_if hf (fun q => q c151)
              refine lv_aload_n hx hb dL_does_108 rfl (lv_at hl 4 rfl) ?_
              refine lv_bipush (v := 20) hx hb dL_does_109 (by decide) ?_
              refine lv_iload hx hb dL_does_111 (lv_at hl 2 rfl) ?_
              refine lv_iadd hx hb dL_does_113 ?_
              obtain ⟨r152, hc153, hf⟩ := g_b1_e hf
              refine g_call (va_runV (As := [.int ((20 : Int32) + r129)]) (rest := []) ⟨hx, hb, hml, hown, hts⟩ (c9_count l G E z142 _ _ hc153) (cwV 1 hts gL_does_X9_count rfl rfl rfl (by decide +kernel) ⟨Nat.le_of_ble_eq_true rfl, Nat.le_of_ble_eq_true rfl⟩) (g_preV (ci := 9) hR hK (hR.2.2.2.1) rfl) rfl rfl hl.1 rfl (lv_room (Nat.le_of_ble_eq_true rfl)) dL_does_114 ⟨by show _ ≤ 201; omega, by show _ ≤ 1209; omega⟩) hS (fun w154 H locs hp hR hS => ?_)
              subst hp
              refine lv_iload hx hb dL_does_117 (lv_at hl 1 rfl) ?_
              refine lv_icmp_ne (tgt := 126) hx hb dL_does_119 (by decide) (fun c155 => ?_) (fun c155 => ?_)
              · replace hf := g_it hf c155
                refine lv_iconst (v := 0) hx hb dL_does_126 (by decide) ?_
                obtain ⟨rfl, rfl⟩ := g_sp hf
                exact g_zret hx hb hlocks hr hS hR g_le.rf (by decide) rfl (by omega) (by omega) dL_does_127
              · replace hf := g_if hf (fun q => q c155)
                refine lv_iconst (v := 1) hx hb dL_does_122 (by decide) ?_
                refine lv_goto (tgt := 127) hx hb dL_does_123 (by decide) ?_
                obtain ⟨rfl, rfl⟩ := g_sp hf
                exact g_zret hx hb hlocks hr hS hR g_le.rf (by decide) rfl (by omega) (by omega) dL_does_127
        · replace hf := g_if hf (fun q => q c134)
          refine lv_iload_n hx hb dL_does_56 rfl (lv_at hl 5 rfl) ?_
          refine lv_bipush (v := 9) hx hb dL_does_57 (by decide) ?_
          obtain ⟨r156, hc157, hf⟩ := g_b1_e hf
          refine g_call (va_runS (As := [.int p3, .int (9 : Int32)]) (rest := []) ⟨hx, hb, hml, hown, hts⟩ (mL_low l G E μ _ _ _ hc157) (cwS 2 hts gL_does_L_low rfl rfl rfl (by decide +kernel) ⟨Nat.le_of_ble_eq_true rfl, Nat.le_of_ble_eq_true rfl⟩) (g_pre hR hK) rfl rfl hl.1 rfl (lv_room (Nat.le_of_ble_eq_true rfl)) dL_does_59 ⟨by show _ ≤ 201; omega, by show _ ≤ 1209; omega⟩) hS (fun w158 H locs hp hR hS => ?_)
          subst hp
          refine lv_goto (tgt := 70) hx hb dL_does_62 (by decide) ?_
          refine lv_istore (lv' := [(6, .int r156), (5, .int r129), (4, .int r1), (0, .ref G.2.2), (1, .int p1), (2, .int p2), (3, .int p3)]) hx hb dL_does_70 hl (by decide) rfl (fun ls hl => ?_)
          refine lv_aload_n hx hb dL_does_72 rfl (lv_at hl 3 rfl) ?_
          refine lv_bipush (v := 20) hx hb dL_does_73 (by decide) ?_
          refine lv_iload hx hb dL_does_75 (lv_at hl 1 rfl) ?_
          refine lv_iadd hx hb dL_does_77 ?_
          obtain ⟨r159, hc160, hf⟩ := g_b1_e hf
          refine g_call (va_runV (As := [.int ((20 : Int32) + r129)]) (rest := []) ⟨hx, hb, hml, hown, hts⟩ (c9_count l G E μ _ _ hc160) (cwV 1 hts gL_does_X9_count rfl rfl rfl (by decide +kernel) ⟨Nat.le_of_ble_eq_true rfl, Nat.le_of_ble_eq_true rfl⟩) (g_preV (ci := 9) hR hK (hR.2.2.2.1) rfl) rfl rfl hl.1 rfl (lv_room (Nat.le_of_ble_eq_true rfl)) dL_does_78 ⟨by show _ ≤ 201; omega, by show _ ≤ 1209; omega⟩) hS (fun w161 H locs hp hR hS => ?_)
          subst hp
          refine lv_istore (lv' := [(7, .int r159), (6, .int r156), (5, .int r129), (4, .int r1), (0, .ref G.2.2), (1, .int p1), (2, .int p2), (3, .int p3)]) hx hb dL_does_81 hl (by decide) rfl (fun ls hl => ?_)
          refine lv_aload_n hx hb dL_does_83 rfl (lv_at hl 4 rfl) ?_
          refine lv_iload hx hb dL_does_84 (lv_at hl 2 rfl) ?_
          refine lv_iload hx hb dL_does_86 (lv_at hl 1 rfl) ?_
          obtain ⟨r162, z163, hc164, hf⟩ := g_bd_e hf
          refine g_call (va_runV (As := [.int r129, .int r156]) (rest := []) ⟨hx, hb, hml, hown, hts⟩ (c9_set l G E μ _ _ _ _ hc164) (cwV 2 hts gL_does_X9_set rfl rfl rfl (by decide +kernel) ⟨Nat.le_of_ble_eq_true rfl, Nat.le_of_ble_eq_true rfl⟩) (g_preV (ci := 9) hR hK (hR.2.2.2.1) rfl) rfl rfl hl.1 rfl (lv_room (Nat.le_of_ble_eq_true rfl)) dL_does_88 ⟨by show _ ≤ 201; omega, by show _ ≤ 1209; omega⟩) hS (fun w165 H locs hp hR hS => ?_)
          subst hp
          refine lv_iload hx hb dL_does_91 (lv_at hl 0 rfl) ?_
          refine lv_iload hx hb dL_does_93 (lv_at hl 1 rfl) ?_
          refine lv_icmp_ne (tgt := 103) hx hb dL_does_95 (by decide) (fun c166 => ?_) (fun c166 => ?_)
          · replace hf := g_it hf c166
            refine lv_iload hx hb dL_does_103 (lv_at hl 0 rfl) ?_
            refine lv_icmp_ne (tgt := 126) hx hb dL_does_105 (by decide) (fun c167 => ?_) (fun c167 => ?_)
            · replace hf := g_it hf c167
              refine lv_iconst (v := 0) hx hb dL_does_126 (by decide) ?_
              obtain ⟨rfl, rfl⟩ := g_sp hf
              exact g_zret hx hb hlocks hr hS hR g_le.rf (by decide) rfl (by omega) (by omega) dL_does_127
            · replace hf := g_if hf (fun q => q c167)
              refine lv_aload_n hx hb dL_does_108 rfl (lv_at hl 4 rfl) ?_
              refine lv_bipush (v := 20) hx hb dL_does_109 (by decide) ?_
              refine lv_iload hx hb dL_does_111 (lv_at hl 2 rfl) ?_
              refine lv_iadd hx hb dL_does_113 ?_
              obtain ⟨r168, hc169, hf⟩ := g_b1_e hf
              refine g_call (va_runV (As := [.int ((20 : Int32) + r129)]) (rest := []) ⟨hx, hb, hml, hown, hts⟩ (c9_count l G E z163 _ _ hc169) (cwV 1 hts gL_does_X9_count rfl rfl rfl (by decide +kernel) ⟨Nat.le_of_ble_eq_true rfl, Nat.le_of_ble_eq_true rfl⟩) (g_preV (ci := 9) hR hK (hR.2.2.2.1) rfl) rfl rfl hl.1 rfl (lv_room (Nat.le_of_ble_eq_true rfl)) dL_does_114 ⟨by show _ ≤ 201; omega, by show _ ≤ 1209; omega⟩) hS (fun w170 H locs hp hR hS => ?_)
              subst hp
              refine lv_iload hx hb dL_does_117 (lv_at hl 1 rfl) ?_
              refine lv_icmp_ne (tgt := 126) hx hb dL_does_119 (by decide) (fun c171 => ?_) (fun c171 => ?_)
              · replace hf := g_it hf c171
                refine lv_iconst (v := 0) hx hb dL_does_126 (by decide) ?_
                obtain ⟨rfl, rfl⟩ := g_sp hf
                exact g_zret hx hb hlocks hr hS hR g_le.rf (by decide) rfl (by omega) (by omega) dL_does_127
              · replace hf := g_if hf (fun q => q c171)
                refine lv_iconst (v := 1) hx hb dL_does_122 (by decide) ?_
                refine lv_goto (tgt := 127) hx hb dL_does_123 (by decide) ?_
                obtain ⟨rfl, rfl⟩ := g_sp hf
                exact g_zret hx hb hlocks hr hS hR g_le.rf (by decide) rfl (by omega) (by omega) dL_does_127
          · replace hf := g_if hf (fun q => q c166)
            refine lv_bipush (v := -5) hx hb dL_does_98 (by decide) ?_
            refine lv_goto (tgt := 105) hx hb dL_does_100 (by decide) ?_
            refine lv_icmp_ne (tgt := 126) hx hb dL_does_105 (by decide) (fun c172 => ?_) (fun c172 => ?_)
            · replace hf := g_it hf c172
              refine lv_iconst (v := 0) hx hb dL_does_126 (by decide) ?_
              obtain ⟨rfl, rfl⟩ := g_sp hf
              exact g_zret hx hb hlocks hr hS hR g_le.rf (by decide) rfl (by omega) (by omega) dL_does_127
            · replace hf := g_if hf (fun q => q c172)
              refine lv_aload_n hx hb dL_does_108 rfl (lv_at hl 4 rfl) ?_
              refine lv_bipush (v := 20) hx hb dL_does_109 (by decide) ?_
              refine lv_iload hx hb dL_does_111 (lv_at hl 2 rfl) ?_
              refine lv_iadd hx hb dL_does_113 ?_
              obtain ⟨r173, hc174, hf⟩ := g_b1_e hf
              refine g_call (va_runV (As := [.int ((20 : Int32) + r129)]) (rest := []) ⟨hx, hb, hml, hown, hts⟩ (c9_count l G E z163 _ _ hc174) (cwV 1 hts gL_does_X9_count rfl rfl rfl (by decide +kernel) ⟨Nat.le_of_ble_eq_true rfl, Nat.le_of_ble_eq_true rfl⟩) (g_preV (ci := 9) hR hK (hR.2.2.2.1) rfl) rfl rfl hl.1 rfl (lv_room (Nat.le_of_ble_eq_true rfl)) dL_does_114 ⟨by show _ ≤ 201; omega, by show _ ≤ 1209; omega⟩) hS (fun w175 H locs hp hR hS => ?_)
              subst hp
              refine lv_iload hx hb dL_does_117 (lv_at hl 1 rfl) ?_
              refine lv_icmp_ne (tgt := 126) hx hb dL_does_119 (by decide) (fun c176 => ?_) (fun c176 => ?_)
              · replace hf := g_it hf c176
                refine lv_iconst (v := 0) hx hb dL_does_126 (by decide) ?_
                obtain ⟨rfl, rfl⟩ := g_sp hf
                exact g_zret hx hb hlocks hr hS hR g_le.rf (by decide) rfl (by omega) (by omega) dL_does_127
              · replace hf := g_if hf (fun q => q c176)
                refine lv_iconst (v := 1) hx hb dL_does_122 (by decide) ?_
                refine lv_goto (tgt := 127) hx hb dL_does_123 (by decide) ?_
                obtain ⟨rfl, rfl⟩ := g_sp hf
                exact g_zret hx hb hlocks hr hS hR g_le.rf (by decide) rfl (by omega) (by omega) dL_does_127
      · replace hf := g_if hf (fun q => q c133)
        refine lv_iconst (v := 1) hx hb dL_does_39 (by decide) ?_
        refine lv_iload_n hx hb dL_does_40 rfl (lv_at hl 5 rfl) ?_
        refine lv_bipush (v := 20) hx hb dL_does_41 (by decide) ?_
        obtain ⟨r177, hc178, hf⟩ := g_b1_e hf
        refine g_call (va_runS (As := [.int p3, .int (20 : Int32)]) (rest := [.int (1 : Int32)]) ⟨hx, hb, hml, hown, hts⟩ (mL_low l G E μ _ _ _ hc178) (cwS 2 hts gL_does_L_low rfl rfl rfl (by decide +kernel) ⟨Nat.le_of_ble_eq_true rfl, Nat.le_of_ble_eq_true rfl⟩) (g_pre hR hK) rfl rfl hl.1 rfl (lv_room (Nat.le_of_ble_eq_true rfl)) dL_does_43 ⟨by show _ ≤ 201; omega, by show _ ≤ 1209; omega⟩) hS (fun w179 H locs hp hR hS => ?_)
        subst hp
        refine lv_iadd hx hb dL_does_46 ?_
        refine lv_goto (tgt := 70) hx hb dL_does_47 (by decide) ?_
        refine lv_topi (fun t180 et180 => ?_)
        replace hf := g_let_at hf et180
        refine lv_istore (lv' := [(6, .int t180), (5, .int r129), (4, .int r1), (0, .ref G.2.2), (1, .int p1), (2, .int p2), (3, .int p3)]) hx hb dL_does_70 hl (by decide) rfl (fun ls hl => ?_)
        refine lv_aload_n hx hb dL_does_72 rfl (lv_at hl 3 rfl) ?_
        refine lv_bipush (v := 20) hx hb dL_does_73 (by decide) ?_
        refine lv_iload hx hb dL_does_75 (lv_at hl 1 rfl) ?_
        refine lv_iadd hx hb dL_does_77 ?_
        obtain ⟨r181, hc182, hf⟩ := g_b1_e hf
        refine g_call (va_runV (As := [.int ((20 : Int32) + r129)]) (rest := []) ⟨hx, hb, hml, hown, hts⟩ (c9_count l G E μ _ _ hc182) (cwV 1 hts gL_does_X9_count rfl rfl rfl (by decide +kernel) ⟨Nat.le_of_ble_eq_true rfl, Nat.le_of_ble_eq_true rfl⟩) (g_preV (ci := 9) hR hK (hR.2.2.2.1) rfl) rfl rfl hl.1 rfl (lv_room (Nat.le_of_ble_eq_true rfl)) dL_does_78 ⟨by show _ ≤ 201; omega, by show _ ≤ 1209; omega⟩) hS (fun w183 H locs hp hR hS => ?_)
        subst hp
        refine lv_istore (lv' := [(7, .int r181), (6, .int t180), (5, .int r129), (4, .int r1), (0, .ref G.2.2), (1, .int p1), (2, .int p2), (3, .int p3)]) hx hb dL_does_81 hl (by decide) rfl (fun ls hl => ?_)
        refine lv_aload_n hx hb dL_does_83 rfl (lv_at hl 4 rfl) ?_
        refine lv_iload hx hb dL_does_84 (lv_at hl 2 rfl) ?_
        refine lv_iload hx hb dL_does_86 (lv_at hl 1 rfl) ?_
        obtain ⟨r184, z185, hc186, hf⟩ := g_bd_e hf
        refine g_call (va_runV (As := [.int r129, .int t180]) (rest := []) ⟨hx, hb, hml, hown, hts⟩ (c9_set l G E μ _ _ _ _ hc186) (cwV 2 hts gL_does_X9_set rfl rfl rfl (by decide +kernel) ⟨Nat.le_of_ble_eq_true rfl, Nat.le_of_ble_eq_true rfl⟩) (g_preV (ci := 9) hR hK (hR.2.2.2.1) rfl) rfl rfl hl.1 rfl (lv_room (Nat.le_of_ble_eq_true rfl)) dL_does_88 ⟨by show _ ≤ 201; omega, by show _ ≤ 1209; omega⟩) hS (fun w187 H locs hp hR hS => ?_)
        subst hp
        refine lv_iload hx hb dL_does_91 (lv_at hl 0 rfl) ?_
        refine lv_iload hx hb dL_does_93 (lv_at hl 1 rfl) ?_
        refine lv_icmp_ne (tgt := 103) hx hb dL_does_95 (by decide) (fun c188 => ?_) (fun c188 => ?_)
        · replace hf := g_it hf c188
          refine lv_iload hx hb dL_does_103 (lv_at hl 0 rfl) ?_
          refine lv_icmp_ne (tgt := 126) hx hb dL_does_105 (by decide) (fun c189 => ?_) (fun c189 => ?_)
          · replace hf := g_it hf c189
            refine lv_iconst (v := 0) hx hb dL_does_126 (by decide) ?_
            obtain ⟨rfl, rfl⟩ := g_sp hf
            exact g_zret hx hb hlocks hr hS hR g_le.rf (by decide) rfl (by omega) (by omega) dL_does_127
          · replace hf := g_if hf (fun q => q c189)
            refine lv_aload_n hx hb dL_does_108 rfl (lv_at hl 4 rfl) ?_
            refine lv_bipush (v := 20) hx hb dL_does_109 (by decide) ?_
            refine lv_iload hx hb dL_does_111 (lv_at hl 2 rfl) ?_
            refine lv_iadd hx hb dL_does_113 ?_
            obtain ⟨r190, hc191, hf⟩ := g_b1_e hf
            refine g_call (va_runV (As := [.int ((20 : Int32) + r129)]) (rest := []) ⟨hx, hb, hml, hown, hts⟩ (c9_count l G E z185 _ _ hc191) (cwV 1 hts gL_does_X9_count rfl rfl rfl (by decide +kernel) ⟨Nat.le_of_ble_eq_true rfl, Nat.le_of_ble_eq_true rfl⟩) (g_preV (ci := 9) hR hK (hR.2.2.2.1) rfl) rfl rfl hl.1 rfl (lv_room (Nat.le_of_ble_eq_true rfl)) dL_does_114 ⟨by show _ ≤ 201; omega, by show _ ≤ 1209; omega⟩) hS (fun w192 H locs hp hR hS => ?_)
            subst hp
            refine lv_iload hx hb dL_does_117 (lv_at hl 1 rfl) ?_
            refine lv_icmp_ne (tgt := 126) hx hb dL_does_119 (by decide) (fun c193 => ?_) (fun c193 => ?_)
            · replace hf := g_it hf c193
              refine lv_iconst (v := 0) hx hb dL_does_126 (by decide) ?_
              obtain ⟨rfl, rfl⟩ := g_sp hf
              exact g_zret hx hb hlocks hr hS hR g_le.rf (by decide) rfl (by omega) (by omega) dL_does_127
            · replace hf := g_if hf (fun q => q c193)
              refine lv_iconst (v := 1) hx hb dL_does_122 (by decide) ?_
              refine lv_goto (tgt := 127) hx hb dL_does_123 (by decide) ?_
              obtain ⟨rfl, rfl⟩ := g_sp hf
              exact g_zret hx hb hlocks hr hS hR g_le.rf (by decide) rfl (by omega) (by omega) dL_does_127
        · replace hf := g_if hf (fun q => q c188)
          refine lv_bipush (v := -5) hx hb dL_does_98 (by decide) ?_
          refine lv_goto (tgt := 105) hx hb dL_does_100 (by decide) ?_
          refine lv_icmp_ne (tgt := 126) hx hb dL_does_105 (by decide) (fun c194 => ?_) (fun c194 => ?_)
          · replace hf := g_it hf c194
            refine lv_iconst (v := 0) hx hb dL_does_126 (by decide) ?_
            obtain ⟨rfl, rfl⟩ := g_sp hf
            exact g_zret hx hb hlocks hr hS hR g_le.rf (by decide) rfl (by omega) (by omega) dL_does_127
          · replace hf := g_if hf (fun q => q c194)
            refine lv_aload_n hx hb dL_does_108 rfl (lv_at hl 4 rfl) ?_
            refine lv_bipush (v := 20) hx hb dL_does_109 (by decide) ?_
            refine lv_iload hx hb dL_does_111 (lv_at hl 2 rfl) ?_
            refine lv_iadd hx hb dL_does_113 ?_
            obtain ⟨r195, hc196, hf⟩ := g_b1_e hf
            refine g_call (va_runV (As := [.int ((20 : Int32) + r129)]) (rest := []) ⟨hx, hb, hml, hown, hts⟩ (c9_count l G E z185 _ _ hc196) (cwV 1 hts gL_does_X9_count rfl rfl rfl (by decide +kernel) ⟨Nat.le_of_ble_eq_true rfl, Nat.le_of_ble_eq_true rfl⟩) (g_preV (ci := 9) hR hK (hR.2.2.2.1) rfl) rfl rfl hl.1 rfl (lv_room (Nat.le_of_ble_eq_true rfl)) dL_does_114 ⟨by show _ ≤ 201; omega, by show _ ≤ 1209; omega⟩) hS (fun w197 H locs hp hR hS => ?_)
            subst hp
            refine lv_iload hx hb dL_does_117 (lv_at hl 1 rfl) ?_
            refine lv_icmp_ne (tgt := 126) hx hb dL_does_119 (by decide) (fun c198 => ?_) (fun c198 => ?_)
            · replace hf := g_it hf c198
              refine lv_iconst (v := 0) hx hb dL_does_126 (by decide) ?_
              obtain ⟨rfl, rfl⟩ := g_sp hf
              exact g_zret hx hb hlocks hr hS hR g_le.rf (by decide) rfl (by omega) (by omega) dL_does_127
            · replace hf := g_if hf (fun q => q c198)
              refine lv_iconst (v := 1) hx hb dL_does_122 (by decide) ?_
              refine lv_goto (tgt := 127) hx hb dL_does_123 (by decide) ?_
              obtain ⟨rfl, rfl⟩ := g_sp hf
              exact g_zret hx hb hlocks hr hS hR g_le.rf (by decide) rfl (by omega) (by omega) dL_does_127
    · replace hf := g_if hf (fun q => q c132)
      refine lv_iload_n hx hb dL_does_24 rfl (lv_at hl 5 rfl) ?_
      refine lv_bipush (v := 6) hx hb dL_does_25 (by decide) ?_
      obtain ⟨r199, hc200, hf⟩ := g_b1_e hf
      refine g_call (va_runS (As := [.int p3, .int (6 : Int32)]) (rest := []) ⟨hx, hb, hml, hown, hts⟩ (mL_low l G E μ _ _ _ hc200) (cwS 2 hts gL_does_L_low rfl rfl rfl (by decide +kernel) ⟨Nat.le_of_ble_eq_true rfl, Nat.le_of_ble_eq_true rfl⟩) (g_pre hR hK) rfl rfl hl.1 rfl (lv_room (Nat.le_of_ble_eq_true rfl)) dL_does_27 ⟨by show _ ≤ 201; omega, by show _ ≤ 1209; omega⟩) hS (fun w201 H locs hp hR hS => ?_)
      subst hp
      refine lv_goto (tgt := 70) hx hb dL_does_30 (by decide) ?_
      refine lv_istore (lv' := [(6, .int r199), (5, .int r129), (4, .int r1), (0, .ref G.2.2), (1, .int p1), (2, .int p2), (3, .int p3)]) hx hb dL_does_70 hl (by decide) rfl (fun ls hl => ?_)
      refine lv_aload_n hx hb dL_does_72 rfl (lv_at hl 3 rfl) ?_
      refine lv_bipush (v := 20) hx hb dL_does_73 (by decide) ?_
      refine lv_iload hx hb dL_does_75 (lv_at hl 1 rfl) ?_
      refine lv_iadd hx hb dL_does_77 ?_
      obtain ⟨r202, hc203, hf⟩ := g_b1_e hf
      refine g_call (va_runV (As := [.int ((20 : Int32) + r129)]) (rest := []) ⟨hx, hb, hml, hown, hts⟩ (c9_count l G E μ _ _ hc203) (cwV 1 hts gL_does_X9_count rfl rfl rfl (by decide +kernel) ⟨Nat.le_of_ble_eq_true rfl, Nat.le_of_ble_eq_true rfl⟩) (g_preV (ci := 9) hR hK (hR.2.2.2.1) rfl) rfl rfl hl.1 rfl (lv_room (Nat.le_of_ble_eq_true rfl)) dL_does_78 ⟨by show _ ≤ 201; omega, by show _ ≤ 1209; omega⟩) hS (fun w204 H locs hp hR hS => ?_)
      subst hp
      refine lv_istore (lv' := [(7, .int r202), (6, .int r199), (5, .int r129), (4, .int r1), (0, .ref G.2.2), (1, .int p1), (2, .int p2), (3, .int p3)]) hx hb dL_does_81 hl (by decide) rfl (fun ls hl => ?_)
      refine lv_aload_n hx hb dL_does_83 rfl (lv_at hl 4 rfl) ?_
      refine lv_iload hx hb dL_does_84 (lv_at hl 2 rfl) ?_
      refine lv_iload hx hb dL_does_86 (lv_at hl 1 rfl) ?_
      obtain ⟨r205, z206, hc207, hf⟩ := g_bd_e hf
      refine g_call (va_runV (As := [.int r129, .int r199]) (rest := []) ⟨hx, hb, hml, hown, hts⟩ (c9_set l G E μ _ _ _ _ hc207) (cwV 2 hts gL_does_X9_set rfl rfl rfl (by decide +kernel) ⟨Nat.le_of_ble_eq_true rfl, Nat.le_of_ble_eq_true rfl⟩) (g_preV (ci := 9) hR hK (hR.2.2.2.1) rfl) rfl rfl hl.1 rfl (lv_room (Nat.le_of_ble_eq_true rfl)) dL_does_88 ⟨by show _ ≤ 201; omega, by show _ ≤ 1209; omega⟩) hS (fun w208 H locs hp hR hS => ?_)
      subst hp
      refine lv_iload hx hb dL_does_91 (lv_at hl 0 rfl) ?_
      refine lv_iload hx hb dL_does_93 (lv_at hl 1 rfl) ?_
      refine lv_icmp_ne (tgt := 103) hx hb dL_does_95 (by decide) (fun c209 => ?_) (fun c209 => ?_)
      · replace hf := g_it hf c209
        refine lv_iload hx hb dL_does_103 (lv_at hl 0 rfl) ?_
        refine lv_icmp_ne (tgt := 126) hx hb dL_does_105 (by decide) (fun c210 => ?_) (fun c210 => ?_)
        · replace hf := g_it hf c210
          refine lv_iconst (v := 0) hx hb dL_does_126 (by decide) ?_
          obtain ⟨rfl, rfl⟩ := g_sp hf
          exact g_zret hx hb hlocks hr hS hR g_le.rf (by decide) rfl (by omega) (by omega) dL_does_127
        · replace hf := g_if hf (fun q => q c210)
          refine lv_aload_n hx hb dL_does_108 rfl (lv_at hl 4 rfl) ?_
          refine lv_bipush (v := 20) hx hb dL_does_109 (by decide) ?_
          refine lv_iload hx hb dL_does_111 (lv_at hl 2 rfl) ?_
          refine lv_iadd hx hb dL_does_113 ?_
          obtain ⟨r211, hc212, hf⟩ := g_b1_e hf
          refine g_call (va_runV (As := [.int ((20 : Int32) + r129)]) (rest := []) ⟨hx, hb, hml, hown, hts⟩ (c9_count l G E z206 _ _ hc212) (cwV 1 hts gL_does_X9_count rfl rfl rfl (by decide +kernel) ⟨Nat.le_of_ble_eq_true rfl, Nat.le_of_ble_eq_true rfl⟩) (g_preV (ci := 9) hR hK (hR.2.2.2.1) rfl) rfl rfl hl.1 rfl (lv_room (Nat.le_of_ble_eq_true rfl)) dL_does_114 ⟨by show _ ≤ 201; omega, by show _ ≤ 1209; omega⟩) hS (fun w213 H locs hp hR hS => ?_)
          subst hp
          refine lv_iload hx hb dL_does_117 (lv_at hl 1 rfl) ?_
          refine lv_icmp_ne (tgt := 126) hx hb dL_does_119 (by decide) (fun c214 => ?_) (fun c214 => ?_)
          · replace hf := g_it hf c214
            refine lv_iconst (v := 0) hx hb dL_does_126 (by decide) ?_
            obtain ⟨rfl, rfl⟩ := g_sp hf
            exact g_zret hx hb hlocks hr hS hR g_le.rf (by decide) rfl (by omega) (by omega) dL_does_127
          · replace hf := g_if hf (fun q => q c214)
            refine lv_iconst (v := 1) hx hb dL_does_122 (by decide) ?_
            refine lv_goto (tgt := 127) hx hb dL_does_123 (by decide) ?_
            obtain ⟨rfl, rfl⟩ := g_sp hf
            exact g_zret hx hb hlocks hr hS hR g_le.rf (by decide) rfl (by omega) (by omega) dL_does_127
      · replace hf := g_if hf (fun q => q c209)
        refine lv_bipush (v := -5) hx hb dL_does_98 (by decide) ?_
        refine lv_goto (tgt := 105) hx hb dL_does_100 (by decide) ?_
        refine lv_icmp_ne (tgt := 126) hx hb dL_does_105 (by decide) (fun c215 => ?_) (fun c215 => ?_)
        · replace hf := g_it hf c215
          refine lv_iconst (v := 0) hx hb dL_does_126 (by decide) ?_
          obtain ⟨rfl, rfl⟩ := g_sp hf
          exact g_zret hx hb hlocks hr hS hR g_le.rf (by decide) rfl (by omega) (by omega) dL_does_127
        · replace hf := g_if hf (fun q => q c215)
          refine lv_aload_n hx hb dL_does_108 rfl (lv_at hl 4 rfl) ?_
          refine lv_bipush (v := 20) hx hb dL_does_109 (by decide) ?_
          refine lv_iload hx hb dL_does_111 (lv_at hl 2 rfl) ?_
          refine lv_iadd hx hb dL_does_113 ?_
          obtain ⟨r216, hc217, hf⟩ := g_b1_e hf
          refine g_call (va_runV (As := [.int ((20 : Int32) + r129)]) (rest := []) ⟨hx, hb, hml, hown, hts⟩ (c9_count l G E z206 _ _ hc217) (cwV 1 hts gL_does_X9_count rfl rfl rfl (by decide +kernel) ⟨Nat.le_of_ble_eq_true rfl, Nat.le_of_ble_eq_true rfl⟩) (g_preV (ci := 9) hR hK (hR.2.2.2.1) rfl) rfl rfl hl.1 rfl (lv_room (Nat.le_of_ble_eq_true rfl)) dL_does_114 ⟨by show _ ≤ 201; omega, by show _ ≤ 1209; omega⟩) hS (fun w218 H locs hp hR hS => ?_)
          subst hp
          refine lv_iload hx hb dL_does_117 (lv_at hl 1 rfl) ?_
          refine lv_icmp_ne (tgt := 126) hx hb dL_does_119 (by decide) (fun c219 => ?_) (fun c219 => ?_)
          · replace hf := g_it hf c219
            refine lv_iconst (v := 0) hx hb dL_does_126 (by decide) ?_
            obtain ⟨rfl, rfl⟩ := g_sp hf
            exact g_zret hx hb hlocks hr hS hR g_le.rf (by decide) rfl (by omega) (by omega) dL_does_127
          · replace hf := g_if hf (fun q => q c219)
            refine lv_iconst (v := 1) hx hb dL_does_122 (by decide) ?_
            refine lv_goto (tgt := 127) hx hb dL_does_123 (by decide) ?_
            obtain ⟨rfl, rfl⟩ := g_sp hf
            exact g_zret hx hb hlocks hr hS hR g_le.rf (by decide) rfl (by omega) (by omega) dL_does_127
set_option maxHeartbeats 4000000 in
set_option maxRecDepth 100000 in
theorem mL_orders (l : Launch) (G : gG) (E : gEn) (μ : gMu)  (ro : Int32) (hf : fL_orders μ = some ro) : Met l yL_orders wsL_orders ({ frames := 5, cells := 0, slots := 0, locals := 110 } : Room) (g_Pre G E μ [.ref G.2.2]) (g_Q G E μ (fun E' v => E' = E ∧ v = some (.int ro))) 0 0 (g_A G) := by
  refine Met.ofW (cc := cL_orders) (maxL := 13) (ret := some .boolean) (by decide) rfl ?_
  intro p e s m args below meth c s₁ B hml hv
  obtain ⟨rfl, hR, hK⟩ := hv
  have hx := B.exec
  have hb := B.bytes
  have hr := B.returns
  have hts := atoms_spec (ws := wsL_orders) B.pre
  have hown : s.vm.findClass RL = some m.cls := findClass_of_methodNamed B.named
  have hlocks := B.notSynchronized
  have hS : va_S (g_A G) s.heap s.heap [] := va_S.rf
  have hl := lv_entry ([.ref G.2.2]) (n := 13) (Nat.le_of_ble_eq_true rfl)
  rw [lg_entry_eq]
  generalize (lg_sl ([.ref G.2.2]) ++ List.replicate (13 - (lg_sl ([.ref G.2.2])).length) Slot.unset).toArray = ls at hl ⊢
  have hl : lv_has ls 13 [(0, .ref G.2.2)] := hl
  have hB247 : ∀ (n : Nat) (x1 : Int32) (x2 : Int32) (x3 : Int32) (x4 : Int32) (x5 : Int32) (x6 : Int32) (x7 : Int32) (x8 : Int32) (x9 : Int32) (H : Heap) (locs : List Loc) (ls : Array Slot), fL_orders_247 n μ x1 x2 x3 x4 x5 x6 x7 x8 x9 = some ro → g_R G E μ H → va_S (g_A G) s.heap H locs → lv_has ls 13 [(0, .ref G.2.2), (1, .int x1), (2, .int x2), (3, .int x3), (4, .int x4), (5, .int x5), (6, .int x6), (7, .int x7), (8, .int x8), (9, .int x9)] → W p l e (headSpec wsL_orders ({ frames := 5, cells := 0, slots := 0, locals := 110 } : Room)).room s m ([.ref G.2.2] : List Value).toArray below meth c H locs 0 0 (MQ below (g_Q G E μ (fun E' v => E' = E ∧ v = some (.int ro))) ([.ref G.2.2] : List Value).toArray s 0 0 (g_A G)) (F0 m 247 ls []) := by
    intro n
    induction n with
    | zero =>
      intro x1 x2 x3 x4 x5 x6 x7 x8 x9 H locs ls hf
      rw [fL_orders_247] at hf
      cases hf
    | succ n ih =>
      intro x1 x2 x3 x4 x5 x6 x7 x8 x9 H locs ls hf  hR hS hl
      rw [fL_orders_247] at hf
      refine lv_iload hx hb dL_orders_247 (lv_at hl 9 rfl) ?_
      refine lv_iload_n hx hb dL_orders_249 rfl (lv_at hl 2 rfl) ?_
      refine lv_icmp_ge (tgt := 379) hx hb dL_orders_250 (by decide) (fun c5 => ?_) (fun c5 => ?_)
      · replace hf := g_it hf c5
        refine lv_aload_n hx hb dL_orders_379 rfl (lv_at hl 0 rfl) ?_
        refine lv_iload_n hx hb dL_orders_380 rfl (lv_at hl 2 rfl) ?_
        obtain ⟨r6, hc7, hf⟩ := g_b1_e hf
        refine g_call (va_runV (As := [.int x2]) (rest := []) ⟨hx, hb, hml, hown, hts⟩ (c9_next l G E μ _ _ hc7) (cwV 1 hts gL_orders_X9_next rfl rfl rfl (by decide +kernel) ⟨Nat.le_of_ble_eq_true rfl, Nat.le_of_ble_eq_true rfl⟩) (g_preV (ci := 9) hR hK (hR.2.2.2.1) rfl) rfl rfl hl.1 rfl (lv_room (Nat.le_of_ble_eq_true rfl)) dL_orders_381 ⟨by show _ ≤ 0; omega, by show _ ≤ 0; omega⟩) hS (fun w8 H locs hp hR hS => ?_)
        subst hp
        refine lv_bipush (v := -5) hx hb dL_orders_384 (by decide) ?_
        refine lv_icmp_ne (tgt := 433) hx hb dL_orders_386 (by decide) (fun c9 => ?_) (fun c9 => ?_)
        · replace hf := g_it hf c9
          refine lv_iconst (v := 0) hx hb dL_orders_433 (by decide) ?_
          obtain rfl := g_s1 hf
          exact g_zret hx hb hlocks hr hS hR g_le.rf (by decide) ⟨rfl, rfl⟩ (by omega) (by omega) dL_orders_434
        · replace hf := g_if hf (fun q => q c9)
          refine lv_iload_n hx hb dL_orders_389 rfl (lv_at hl 2 rfl) ?_
          refine lv_aload_n hx hb dL_orders_390 rfl (lv_at hl 0 rfl) ?_
          refine lv_bipush (v := 10) hx hb dL_orders_391 (by decide) ?_
          obtain ⟨r10, hc11, hf⟩ := g_b1_e hf
          refine g_call (va_runV (As := [.int (10 : Int32)]) (rest := [.int x2]) ⟨hx, hb, hml, hown, hts⟩ (c9_count l G E μ _ _ hc11) (cwV 1 hts gL_orders_X9_count rfl rfl rfl (by decide +kernel) ⟨Nat.le_of_ble_eq_true rfl, Nat.le_of_ble_eq_true rfl⟩) (g_preV (ci := 9) hR hK (hR.2.2.2.1) rfl) rfl rfl hl.1 rfl (lv_room (Nat.le_of_ble_eq_true rfl)) dL_orders_393 ⟨by show _ ≤ 0; omega, by show _ ≤ 0; omega⟩) hS (fun w12 H locs hp hR hS => ?_)
          subst hp
          refine lv_icmp_ne (tgt := 433) hx hb dL_orders_396 (by decide) (fun c13 => ?_) (fun c13 => ?_)
          · replace hf := g_it hf c13
            refine lv_iconst (v := 0) hx hb dL_orders_433 (by decide) ?_
            obtain rfl := g_s1 hf
            exact g_zret hx hb hlocks hr hS hR g_le.rf (by decide) ⟨rfl, rfl⟩ (by omega) (by omega) dL_orders_434
          · replace hf := g_if hf (fun q => q c13)
            refine lv_iload_n hx hb dL_orders_399 rfl (lv_at hl 3 rfl) ?_
            refine lv_aload_n hx hb dL_orders_400 rfl (lv_at hl 0 rfl) ?_
            refine lv_bipush (v := 11) hx hb dL_orders_401 (by decide) ?_
            obtain ⟨r14, hc15, hf⟩ := g_b1_e hf
            refine g_call (va_runV (As := [.int (11 : Int32)]) (rest := [.int x3]) ⟨hx, hb, hml, hown, hts⟩ (c9_count l G E μ _ _ hc15) (cwV 1 hts gL_orders_X9_count rfl rfl rfl (by decide +kernel) ⟨Nat.le_of_ble_eq_true rfl, Nat.le_of_ble_eq_true rfl⟩) (g_preV (ci := 9) hR hK (hR.2.2.2.1) rfl) rfl rfl hl.1 rfl (lv_room (Nat.le_of_ble_eq_true rfl)) dL_orders_403 ⟨by show _ ≤ 0; omega, by show _ ≤ 0; omega⟩) hS (fun w16 H locs hp hR hS => ?_)
            subst hp
            refine lv_icmp_ne (tgt := 433) hx hb dL_orders_406 (by decide) (fun c17 => ?_) (fun c17 => ?_)
            · replace hf := g_it hf c17
              refine lv_iconst (v := 0) hx hb dL_orders_433 (by decide) ?_
              obtain rfl := g_s1 hf
              exact g_zret hx hb hlocks hr hS hR g_le.rf (by decide) ⟨rfl, rfl⟩ (by omega) (by omega) dL_orders_434
            · replace hf := g_if hf (fun q => q c17)
              refine lv_iload hx hb dL_orders_409 (lv_at hl 4 rfl) ?_
              refine lv_aload_n hx hb dL_orders_411 rfl (lv_at hl 0 rfl) ?_
              refine lv_iconst (v := 4) hx hb dL_orders_412 (by decide) ?_
              obtain ⟨r18, hc19, hf⟩ := g_b1_e hf
              refine g_call (va_runV (As := [.int (4 : Int32)]) (rest := [.int x4]) ⟨hx, hb, hml, hown, hts⟩ (c9_count l G E μ _ _ hc19) (cwV 1 hts gL_orders_X9_count rfl rfl rfl (by decide +kernel) ⟨Nat.le_of_ble_eq_true rfl, Nat.le_of_ble_eq_true rfl⟩) (g_preV (ci := 9) hR hK (hR.2.2.2.1) rfl) rfl rfl hl.1 rfl (lv_room (Nat.le_of_ble_eq_true rfl)) dL_orders_413 ⟨by show _ ≤ 0; omega, by show _ ≤ 0; omega⟩) hS (fun w20 H locs hp hR hS => ?_)
              subst hp
              refine lv_icmp_ne (tgt := 433) hx hb dL_orders_416 (by decide) (fun c21 => ?_) (fun c21 => ?_)
              · replace hf := g_it hf c21
                refine lv_iconst (v := 0) hx hb dL_orders_433 (by decide) ?_
                obtain rfl := g_s1 hf
                exact g_zret hx hb hlocks hr hS hR g_le.rf (by decide) ⟨rfl, rfl⟩ (by omega) (by omega) dL_orders_434
              · replace hf := g_if hf (fun q => q c21)
                refine lv_aload_n hx hb dL_orders_419 rfl (lv_at hl 0 rfl) ?_
                refine lv_iload_n hx hb dL_orders_420 rfl (lv_at hl 1 rfl) ?_
                refine lv_iconst (v := 0) hx hb dL_orders_421 (by decide) ?_
                obtain ⟨r22, hc23, hf⟩ := g_b1_e hf
                refine g_call (va_runV (As := [.int x1, .int (0 : Int32)]) (rest := []) ⟨hx, hb, hml, hown, hts⟩ (c9_ordered l G E μ _ _ _ hc23) (cwV 2 hts gL_orders_X9_ordered rfl rfl rfl (by decide +kernel) ⟨Nat.le_of_ble_eq_true rfl, Nat.le_of_ble_eq_true rfl⟩) (g_preV (ci := 9) hR hK (hR.2.2.2.1) rfl) rfl rfl hl.1 rfl (lv_room (Nat.le_of_ble_eq_true rfl)) dL_orders_422 ⟨by show _ ≤ 0; omega, by show _ ≤ 0; omega⟩) hS (fun w24 H locs hp hR hS => ?_)
                subst hp
                refine lv_iconst (v := -1) hx hb dL_orders_425 (by decide) ?_
                refine lv_icmp_ne (tgt := 433) hx hb dL_orders_426 (by decide) (fun c25 => ?_) (fun c25 => ?_)
                · replace hf := g_it hf c25
                  refine lv_iconst (v := 0) hx hb dL_orders_433 (by decide) ?_
                  obtain rfl := g_s1 hf
                  exact g_zret hx hb hlocks hr hS hR g_le.rf (by decide) ⟨rfl, rfl⟩ (by omega) (by omega) dL_orders_434
                · replace hf := g_if hf (fun q => q c25)
                  refine lv_iconst (v := 1) hx hb dL_orders_429 (by decide) ?_
                  refine lv_goto (tgt := 434) hx hb dL_orders_430 (by decide) ?_
                  obtain rfl := g_s1 hf
                  exact g_zret hx hb hlocks hr hS hR g_le.rf (by decide) ⟨rfl, rfl⟩ (by omega) (by omega) dL_orders_434
      · replace hf := g_if hf c5
        refine lv_aload_n hx hb dL_orders_253 rfl (lv_at hl 0 rfl) ?_
        refine lv_iload hx hb dL_orders_254 (lv_at hl 9 rfl) ?_
        obtain ⟨r26, hc27, hf⟩ := g_b1_e hf
        refine g_call (va_runV (As := [.int x9]) (rest := []) ⟨hx, hb, hml, hown, hts⟩ (c9_next l G E μ _ _ hc27) (cwV 1 hts gL_orders_X9_next rfl rfl rfl (by decide +kernel) ⟨Nat.le_of_ble_eq_true rfl, Nat.le_of_ble_eq_true rfl⟩) (g_preV (ci := 9) hR hK (hR.2.2.2.1) rfl) rfl rfl hl.1 rfl (lv_room (Nat.le_of_ble_eq_true rfl)) dL_orders_256 ⟨by show _ ≤ 0; omega, by show _ ≤ 0; omega⟩) hS (fun w28 H locs hp hR hS => ?_)
        subst hp
        refine lv_istore (lv' := [(10, .int r26), (0, .ref G.2.2), (1, .int x1), (2, .int x2), (3, .int x3), (4, .int x4), (5, .int x5), (6, .int x6), (7, .int x7), (8, .int x8), (9, .int x9)]) hx hb dL_orders_259 hl (by decide) rfl (fun ls hl => ?_)
        refine lv_iload hx hb dL_orders_261 (lv_at hl 0 rfl) ?_
        refine lv_if_lt (tgt := 287) hx hb dL_orders_263 (by decide) (fun c29 => ?_) (fun c29 => ?_)
        · replace hf := g_it hf c29
          refine lv_iconst (v := 0) hx hb dL_orders_287 (by decide) ?_
          obtain rfl := g_s1 hf
          exact g_zret hx hb hlocks hr hS hR g_le.rf (by decide) ⟨rfl, rfl⟩ (by omega) (by omega) dL_orders_288
        · replace hf := g_if hf c29
          refine lv_iload hx hb dL_orders_266 (lv_at hl 6 rfl) ?_
          refine lv_iload hx hb dL_orders_268 (lv_at hl 0 rfl) ?_
          refine lv_ishr hx hb dL_orders_270 ?_
          refine lv_iconst (v := 1) hx hb dL_orders_271 (by decide) ?_
          refine lv_iand hx hb dL_orders_272 ?_
          refine lv_iconst (v := 1) hx hb dL_orders_273 (by decide) ?_
          refine lv_icmp_eq (tgt := 287) hx hb dL_orders_274 (by decide) (fun c30 => ?_) (fun c30 => ?_)
          · replace hf := g_it hf c30
            refine lv_iconst (v := 0) hx hb dL_orders_287 (by decide) ?_
            obtain rfl := g_s1 hf
            exact g_zret hx hb hlocks hr hS hR g_le.rf (by decide) ⟨rfl, rfl⟩ (by omega) (by omega) dL_orders_288
          · replace hf := g_if hf c30
            refine lv_aload_n hx hb dL_orders_277 rfl (lv_at hl 1 rfl) ?_
            refine lv_iload hx hb dL_orders_278 (lv_at hl 0 rfl) ?_
            refine lv_iconst (v := 4) hx hb dL_orders_280 (by decide) ?_
            obtain ⟨r31, hc32, hf⟩ := g_b1_e hf
            refine g_call (va_runV (As := [.int r26, .int (4 : Int32)]) (rest := []) ⟨hx, hb, hml, hown, hts⟩ (c9_ordered l G E μ _ _ _ hc32) (cwV 2 hts gL_orders_X9_ordered rfl rfl rfl (by decide +kernel) ⟨Nat.le_of_ble_eq_true rfl, Nat.le_of_ble_eq_true rfl⟩) (g_preV (ci := 9) hR hK (hR.2.2.2.1) rfl) rfl rfl hl.1 rfl (lv_room (Nat.le_of_ble_eq_true rfl)) dL_orders_281 ⟨by show _ ≤ 0; omega, by show _ ≤ 0; omega⟩) hS (fun w33 H locs hp hR hS => ?_)
            subst hp
            refine lv_if_eq (tgt := 289) hx hb dL_orders_284 (by decide) (fun c34 => ?_) (fun c34 => ?_)
            · replace hf := g_it hf c34
              refine lv_aload_n hx hb dL_orders_289 rfl (lv_at hl 1 rfl) ?_
              refine lv_iload hx hb dL_orders_290 (lv_at hl 0 rfl) ?_
              refine lv_iconst (v := 3) hx hb dL_orders_292 (by decide) ?_
              obtain ⟨r35, hc36, hf⟩ := g_b1_e hf
              refine g_call (va_runV (As := [.int r26, .int (3 : Int32)]) (rest := []) ⟨hx, hb, hml, hown, hts⟩ (c9_ordered l G E μ _ _ _ hc36) (cwV 2 hts gL_orders_X9_ordered rfl rfl rfl (by decide +kernel) ⟨Nat.le_of_ble_eq_true rfl, Nat.le_of_ble_eq_true rfl⟩) (g_preV (ci := 9) hR hK (hR.2.2.2.1) rfl) rfl rfl hl.1 rfl (lv_room (Nat.le_of_ble_eq_true rfl)) dL_orders_293 ⟨by show _ ≤ 0; omega, by show _ ≤ 0; omega⟩) hS (fun w37 H locs hp hR hS => ?_)
              subst hp
              refine lv_istore (lv' := [(11, .int r35), (10, .int r26), (0, .ref G.2.2), (1, .int x1), (2, .int x2), (3, .int x3), (4, .int x4), (5, .int x5), (6, .int x6), (7, .int x7), (8, .int x8), (9, .int x9)]) hx hb dL_orders_296 hl (by decide) rfl (fun ls hl => ?_)
              refine lv_aload_n hx hb dL_orders_298 rfl (lv_at hl 2 rfl) ?_
              refine lv_iload hx hb dL_orders_299 (lv_at hl 1 rfl) ?_
              refine lv_iconst (v := 1) hx hb dL_orders_301 (by decide) ?_
              obtain ⟨r38, hc39, hf⟩ := g_b1_e hf
              refine g_call (va_runV (As := [.int r26, .int (1 : Int32)]) (rest := []) ⟨hx, hb, hml, hown, hts⟩ (c9_ordered l G E μ _ _ _ hc39) (cwV 2 hts gL_orders_X9_ordered rfl rfl rfl (by decide +kernel) ⟨Nat.le_of_ble_eq_true rfl, Nat.le_of_ble_eq_true rfl⟩) (g_preV (ci := 9) hR hK (hR.2.2.2.1) rfl) rfl rfl hl.1 rfl (lv_room (Nat.le_of_ble_eq_true rfl)) dL_orders_302 ⟨by show _ ≤ 0; omega, by show _ ≤ 0; omega⟩) hS (fun w40 H locs hp hR hS => ?_)
              subst hp
              refine lv_aload_n hx hb dL_orders_305 rfl (lv_at hl 2 rfl) ?_
              refine lv_iload hx hb dL_orders_306 (lv_at hl 1 rfl) ?_
              refine lv_iconst (v := 2) hx hb dL_orders_308 (by decide) ?_
              obtain ⟨r41, hc42, hf⟩ := g_b1_e hf
              refine g_call (va_runV (As := [.int r26, .int (2 : Int32)]) (rest := [.int r38]) ⟨hx, hb, hml, hown, hts⟩ (c9_ordered l G E μ _ _ _ hc42) (cwV 2 hts gL_orders_X9_ordered rfl rfl rfl (by decide +kernel) ⟨Nat.le_of_ble_eq_true rfl, Nat.le_of_ble_eq_true rfl⟩) (g_preV (ci := 9) hR hK (hR.2.2.2.1) rfl) rfl rfl hl.1 rfl (lv_room (Nat.le_of_ble_eq_true rfl)) dL_orders_309 ⟨by show _ ≤ 0; omega, by show _ ≤ 0; omega⟩) hS (fun w43 H locs hp hR hS => ?_)
              subst hp
              refine lv_imul hx hb dL_orders_312 ?_
              refine lv_topi (fun t44 et44 => ?_)
              replace hf := g_let_at hf et44
              refine lv_istore (lv' := [(12, .int t44), (11, .int r35), (10, .int r26), (0, .ref G.2.2), (1, .int x1), (2, .int x2), (3, .int x3), (4, .int x4), (5, .int x5), (6, .int x6), (7, .int x7), (8, .int x8), (9, .int x9)]) hx hb dL_orders_313 hl (by decide) rfl (fun ls hl => ?_)
              refine lv_iload hx hb dL_orders_315 (lv_at hl 1 rfl) ?_
              refine lv_iload hx hb dL_orders_317 (lv_at hl 9 rfl) ?_
              refine lv_icmp_lt (tgt := 350) hx hb dL_orders_319 (by decide) (fun c45 => ?_) (fun c45 => ?_)
              · replace hf := g_it hf c45
                refine lv_iconst (v := 0) hx hb dL_orders_350 (by decide) ?_
                obtain rfl := g_s1 hf
                exact g_zret hx hb hlocks hr hS hR g_le.rf (by decide) ⟨rfl, rfl⟩ (by omega) (by omega) dL_orders_351
              · replace hf := g_if hf c45
                refine lv_iload hx hb dL_orders_322 (lv_at hl 1 rfl) ?_
                refine lv_iload hx hb dL_orders_324 (lv_at hl 9 rfl) ?_
                refine lv_icmp_ne (tgt := 352) hx hb dL_orders_326 (by decide) (fun c46 => ?_) (fun c46 => ?_)
                · replace hf := g_it hf c46
                  refine lv_iload hx hb dL_orders_352 (lv_at hl 8 rfl) ?_
                  refine lv_iconst (v := 1) hx hb dL_orders_354 (by decide) ?_
                  refine lv_iload hx hb dL_orders_355 (lv_at hl 2 rfl) ?_
                  refine lv_ishl hx hb dL_orders_357 ?_
                  refine lv_ior hx hb dL_orders_358 ?_
                  refine lv_topi (fun t47 et47 => ?_)
                  replace hf := g_let_at hf et47
                  refine lv_istore (lv' := [(5, .int t47), (12, .int t44), (11, .int r35), (10, .int r26), (0, .ref G.2.2), (1, .int x1), (2, .int x2), (3, .int x3), (4, .int x4), (6, .int x6), (7, .int x7), (8, .int x8), (9, .int x9)]) hx hb dL_orders_359 hl (by decide) rfl (fun ls hl => ?_)
                  refine lv_iload hx hb dL_orders_361 (lv_at hl 2 rfl) ?_
                  refine lv_istore (lv' := [(6, .int r35), (5, .int t47), (12, .int t44), (11, .int r35), (10, .int r26), (0, .ref G.2.2), (1, .int x1), (2, .int x2), (3, .int x3), (4, .int x4), (7, .int x7), (8, .int x8), (9, .int x9)]) hx hb dL_orders_363 hl (by decide) rfl (fun ls hl => ?_)
                  refine lv_iload hx hb dL_orders_365 (lv_at hl 2 rfl) ?_
                  refine lv_istore (lv' := [(7, .int t44), (6, .int r35), (5, .int t47), (12, .int t44), (11, .int r35), (10, .int r26), (0, .ref G.2.2), (1, .int x1), (2, .int x2), (3, .int x3), (4, .int x4), (8, .int x8), (9, .int x9)]) hx hb dL_orders_367 hl (by decide) rfl (fun ls hl => ?_)
                  refine lv_iload hx hb dL_orders_369 (lv_at hl 5 rfl) ?_
                  refine lv_istore (lv' := [(8, .int r26), (7, .int t44), (6, .int r35), (5, .int t47), (12, .int t44), (11, .int r35), (10, .int r26), (0, .ref G.2.2), (1, .int x1), (2, .int x2), (3, .int x3), (4, .int x4), (9, .int x9)]) hx hb dL_orders_371 hl (by decide) rfl (fun ls hl => ?_)
                  refine lv_iinc (v := x9 + 1) (lv' := [(9, .int (x9 + 1)), (8, .int r26), (7, .int t44), (6, .int r35), (5, .int t47), (12, .int t44), (11, .int r35), (10, .int r26), (0, .ref G.2.2), (1, .int x1), (2, .int x2), (3, .int x3), (4, .int x4)]) hx hb dL_orders_373 hl (k := 12) rfl rfl (by decide) rfl (fun ls hl => ?_)
                  refine lv_goto (tgt := 247) hx hb dL_orders_376 (by decide) ?_
                  exact ih _ _ _ _ _ _ _ _ _ _ _ _ hf  hR hS (lv_sub hl [8, 9, 10, 11, 12, 4, 3, 2, 1, 0] rfl)
                · replace hf := g_if hf (fun q => q c46)
                  refine lv_iload hx hb dL_orders_329 (lv_at hl 0 rfl) ?_
                  refine lv_iload hx hb dL_orders_331 (lv_at hl 10 rfl) ?_
                  refine lv_icmp_gt (tgt := 350) hx hb dL_orders_333 (by decide) (fun c48 => ?_) (fun c48 => ?_)
                  · replace hf := g_it hf c48
                    refine lv_iconst (v := 0) hx hb dL_orders_350 (by decide) ?_
                    obtain rfl := g_s1 hf
                    exact g_zret hx hb hlocks hr hS hR g_le.rf (by decide) ⟨rfl, rfl⟩ (by omega) (by omega) dL_orders_351
                  · replace hf := g_if hf c48
                    refine lv_iload hx hb dL_orders_336 (lv_at hl 0 rfl) ?_
                    refine lv_iload hx hb dL_orders_338 (lv_at hl 10 rfl) ?_
                    refine lv_icmp_ne (tgt := 352) hx hb dL_orders_340 (by decide) (fun c49 => ?_) (fun c49 => ?_)
                    · replace hf := g_it hf c49
                      refine lv_iload hx hb dL_orders_352 (lv_at hl 8 rfl) ?_
                      refine lv_iconst (v := 1) hx hb dL_orders_354 (by decide) ?_
                      refine lv_iload hx hb dL_orders_355 (lv_at hl 2 rfl) ?_
                      refine lv_ishl hx hb dL_orders_357 ?_
                      refine lv_ior hx hb dL_orders_358 ?_
                      refine lv_topi (fun t50 et50 => ?_)
                      replace hf := g_let_at hf et50
                      refine lv_istore (lv' := [(5, .int t50), (12, .int t44), (11, .int r35), (10, .int r26), (0, .ref G.2.2), (1, .int x1), (2, .int x2), (3, .int x3), (4, .int x4), (6, .int x6), (7, .int x7), (8, .int x8), (9, .int x9)]) hx hb dL_orders_359 hl (by decide) rfl (fun ls hl => ?_)
                      refine lv_iload hx hb dL_orders_361 (lv_at hl 2 rfl) ?_
                      refine lv_istore (lv' := [(6, .int r35), (5, .int t50), (12, .int t44), (11, .int r35), (10, .int r26), (0, .ref G.2.2), (1, .int x1), (2, .int x2), (3, .int x3), (4, .int x4), (7, .int x7), (8, .int x8), (9, .int x9)]) hx hb dL_orders_363 hl (by decide) rfl (fun ls hl => ?_)
                      refine lv_iload hx hb dL_orders_365 (lv_at hl 2 rfl) ?_
                      refine lv_istore (lv' := [(7, .int t44), (6, .int r35), (5, .int t50), (12, .int t44), (11, .int r35), (10, .int r26), (0, .ref G.2.2), (1, .int x1), (2, .int x2), (3, .int x3), (4, .int x4), (8, .int x8), (9, .int x9)]) hx hb dL_orders_367 hl (by decide) rfl (fun ls hl => ?_)
                      refine lv_iload hx hb dL_orders_369 (lv_at hl 5 rfl) ?_
                      refine lv_istore (lv' := [(8, .int r26), (7, .int t44), (6, .int r35), (5, .int t50), (12, .int t44), (11, .int r35), (10, .int r26), (0, .ref G.2.2), (1, .int x1), (2, .int x2), (3, .int x3), (4, .int x4), (9, .int x9)]) hx hb dL_orders_371 hl (by decide) rfl (fun ls hl => ?_)
                      refine lv_iinc (v := x9 + 1) (lv' := [(9, .int (x9 + 1)), (8, .int r26), (7, .int t44), (6, .int r35), (5, .int t50), (12, .int t44), (11, .int r35), (10, .int r26), (0, .ref G.2.2), (1, .int x1), (2, .int x2), (3, .int x3), (4, .int x4)]) hx hb dL_orders_373 hl (k := 12) rfl rfl (by decide) rfl (fun ls hl => ?_)
                      refine lv_goto (tgt := 247) hx hb dL_orders_376 (by decide) ?_
                      exact ih _ _ _ _ _ _ _ _ _ _ _ _ hf  hR hS (lv_sub hl [8, 9, 10, 11, 12, 4, 3, 2, 1, 0] rfl)
                    · replace hf := g_if hf (fun q => q c49)
                      refine lv_iload hx hb dL_orders_343 (lv_at hl 2 rfl) ?_
                      refine lv_iload hx hb dL_orders_345 (lv_at hl 11 rfl) ?_
                      refine lv_icmp_ge (tgt := 352) hx hb dL_orders_347 (by decide) (fun c51 => ?_) (fun c51 => ?_)
                      · replace hf := g_it hf c51
                        refine lv_iload hx hb dL_orders_352 (lv_at hl 8 rfl) ?_
                        refine lv_iconst (v := 1) hx hb dL_orders_354 (by decide) ?_
                        refine lv_iload hx hb dL_orders_355 (lv_at hl 2 rfl) ?_
                        refine lv_ishl hx hb dL_orders_357 ?_
                        refine lv_ior hx hb dL_orders_358 ?_
                        refine lv_topi (fun t52 et52 => ?_)
                        replace hf := g_let_at hf et52
                        refine lv_istore (lv' := [(5, .int t52), (12, .int t44), (11, .int r35), (10, .int r26), (0, .ref G.2.2), (1, .int x1), (2, .int x2), (3, .int x3), (4, .int x4), (6, .int x6), (7, .int x7), (8, .int x8), (9, .int x9)]) hx hb dL_orders_359 hl (by decide) rfl (fun ls hl => ?_)
                        refine lv_iload hx hb dL_orders_361 (lv_at hl 2 rfl) ?_
                        refine lv_istore (lv' := [(6, .int r35), (5, .int t52), (12, .int t44), (11, .int r35), (10, .int r26), (0, .ref G.2.2), (1, .int x1), (2, .int x2), (3, .int x3), (4, .int x4), (7, .int x7), (8, .int x8), (9, .int x9)]) hx hb dL_orders_363 hl (by decide) rfl (fun ls hl => ?_)
                        refine lv_iload hx hb dL_orders_365 (lv_at hl 2 rfl) ?_
                        refine lv_istore (lv' := [(7, .int t44), (6, .int r35), (5, .int t52), (12, .int t44), (11, .int r35), (10, .int r26), (0, .ref G.2.2), (1, .int x1), (2, .int x2), (3, .int x3), (4, .int x4), (8, .int x8), (9, .int x9)]) hx hb dL_orders_367 hl (by decide) rfl (fun ls hl => ?_)
                        refine lv_iload hx hb dL_orders_369 (lv_at hl 5 rfl) ?_
                        refine lv_istore (lv' := [(8, .int r26), (7, .int t44), (6, .int r35), (5, .int t52), (12, .int t44), (11, .int r35), (10, .int r26), (0, .ref G.2.2), (1, .int x1), (2, .int x2), (3, .int x3), (4, .int x4), (9, .int x9)]) hx hb dL_orders_371 hl (by decide) rfl (fun ls hl => ?_)
                        refine lv_iinc (v := x9 + 1) (lv' := [(9, .int (x9 + 1)), (8, .int r26), (7, .int t44), (6, .int r35), (5, .int t52), (12, .int t44), (11, .int r35), (10, .int r26), (0, .ref G.2.2), (1, .int x1), (2, .int x2), (3, .int x3), (4, .int x4)]) hx hb dL_orders_373 hl (k := 12) rfl rfl (by decide) rfl (fun ls hl => ?_)
                        refine lv_goto (tgt := 247) hx hb dL_orders_376 (by decide) ?_
                        exact ih _ _ _ _ _ _ _ _ _ _ _ _ hf  hR hS (lv_sub hl [8, 9, 10, 11, 12, 4, 3, 2, 1, 0] rfl)
                      · replace hf := g_if hf c51
                        refine lv_iconst (v := 0) hx hb dL_orders_350 (by decide) ?_
                        obtain rfl := g_s1 hf
                        exact g_zret hx hb hlocks hr hS hR g_le.rf (by decide) ⟨rfl, rfl⟩ (by omega) (by omega) dL_orders_351
            · replace hf := g_if hf c34
              refine lv_iconst (v := 0) hx hb dL_orders_287 (by decide) ?_
              obtain rfl := g_s1 hf
              exact g_zret hx hb hlocks hr hS hR g_le.rf (by decide) ⟨rfl, rfl⟩ (by omega) (by omega) dL_orders_288
  have hB17 : ∀ (n : Nat) (x1 : Int32) (x2 : Int32) (x3 : Int32) (x4 : Int32) (x5 : Int32) (H : Heap) (locs : List Loc) (ls : Array Slot), fL_orders_17 n μ x1 x2 x3 x4 x5 = some ro → g_R G E μ H → va_S (g_A G) s.heap H locs → lv_has ls 13 [(0, .ref G.2.2), (1, .int x1), (2, .int x2), (3, .int x3), (4, .int x4), (5, .int x5)] → W p l e (headSpec wsL_orders ({ frames := 5, cells := 0, slots := 0, locals := 110 } : Room)).room s m ([.ref G.2.2] : List Value).toArray below meth c H locs 0 0 (MQ below (g_Q G E μ (fun E' v => E' = E ∧ v = some (.int ro))) ([.ref G.2.2] : List Value).toArray s 0 0 (g_A G)) (F0 m 17 ls []) := by
    intro n
    induction n with
    | zero =>
      intro x1 x2 x3 x4 x5 H locs ls hf
      rw [fL_orders_17] at hf
      cases hf
    | succ n ih =>
      intro x1 x2 x3 x4 x5 H locs ls hf  hR hS hl
      rw [fL_orders_17] at hf
      refine lv_iload hx hb dL_orders_17 (lv_at hl 5 rfl) ?_
      refine lv_iload_n hx hb dL_orders_19 rfl (lv_at hl 1 rfl) ?_
      refine lv_icmp_ge (tgt := 232) hx hb dL_orders_20 (by decide) (fun c4 => ?_) (fun c4 => ?_)
      · replace hf := g_it hf c4
        refine lv_iconst (v := 0) hx hb dL_orders_232 (by decide) ?_
        refine lv_istore (lv' := [(5, .int (0 : Int32)), (0, .ref G.2.2), (1, .int x1), (2, .int x2), (3, .int x3), (4, .int x4)]) hx hb dL_orders_233 hl (by decide) rfl (fun ls hl => ?_)
        refine lv_iconst (v := -1) hx hb dL_orders_235 (by decide) ?_
        refine lv_istore (lv' := [(6, .int (-1 : Int32)), (5, .int (0 : Int32)), (0, .ref G.2.2), (1, .int x1), (2, .int x2), (3, .int x3), (4, .int x4)]) hx hb dL_orders_236 hl (by decide) rfl (fun ls hl => ?_)
        refine lv_iconst (v := 0) hx hb dL_orders_238 (by decide) ?_
        refine lv_istore (lv' := [(7, .int (0 : Int32)), (6, .int (-1 : Int32)), (5, .int (0 : Int32)), (0, .ref G.2.2), (1, .int x1), (2, .int x2), (3, .int x3), (4, .int x4)]) hx hb dL_orders_239 hl (by decide) rfl (fun ls hl => ?_)
        refine lv_iconst (v := 0) hx hb dL_orders_241 (by decide) ?_
        refine lv_istore (lv' := [(8, .int (0 : Int32)), (7, .int (0 : Int32)), (6, .int (-1 : Int32)), (5, .int (0 : Int32)), (0, .ref G.2.2), (1, .int x1), (2, .int x2), (3, .int x3), (4, .int x4)]) hx hb dL_orders_242 hl (by decide) rfl (fun ls hl => ?_)
        refine lv_iconst (v := 0) hx hb dL_orders_244 (by decide) ?_
        refine lv_istore (lv' := [(9, .int (0 : Int32)), (8, .int (0 : Int32)), (7, .int (0 : Int32)), (6, .int (-1 : Int32)), (5, .int (0 : Int32)), (0, .ref G.2.2), (1, .int x1), (2, .int x2), (3, .int x3), (4, .int x4)]) hx hb dL_orders_245 hl (by decide) rfl (fun ls hl => ?_)
        exact hB247 70 _ _ _ _ _ _ _ _ _ _ _ _ hf  hR hS (lv_sub hl [5, 6, 7, 8, 9, 4, 3, 2, 1, 0] rfl)
      · replace hf := g_if hf c4
        refine lv_aload_n hx hb dL_orders_23 rfl (lv_at hl 0 rfl) ?_
        refine lv_iload hx hb dL_orders_24 (lv_at hl 5 rfl) ?_
        refine lv_iconst (v := 4) hx hb dL_orders_26 (by decide) ?_
        obtain ⟨r53, hc54, hf⟩ := g_b1_e hf
        refine g_call (va_runV (As := [.int x5, .int (4 : Int32)]) (rest := []) ⟨hx, hb, hml, hown, hts⟩ (c9_ordered l G E μ _ _ _ hc54) (cwV 2 hts gL_orders_X9_ordered rfl rfl rfl (by decide +kernel) ⟨Nat.le_of_ble_eq_true rfl, Nat.le_of_ble_eq_true rfl⟩) (g_preV (ci := 9) hR hK (hR.2.2.2.1) rfl) rfl rfl hl.1 rfl (lv_room (Nat.le_of_ble_eq_true rfl)) dL_orders_27 ⟨by show _ ≤ 0; omega, by show _ ≤ 0; omega⟩) hS (fun w55 H locs hp hR hS => ?_)
        subst hp
        refine lv_istore (lv' := [(6, .int r53), (0, .ref G.2.2), (1, .int x1), (2, .int x2), (3, .int x3), (4, .int x4), (5, .int x5)]) hx hb dL_orders_30 hl (by decide) rfl (fun ls hl => ?_)
        refine lv_aload_n hx hb dL_orders_32 rfl (lv_at hl 1 rfl) ?_
        refine lv_iload hx hb dL_orders_33 (lv_at hl 6 rfl) ?_
        refine lv_bipush (v := 6) hx hb dL_orders_35 (by decide) ?_
        obtain ⟨r56, hc57, hf⟩ := g_b1_e hf
        refine g_call (va_runV (As := [.int x5, .int (6 : Int32)]) (rest := []) ⟨hx, hb, hml, hown, hts⟩ (c9_ordered l G E μ _ _ _ hc57) (cwV 2 hts gL_orders_X9_ordered rfl rfl rfl (by decide +kernel) ⟨Nat.le_of_ble_eq_true rfl, Nat.le_of_ble_eq_true rfl⟩) (g_preV (ci := 9) hR hK (hR.2.2.2.1) rfl) rfl rfl hl.1 rfl (lv_room (Nat.le_of_ble_eq_true rfl)) dL_orders_37 ⟨by show _ ≤ 0; omega, by show _ ≤ 0; omega⟩) hS (fun w58 H locs hp hR hS => ?_)
        subst hp
        refine lv_istore (lv' := [(7, .int r56), (6, .int r53), (0, .ref G.2.2), (1, .int x1), (2, .int x2), (3, .int x3), (4, .int x4), (5, .int x5)]) hx hb dL_orders_40 hl (by decide) rfl (fun ls hl => ?_)
        refine lv_iload_n hx hb dL_orders_42 rfl (lv_at hl 4 rfl) ?_
        refine lv_iload hx hb dL_orders_43 (lv_at hl 1 rfl) ?_
        refine lv_if_ne (tgt := 52) hx hb dL_orders_45 (by decide) (fun c59 => ?_) (fun c59 => ?_)
        · replace hf := g_it hf c59
          refine lv_iconst (v := 0) hx hb dL_orders_52 (by decide) ?_
          refine lv_iadd hx hb dL_orders_53 ?_
          refine lv_topi (fun t60 et60 => ?_)
          replace hf := g_let_at hf et60
          refine lv_istore_n (lv' := [(2, .int t60), (7, .int r56), (6, .int r53), (0, .ref G.2.2), (1, .int x1), (3, .int x3), (4, .int x4), (5, .int x5)]) hx hb dL_orders_54 rfl hl (by decide) rfl (fun ls hl => ?_)
          refine lv_iload_n hx hb dL_orders_55 rfl (lv_at hl 5 rfl) ?_
          refine lv_aload_n hx hb dL_orders_56 rfl (lv_at hl 3 rfl) ?_
          refine lv_iload hx hb dL_orders_57 (lv_at hl 7 rfl) ?_
          refine lv_bipush (v := 7) hx hb dL_orders_59 (by decide) ?_
          obtain ⟨r61, hc62, hf⟩ := g_b1_e hf
          refine g_call (va_runV (As := [.int x5, .int (7 : Int32)]) (rest := [.int x3]) ⟨hx, hb, hml, hown, hts⟩ (c9_ordered l G E μ _ _ _ hc62) (cwV 2 hts gL_orders_X9_ordered rfl rfl rfl (by decide +kernel) ⟨Nat.le_of_ble_eq_true rfl, Nat.le_of_ble_eq_true rfl⟩) (g_preV (ci := 9) hR hK (hR.2.2.2.1) rfl) rfl rfl hl.1 rfl (lv_room (Nat.le_of_ble_eq_true rfl)) dL_orders_61 ⟨by show _ ≤ 0; omega, by show _ ≤ 0; omega⟩) hS (fun w63 H locs hp hR hS => ?_)
          subst hp
          refine lv_iadd hx hb dL_orders_64 ?_
          refine lv_topi (fun t64 et64 => ?_)
          replace hf := g_let_at hf et64
          refine lv_istore_n (lv' := [(3, .int t64), (2, .int t60), (7, .int r56), (6, .int r53), (0, .ref G.2.2), (1, .int x1), (4, .int x4), (5, .int x5)]) hx hb dL_orders_65 rfl hl (by decide) rfl (fun ls hl => ?_)
          refine lv_iload hx hb dL_orders_66 (lv_at hl 6 rfl) ?_
          refine lv_iload hx hb dL_orders_68 (lv_at hl 3 rfl) ?_
          refine lv_iconst (v := 1) hx hb dL_orders_70 (by decide) ?_
          refine lv_icmp_ne (tgt := 92) hx hb dL_orders_71 (by decide) (fun c65 => ?_) (fun c65 => ?_)
          · replace hf := g_it hf c65
            refine lv_iconst (v := 0) hx hb dL_orders_92 (by decide) ?_
            refine lv_iadd hx hb dL_orders_93 ?_
            refine lv_topi (fun t66 et66 => ?_)
            replace hf := g_let_at hf et66
            refine lv_istore (lv' := [(4, .int t66), (3, .int t64), (2, .int t60), (7, .int r56), (6, .int r53), (0, .ref G.2.2), (1, .int x1), (5, .int x5)]) hx hb dL_orders_94 hl (by decide) rfl (fun ls hl => ?_)
            refine lv_iload hx hb dL_orders_96 (lv_at hl 4 rfl) ?_
            refine lv_if_ne (tgt := 124) hx hb dL_orders_98 (by decide) (fun _ => ?_) (fun c67 => absurd c67 c59)
            refine lv_iload hx hb dL_orders_124 (lv_at hl 4 rfl) ?_
            refine lv_iconst (v := 1) hx hb dL_orders_126 (by decide) ?_
            refine lv_icmp_ne (tgt := 146) hx hb dL_orders_127 (by decide) (fun _ => ?_) (fun c68 => absurd c68 c65)
            refine lv_iconst (v := 0) hx hb dL_orders_146 (by decide) ?_
            refine lv_istore (lv' := [(8, .int (0 : Int32)), (4, .int t66), (3, .int t64), (2, .int t60), (7, .int r56), (6, .int r53), (0, .ref G.2.2), (1, .int x1), (5, .int x5)]) hx hb dL_orders_147 hl (by decide) rfl (fun ls hl => ?_)
            refine lv_iload hx hb dL_orders_149 (lv_at hl 0 rfl) ?_
            refine lv_aload_n hx hb dL_orders_151 rfl (lv_at hl 6 rfl) ?_
            refine lv_iload hx hb dL_orders_152 (lv_at hl 8 rfl) ?_
            refine lv_bipush (v := 7) hx hb dL_orders_154 (by decide) ?_
            obtain ⟨r69, hc70, hf⟩ := g_b1_e hf
            refine g_call (va_runV (As := [.int x5, .int (7 : Int32)]) (rest := [.int (0 : Int32)]) ⟨hx, hb, hml, hown, hts⟩ (c9_ordered l G E μ _ _ _ hc70) (cwV 2 hts gL_orders_X9_ordered rfl rfl rfl (by decide +kernel) ⟨Nat.le_of_ble_eq_true rfl, Nat.le_of_ble_eq_true rfl⟩) (g_preV (ci := 9) hR hK (hR.2.2.2.1) rfl) rfl rfl hl.1 rfl (lv_room (Nat.le_of_ble_eq_true rfl)) dL_orders_156 ⟨by show _ ≤ 0; omega, by show _ ≤ 0; omega⟩) hS (fun w71 H locs hp hR hS => ?_)
            subst hp
            refine lv_iconst (v := 1) hx hb dL_orders_159 (by decide) ?_
            refine lv_icmp_ne (tgt := 167) hx hb dL_orders_160 (by decide) (fun c72 => ?_) (fun c72 => ?_)
            · replace hf := g_it hf c72
              refine lv_iconst (v := 0) hx hb dL_orders_167 (by decide) ?_
              refine lv_icmp_ne (tgt := 224) hx hb dL_orders_168 (by decide) (fun c73 => absurd (by decide) c73) (fun _ => ?_)
              refine lv_iload hx hb dL_orders_171 (lv_at hl 5 rfl) ?_
              refine lv_iconst (v := 1) hx hb dL_orders_173 (by decide) ?_
              refine lv_icmp_ne (tgt := 181) hx hb dL_orders_174 (by decide) (fun _ => ?_) (fun c74 => absurd c74 c65)
              refine lv_iconst (v := 0) hx hb dL_orders_181 (by decide) ?_
              refine lv_iload hx hb dL_orders_182 (lv_at hl 4 rfl) ?_
              refine lv_if_lt (tgt := 191) hx hb dL_orders_184 (by decide) (fun c75 => ?_) (fun c75 => ?_)
              · replace hf := g_it hf c75
                refine lv_iconst (v := 0) hx hb dL_orders_191 (by decide) ?_
                refine lv_icmp_ne (tgt := 224) hx hb dL_orders_192 (by decide) (fun c76 => absurd (by decide) c76) (fun _ => ?_)
                refine lv_iload hx hb dL_orders_195 (lv_at hl 5 rfl) ?_
                refine lv_iconst (v := 1) hx hb dL_orders_197 (by decide) ?_
                refine lv_icmp_ne (tgt := 205) hx hb dL_orders_198 (by decide) (fun _ => ?_) (fun c77 => absurd c77 c65)
                refine lv_iconst (v := 0) hx hb dL_orders_205 (by decide) ?_
                refine lv_aload_n hx hb dL_orders_206 rfl (lv_at hl 6 rfl) ?_
                refine lv_iload hx hb dL_orders_207 (lv_at hl 8 rfl) ?_
                refine lv_iconst (v := 5) hx hb dL_orders_209 (by decide) ?_
                obtain ⟨r78, hc79, hf⟩ := g_b1_e hf
                refine g_call (va_runV (As := [.int x5, .int (5 : Int32)]) (rest := [.int (0 : Int32)]) ⟨hx, hb, hml, hown, hts⟩ (c9_ordered l G E μ _ _ _ hc79) (cwV 2 hts gL_orders_X9_ordered rfl rfl rfl (by decide +kernel) ⟨Nat.le_of_ble_eq_true rfl, Nat.le_of_ble_eq_true rfl⟩) (g_preV (ci := 9) hR hK (hR.2.2.2.1) rfl) rfl rfl hl.1 rfl (lv_room (Nat.le_of_ble_eq_true rfl)) dL_orders_210 ⟨by show _ ≤ 0; omega, by show _ ≤ 0; omega⟩) hS (fun w80 H locs hp hR hS => ?_)
                subst hp
                refine lv_if_lt (tgt := 220) hx hb dL_orders_213 (by decide) (fun c81 => ?_) (fun c81 => ?_)
                · replace hf := g_it hf c81
                  refine lv_iconst (v := 0) hx hb dL_orders_220 (by decide) ?_
                  refine lv_icmp_eq (tgt := 226) hx hb dL_orders_221 (by decide) (fun _ => ?_) (fun c82 => absurd (by decide) c82)
                  refine lv_iinc (v := x5 + 1) (lv' := [(5, .int (x5 + 1)), (8, .int (0 : Int32)), (4, .int t66), (3, .int t64), (2, .int t60), (7, .int r56), (6, .int r53), (0, .ref G.2.2), (1, .int x1)]) hx hb dL_orders_226 hl (k := 8) rfl rfl (by decide) rfl (fun ls hl => ?_)
                  refine lv_goto (tgt := 17) hx hb dL_orders_229 (by decide) ?_
                  exact ih _ _ _ _ _ _ _ _ hf  hR hS (lv_sub hl [7, 8, 4, 3, 2, 0] rfl)
                · replace hf := g_if hf c81
                  refine lv_iconst (v := 1) hx hb dL_orders_216 (by decide) ?_
                  refine lv_goto (tgt := 221) hx hb dL_orders_217 (by decide) ?_
                  refine lv_icmp_eq (tgt := 226) hx hb dL_orders_221 (by decide) (fun c83 => absurd c83 (by decide)) (fun _ => ?_)
                  refine lv_iconst (v := 0) hx hb dL_orders_224 (by decide) ?_
                  obtain rfl := g_s1 hf
                  exact g_zret hx hb hlocks hr hS hR g_le.rf (by decide) ⟨rfl, rfl⟩ (by omega) (by omega) dL_orders_225
              · replace hf := g_if hf c75
                refine lv_iconst (v := 1) hx hb dL_orders_187 (by decide) ?_
                refine lv_goto (tgt := 192) hx hb dL_orders_188 (by decide) ?_
                refine lv_icmp_ne (tgt := 224) hx hb dL_orders_192 (by decide) (fun _ => ?_) (fun c84 => absurd c84 (by decide))
                refine lv_iconst (v := 0) hx hb dL_orders_224 (by decide) ?_
                obtain rfl := g_s1 hf
                exact g_zret hx hb hlocks hr hS hR g_le.rf (by decide) ⟨rfl, rfl⟩ (by omega) (by omega) dL_orders_225
            · replace hf := g_if hf (fun q => q c72)
              refine lv_iconst (v := 1) hx hb dL_orders_163 (by decide) ?_
              refine lv_goto (tgt := 168) hx hb dL_orders_164 (by decide) ?_
              refine lv_icmp_ne (tgt := 224) hx hb dL_orders_168 (by decide) (fun _ => ?_) (fun c85 => absurd c85 (by decide))
              refine lv_iconst (v := 0) hx hb dL_orders_224 (by decide) ?_
              obtain rfl := g_s1 hf
              exact g_zret hx hb hlocks hr hS hR g_le.rf (by decide) ⟨rfl, rfl⟩ (by omega) (by omega) dL_orders_225
          · replace hf := g_if hf (fun q => q c65)
            refine lv_aload_n hx hb dL_orders_74 rfl (lv_at hl 4 rfl) ?_
            refine lv_iload hx hb dL_orders_75 (lv_at hl 7 rfl) ?_
            refine lv_iconst (v := 1) hx hb dL_orders_77 (by decide) ?_
            obtain ⟨r86, hc87, hf⟩ := g_b1_e hf
            refine g_call (va_runV (As := [.int x5, .int (1 : Int32)]) (rest := [.int x4]) ⟨hx, hb, hml, hown, hts⟩ (c9_ordered l G E μ _ _ _ hc87) (cwV 2 hts gL_orders_X9_ordered rfl rfl rfl (by decide +kernel) ⟨Nat.le_of_ble_eq_true rfl, Nat.le_of_ble_eq_true rfl⟩) (g_preV (ci := 9) hR hK (hR.2.2.2.1) rfl) rfl rfl hl.1 rfl (lv_room (Nat.le_of_ble_eq_true rfl)) dL_orders_78 ⟨by show _ ≤ 0; omega, by show _ ≤ 0; omega⟩) hS (fun w88 H locs hp hR hS => ?_)
            subst hp
            refine lv_aload_n hx hb dL_orders_81 rfl (lv_at hl 4 rfl) ?_
            refine lv_iload hx hb dL_orders_82 (lv_at hl 7 rfl) ?_
            refine lv_iconst (v := 2) hx hb dL_orders_84 (by decide) ?_
            obtain ⟨r89, hc90, hf⟩ := g_b1_e hf
            refine g_call (va_runV (As := [.int x5, .int (2 : Int32)]) (rest := [.int r86, .int x4]) ⟨hx, hb, hml, hown, hts⟩ (c9_ordered l G E μ _ _ _ hc90) (cwV 2 hts gL_orders_X9_ordered rfl rfl rfl (by decide +kernel) ⟨Nat.le_of_ble_eq_true rfl, Nat.le_of_ble_eq_true rfl⟩) (g_preV (ci := 9) hR hK (hR.2.2.2.1) rfl) rfl rfl hl.1 rfl (lv_room (Nat.le_of_ble_eq_true rfl)) dL_orders_85 ⟨by show _ ≤ 0; omega, by show _ ≤ 0; omega⟩) hS (fun w91 H locs hp hR hS => ?_)
            subst hp
            refine lv_imul hx hb dL_orders_88 ?_
            refine lv_goto (tgt := 93) hx hb dL_orders_89 (by decide) ?_
            refine lv_iadd hx hb dL_orders_93 ?_
            refine lv_topi (fun t92 et92 => ?_)
            replace hf := g_let_at hf et92
            refine lv_istore (lv' := [(4, .int t92), (3, .int t64), (2, .int t60), (7, .int r56), (6, .int r53), (0, .ref G.2.2), (1, .int x1), (5, .int x5)]) hx hb dL_orders_94 hl (by decide) rfl (fun ls hl => ?_)
            refine lv_iload hx hb dL_orders_96 (lv_at hl 4 rfl) ?_
            refine lv_if_ne (tgt := 124) hx hb dL_orders_98 (by decide) (fun _ => ?_) (fun c93 => absurd c93 (fun q => absurd ((c65).symm.trans q) (by decide)))
            refine lv_iload hx hb dL_orders_124 (lv_at hl 4 rfl) ?_
            refine lv_iconst (v := 1) hx hb dL_orders_126 (by decide) ?_
            refine lv_icmp_ne (tgt := 146) hx hb dL_orders_127 (by decide) (fun c94 => absurd (c65) c94) (fun _ => ?_)
            refine lv_iload hx hb dL_orders_130 (lv_at hl 3 rfl) ?_
            refine lv_aload_n hx hb dL_orders_132 rfl (lv_at hl 5 rfl) ?_
            refine lv_iload hx hb dL_orders_133 (lv_at hl 7 rfl) ?_
            refine lv_iconst (v := 3) hx hb dL_orders_135 (by decide) ?_
            obtain ⟨r95, hc96, hf⟩ := g_b1_e hf
            refine g_call (va_runV (As := [.int x5, .int (3 : Int32)]) (rest := [.int r56]) ⟨hx, hb, hml, hown, hts⟩ (c9_ordered l G E μ _ _ _ hc96) (cwV 2 hts gL_orders_X9_ordered rfl rfl rfl (by decide +kernel) ⟨Nat.le_of_ble_eq_true rfl, Nat.le_of_ble_eq_true rfl⟩) (g_preV (ci := 9) hR hK (hR.2.2.2.1) rfl) rfl rfl hl.1 rfl (lv_room (Nat.le_of_ble_eq_true rfl)) dL_orders_136 ⟨by show _ ≤ 0; omega, by show _ ≤ 0; omega⟩) hS (fun w97 H locs hp hR hS => ?_)
            subst hp
            refine lv_icmp_le (tgt := 146) hx hb dL_orders_139 (by decide) (fun c98 => ?_) (fun c98 => ?_)
            · replace hf := g_it hf c98
              refine lv_iconst (v := 0) hx hb dL_orders_146 (by decide) ?_
              refine lv_istore (lv' := [(8, .int (0 : Int32)), (4, .int t92), (3, .int t64), (2, .int t60), (7, .int r56), (6, .int r53), (0, .ref G.2.2), (1, .int x1), (5, .int x5)]) hx hb dL_orders_147 hl (by decide) rfl (fun ls hl => ?_)
              refine lv_iload hx hb dL_orders_149 (lv_at hl 0 rfl) ?_
              refine lv_aload_n hx hb dL_orders_151 rfl (lv_at hl 6 rfl) ?_
              refine lv_iload hx hb dL_orders_152 (lv_at hl 8 rfl) ?_
              refine lv_bipush (v := 7) hx hb dL_orders_154 (by decide) ?_
              obtain ⟨r99, hc100, hf⟩ := g_b1_e hf
              refine g_call (va_runV (As := [.int x5, .int (7 : Int32)]) (rest := [.int (0 : Int32)]) ⟨hx, hb, hml, hown, hts⟩ (c9_ordered l G E μ _ _ _ hc100) (cwV 2 hts gL_orders_X9_ordered rfl rfl rfl (by decide +kernel) ⟨Nat.le_of_ble_eq_true rfl, Nat.le_of_ble_eq_true rfl⟩) (g_preV (ci := 9) hR hK (hR.2.2.2.1) rfl) rfl rfl hl.1 rfl (lv_room (Nat.le_of_ble_eq_true rfl)) dL_orders_156 ⟨by show _ ≤ 0; omega, by show _ ≤ 0; omega⟩) hS (fun w101 H locs hp hR hS => ?_)
              subst hp
              refine lv_iconst (v := 1) hx hb dL_orders_159 (by decide) ?_
              refine lv_icmp_ne (tgt := 167) hx hb dL_orders_160 (by decide) (fun c102 => ?_) (fun c102 => ?_)
              · replace hf := g_it hf c102
                refine lv_iconst (v := 0) hx hb dL_orders_167 (by decide) ?_
                refine lv_icmp_ne (tgt := 224) hx hb dL_orders_168 (by decide) (fun c103 => absurd (by decide) c103) (fun _ => ?_)
                refine lv_iload hx hb dL_orders_171 (lv_at hl 5 rfl) ?_
                refine lv_iconst (v := 1) hx hb dL_orders_173 (by decide) ?_
                refine lv_icmp_ne (tgt := 181) hx hb dL_orders_174 (by decide) (fun c104 => absurd (c65) c104) (fun _ => ?_)
                refine lv_iconst (v := 1) hx hb dL_orders_177 (by decide) ?_
                refine lv_goto (tgt := 182) hx hb dL_orders_178 (by decide) ?_
                refine lv_iload hx hb dL_orders_182 (lv_at hl 4 rfl) ?_
                refine lv_if_lt (tgt := 191) hx hb dL_orders_184 (by decide) (fun c105 => ?_) (fun c105 => ?_)
                · replace hf := g_it hf c105
                  refine lv_iconst (v := 0) hx hb dL_orders_191 (by decide) ?_
                  refine lv_icmp_ne (tgt := 224) hx hb dL_orders_192 (by decide) (fun _ => ?_) (fun c106 => absurd c106 (by decide))
                  refine lv_iconst (v := 0) hx hb dL_orders_224 (by decide) ?_
                  obtain rfl := g_s1 hf
                  exact g_zret hx hb hlocks hr hS hR g_le.rf (by decide) ⟨rfl, rfl⟩ (by omega) (by omega) dL_orders_225
                · replace hf := g_if hf c105
                  refine lv_iconst (v := 1) hx hb dL_orders_187 (by decide) ?_
                  refine lv_goto (tgt := 192) hx hb dL_orders_188 (by decide) ?_
                  refine lv_icmp_ne (tgt := 224) hx hb dL_orders_192 (by decide) (fun c107 => absurd (by decide) c107) (fun _ => ?_)
                  refine lv_iload hx hb dL_orders_195 (lv_at hl 5 rfl) ?_
                  refine lv_iconst (v := 1) hx hb dL_orders_197 (by decide) ?_
                  refine lv_icmp_ne (tgt := 205) hx hb dL_orders_198 (by decide) (fun c108 => absurd (c65) c108) (fun _ => ?_)
                  refine lv_iconst (v := 1) hx hb dL_orders_201 (by decide) ?_
                  refine lv_goto (tgt := 206) hx hb dL_orders_202 (by decide) ?_
                  refine lv_aload_n hx hb dL_orders_206 rfl (lv_at hl 6 rfl) ?_
                  refine lv_iload hx hb dL_orders_207 (lv_at hl 8 rfl) ?_
                  refine lv_iconst (v := 5) hx hb dL_orders_209 (by decide) ?_
                  obtain ⟨r109, hc110, hf⟩ := g_b1_e hf
                  refine g_call (va_runV (As := [.int x5, .int (5 : Int32)]) (rest := [.int (1 : Int32)]) ⟨hx, hb, hml, hown, hts⟩ (c9_ordered l G E μ _ _ _ hc110) (cwV 2 hts gL_orders_X9_ordered rfl rfl rfl (by decide +kernel) ⟨Nat.le_of_ble_eq_true rfl, Nat.le_of_ble_eq_true rfl⟩) (g_preV (ci := 9) hR hK (hR.2.2.2.1) rfl) rfl rfl hl.1 rfl (lv_room (Nat.le_of_ble_eq_true rfl)) dL_orders_210 ⟨by show _ ≤ 0; omega, by show _ ≤ 0; omega⟩) hS (fun w111 H locs hp hR hS => ?_)
                  subst hp
                  refine lv_if_lt (tgt := 220) hx hb dL_orders_213 (by decide) (fun c112 => ?_) (fun c112 => ?_)
                  · replace hf := g_it hf c112
                    refine lv_iconst (v := 0) hx hb dL_orders_220 (by decide) ?_
                    refine lv_icmp_eq (tgt := 226) hx hb dL_orders_221 (by decide) (fun c113 => absurd c113 (by decide)) (fun _ => ?_)
                    refine lv_iconst (v := 0) hx hb dL_orders_224 (by decide) ?_
                    obtain rfl := g_s1 hf
                    exact g_zret hx hb hlocks hr hS hR g_le.rf (by decide) ⟨rfl, rfl⟩ (by omega) (by omega) dL_orders_225
                  · replace hf := g_if hf c112
                    refine lv_iconst (v := 1) hx hb dL_orders_216 (by decide) ?_
                    refine lv_goto (tgt := 221) hx hb dL_orders_217 (by decide) ?_
                    refine lv_icmp_eq (tgt := 226) hx hb dL_orders_221 (by decide) (fun _ => ?_) (fun c114 => absurd (by decide) c114)
                    refine lv_iinc (v := x5 + 1) (lv' := [(5, .int (x5 + 1)), (8, .int (0 : Int32)), (4, .int t92), (3, .int t64), (2, .int t60), (7, .int r56), (6, .int r53), (0, .ref G.2.2), (1, .int x1)]) hx hb dL_orders_226 hl (k := 8) rfl rfl (by decide) rfl (fun ls hl => ?_)
                    refine lv_goto (tgt := 17) hx hb dL_orders_229 (by decide) ?_
                    exact ih _ _ _ _ _ _ _ _ hf  hR hS (lv_sub hl [7, 8, 4, 3, 2, 0] rfl)
              · replace hf := g_if hf (fun q => q c102)
                refine lv_iconst (v := 1) hx hb dL_orders_163 (by decide) ?_
                refine lv_goto (tgt := 168) hx hb dL_orders_164 (by decide) ?_
                refine lv_icmp_ne (tgt := 224) hx hb dL_orders_168 (by decide) (fun _ => ?_) (fun c115 => absurd c115 (by decide))
                refine lv_iconst (v := 0) hx hb dL_orders_224 (by decide) ?_
                obtain rfl := g_s1 hf
                exact g_zret hx hb hlocks hr hS hR g_le.rf (by decide) ⟨rfl, rfl⟩ (by omega) (by omega) dL_orders_225
            · replace hf := g_if hf c98
              refine lv_iconst (v := 1) hx hb dL_orders_142 (by decide) ?_
              refine lv_goto (tgt := 147) hx hb dL_orders_143 (by decide) ?_
              refine lv_istore (lv' := [(8, .int (1 : Int32)), (4, .int t92), (3, .int t64), (2, .int t60), (7, .int r56), (6, .int r53), (0, .ref G.2.2), (1, .int x1), (5, .int x5)]) hx hb dL_orders_147 hl (by decide) rfl (fun ls hl => ?_)
              refine lv_iload hx hb dL_orders_149 (lv_at hl 0 rfl) ?_
              refine lv_aload_n hx hb dL_orders_151 rfl (lv_at hl 6 rfl) ?_
              refine lv_iload hx hb dL_orders_152 (lv_at hl 8 rfl) ?_
              refine lv_bipush (v := 7) hx hb dL_orders_154 (by decide) ?_
              obtain ⟨r116, hc117, hf⟩ := g_b1_e hf
              refine g_call (va_runV (As := [.int x5, .int (7 : Int32)]) (rest := [.int (1 : Int32)]) ⟨hx, hb, hml, hown, hts⟩ (c9_ordered l G E μ _ _ _ hc117) (cwV 2 hts gL_orders_X9_ordered rfl rfl rfl (by decide +kernel) ⟨Nat.le_of_ble_eq_true rfl, Nat.le_of_ble_eq_true rfl⟩) (g_preV (ci := 9) hR hK (hR.2.2.2.1) rfl) rfl rfl hl.1 rfl (lv_room (Nat.le_of_ble_eq_true rfl)) dL_orders_156 ⟨by show _ ≤ 0; omega, by show _ ≤ 0; omega⟩) hS (fun w118 H locs hp hR hS => ?_)
              subst hp
              refine lv_iconst (v := 1) hx hb dL_orders_159 (by decide) ?_
              refine lv_icmp_ne (tgt := 167) hx hb dL_orders_160 (by decide) (fun c119 => ?_) (fun c119 => ?_)
              · replace hf := g_it hf c119
                refine lv_iconst (v := 0) hx hb dL_orders_167 (by decide) ?_
                refine lv_icmp_ne (tgt := 224) hx hb dL_orders_168 (by decide) (fun _ => ?_) (fun c120 => absurd c120 (by decide))
                refine lv_iconst (v := 0) hx hb dL_orders_224 (by decide) ?_
                obtain rfl := g_s1 hf
                exact g_zret hx hb hlocks hr hS hR g_le.rf (by decide) ⟨rfl, rfl⟩ (by omega) (by omega) dL_orders_225
              · replace hf := g_if hf (fun q => q c119)
                refine lv_iconst (v := 1) hx hb dL_orders_163 (by decide) ?_
                refine lv_goto (tgt := 168) hx hb dL_orders_164 (by decide) ?_
                refine lv_icmp_ne (tgt := 224) hx hb dL_orders_168 (by decide) (fun c121 => absurd (by decide) c121) (fun _ => ?_)
                refine lv_iload hx hb dL_orders_171 (lv_at hl 5 rfl) ?_
                refine lv_iconst (v := 1) hx hb dL_orders_173 (by decide) ?_
                refine lv_icmp_ne (tgt := 181) hx hb dL_orders_174 (by decide) (fun c122 => absurd (c65) c122) (fun _ => ?_)
                refine lv_iconst (v := 1) hx hb dL_orders_177 (by decide) ?_
                refine lv_goto (tgt := 182) hx hb dL_orders_178 (by decide) ?_
                refine lv_iload hx hb dL_orders_182 (lv_at hl 4 rfl) ?_
                refine lv_if_lt (tgt := 191) hx hb dL_orders_184 (by decide) (fun c123 => ?_) (fun c123 => ?_)
                · replace hf := g_it hf c123
                  refine lv_iconst (v := 0) hx hb dL_orders_191 (by decide) ?_
                  refine lv_icmp_ne (tgt := 224) hx hb dL_orders_192 (by decide) (fun _ => ?_) (fun c124 => absurd c124 (by decide))
                  refine lv_iconst (v := 0) hx hb dL_orders_224 (by decide) ?_
                  obtain rfl := g_s1 hf
                  exact g_zret hx hb hlocks hr hS hR g_le.rf (by decide) ⟨rfl, rfl⟩ (by omega) (by omega) dL_orders_225
                · replace hf := g_if hf c123
                  refine lv_iconst (v := 1) hx hb dL_orders_187 (by decide) ?_
                  refine lv_goto (tgt := 192) hx hb dL_orders_188 (by decide) ?_
                  refine lv_icmp_ne (tgt := 224) hx hb dL_orders_192 (by decide) (fun c125 => absurd (by decide) c125) (fun _ => ?_)
                  refine lv_iload hx hb dL_orders_195 (lv_at hl 5 rfl) ?_
                  refine lv_iconst (v := 1) hx hb dL_orders_197 (by decide) ?_
                  refine lv_icmp_ne (tgt := 205) hx hb dL_orders_198 (by decide) (fun c126 => absurd (c65) c126) (fun _ => ?_)
                  refine lv_iconst (v := 1) hx hb dL_orders_201 (by decide) ?_
                  refine lv_goto (tgt := 206) hx hb dL_orders_202 (by decide) ?_
                  refine lv_aload_n hx hb dL_orders_206 rfl (lv_at hl 6 rfl) ?_
                  refine lv_iload hx hb dL_orders_207 (lv_at hl 8 rfl) ?_
                  refine lv_iconst (v := 5) hx hb dL_orders_209 (by decide) ?_
                  obtain ⟨r127, hc128, hf⟩ := g_b1_e hf
                  refine g_call (va_runV (As := [.int x5, .int (5 : Int32)]) (rest := [.int (1 : Int32)]) ⟨hx, hb, hml, hown, hts⟩ (c9_ordered l G E μ _ _ _ hc128) (cwV 2 hts gL_orders_X9_ordered rfl rfl rfl (by decide +kernel) ⟨Nat.le_of_ble_eq_true rfl, Nat.le_of_ble_eq_true rfl⟩) (g_preV (ci := 9) hR hK (hR.2.2.2.1) rfl) rfl rfl hl.1 rfl (lv_room (Nat.le_of_ble_eq_true rfl)) dL_orders_210 ⟨by show _ ≤ 0; omega, by show _ ≤ 0; omega⟩) hS (fun w129 H locs hp hR hS => ?_)
                  subst hp
                  refine lv_if_lt (tgt := 220) hx hb dL_orders_213 (by decide) (fun c130 => ?_) (fun c130 => ?_)
                  · replace hf := g_it hf c130
                    refine lv_iconst (v := 0) hx hb dL_orders_220 (by decide) ?_
                    refine lv_icmp_eq (tgt := 226) hx hb dL_orders_221 (by decide) (fun c131 => absurd c131 (by decide)) (fun _ => ?_)
                    refine lv_iconst (v := 0) hx hb dL_orders_224 (by decide) ?_
                    obtain rfl := g_s1 hf
                    exact g_zret hx hb hlocks hr hS hR g_le.rf (by decide) ⟨rfl, rfl⟩ (by omega) (by omega) dL_orders_225
                  · replace hf := g_if hf c130
                    refine lv_iconst (v := 1) hx hb dL_orders_216 (by decide) ?_
                    refine lv_goto (tgt := 221) hx hb dL_orders_217 (by decide) ?_
                    refine lv_icmp_eq (tgt := 226) hx hb dL_orders_221 (by decide) (fun _ => ?_) (fun c132 => absurd (by decide) c132)
                    refine lv_iinc (v := x5 + 1) (lv' := [(5, .int (x5 + 1)), (8, .int (1 : Int32)), (4, .int t92), (3, .int t64), (2, .int t60), (7, .int r56), (6, .int r53), (0, .ref G.2.2), (1, .int x1)]) hx hb dL_orders_226 hl (k := 8) rfl rfl (by decide) rfl (fun ls hl => ?_)
                    refine lv_goto (tgt := 17) hx hb dL_orders_229 (by decide) ?_
                    exact ih _ _ _ _ _ _ _ _ hf  hR hS (lv_sub hl [7, 8, 4, 3, 2, 0] rfl)
        · replace hf := g_if hf (fun q => q c59)
          refine lv_iconst (v := 1) hx hb dL_orders_48 (by decide) ?_
          refine lv_goto (tgt := 53) hx hb dL_orders_49 (by decide) ?_
          refine lv_iadd hx hb dL_orders_53 ?_
          refine lv_topi (fun t133 et133 => ?_)
          replace hf := g_let_at hf et133
          refine lv_istore_n (lv' := [(2, .int t133), (7, .int r56), (6, .int r53), (0, .ref G.2.2), (1, .int x1), (3, .int x3), (4, .int x4), (5, .int x5)]) hx hb dL_orders_54 rfl hl (by decide) rfl (fun ls hl => ?_)
          refine lv_iload_n hx hb dL_orders_55 rfl (lv_at hl 5 rfl) ?_
          refine lv_aload_n hx hb dL_orders_56 rfl (lv_at hl 3 rfl) ?_
          refine lv_iload hx hb dL_orders_57 (lv_at hl 7 rfl) ?_
          refine lv_bipush (v := 7) hx hb dL_orders_59 (by decide) ?_
          obtain ⟨r134, hc135, hf⟩ := g_b1_e hf
          refine g_call (va_runV (As := [.int x5, .int (7 : Int32)]) (rest := [.int x3]) ⟨hx, hb, hml, hown, hts⟩ (c9_ordered l G E μ _ _ _ hc135) (cwV 2 hts gL_orders_X9_ordered rfl rfl rfl (by decide +kernel) ⟨Nat.le_of_ble_eq_true rfl, Nat.le_of_ble_eq_true rfl⟩) (g_preV (ci := 9) hR hK (hR.2.2.2.1) rfl) rfl rfl hl.1 rfl (lv_room (Nat.le_of_ble_eq_true rfl)) dL_orders_61 ⟨by show _ ≤ 0; omega, by show _ ≤ 0; omega⟩) hS (fun w136 H locs hp hR hS => ?_)
          subst hp
          refine lv_iadd hx hb dL_orders_64 ?_
          refine lv_topi (fun t137 et137 => ?_)
          replace hf := g_let_at hf et137
          refine lv_istore_n (lv' := [(3, .int t137), (2, .int t133), (7, .int r56), (6, .int r53), (0, .ref G.2.2), (1, .int x1), (4, .int x4), (5, .int x5)]) hx hb dL_orders_65 rfl hl (by decide) rfl (fun ls hl => ?_)
          refine lv_iload hx hb dL_orders_66 (lv_at hl 6 rfl) ?_
          refine lv_iload hx hb dL_orders_68 (lv_at hl 3 rfl) ?_
          refine lv_iconst (v := 1) hx hb dL_orders_70 (by decide) ?_
          refine lv_icmp_ne (tgt := 92) hx hb dL_orders_71 (by decide) (fun _ => ?_) (fun c138 => absurd c138 (fun q => absurd ((c59).symm.trans q) (by decide)))
          refine lv_iconst (v := 0) hx hb dL_orders_92 (by decide) ?_
          refine lv_iadd hx hb dL_orders_93 ?_
          refine lv_topi (fun t139 et139 => ?_)
          replace hf := g_let_at hf et139
          refine lv_istore (lv' := [(4, .int t139), (3, .int t137), (2, .int t133), (7, .int r56), (6, .int r53), (0, .ref G.2.2), (1, .int x1), (5, .int x5)]) hx hb dL_orders_94 hl (by decide) rfl (fun ls hl => ?_)
          refine lv_iload hx hb dL_orders_96 (lv_at hl 4 rfl) ?_
          refine lv_if_ne (tgt := 124) hx hb dL_orders_98 (by decide) (fun c140 => absurd (c59) c140) (fun _ => ?_)
          refine lv_aload_n hx hb dL_orders_101 rfl (lv_at hl 5 rfl) ?_
          refine lv_iload hx hb dL_orders_102 (lv_at hl 7 rfl) ?_
          refine lv_iconst (v := 3) hx hb dL_orders_104 (by decide) ?_
          obtain ⟨r141, hc142, hf⟩ := g_b1_e hf
          refine g_call (va_runV (As := [.int x5, .int (3 : Int32)]) (rest := []) ⟨hx, hb, hml, hown, hts⟩ (c9_ordered l G E μ _ _ _ hc142) (cwV 2 hts gL_orders_X9_ordered rfl rfl rfl (by decide +kernel) ⟨Nat.le_of_ble_eq_true rfl, Nat.le_of_ble_eq_true rfl⟩) (g_preV (ci := 9) hR hK (hR.2.2.2.1) rfl) rfl rfl hl.1 rfl (lv_room (Nat.le_of_ble_eq_true rfl)) dL_orders_105 ⟨by show _ ≤ 0; omega, by show _ ≤ 0; omega⟩) hS (fun w143 H locs hp hR hS => ?_)
          subst hp
          refine lv_aload_n hx hb dL_orders_108 rfl (lv_at hl 5 rfl) ?_
          refine lv_iconst (v := 0) hx hb dL_orders_109 (by decide) ?_
          obtain ⟨r144, hc145, hf⟩ := g_b1_e hf
          refine g_call (va_runV (As := [.int (0 : Int32)]) (rest := [.int r141]) ⟨hx, hb, hml, hown, hts⟩ (c9_count l G E μ _ _ hc145) (cwV 1 hts gL_orders_X9_count rfl rfl rfl (by decide +kernel) ⟨Nat.le_of_ble_eq_true rfl, Nat.le_of_ble_eq_true rfl⟩) (g_preV (ci := 9) hR hK (hR.2.2.2.1) rfl) rfl rfl hl.1 rfl (lv_room (Nat.le_of_ble_eq_true rfl)) dL_orders_110 ⟨by show _ ≤ 0; omega, by show _ ≤ 0; omega⟩) hS (fun w146 H locs hp hR hS => ?_)
          subst hp
          refine lv_icmp_ge (tgt := 120) hx hb dL_orders_113 (by decide) (fun c147 => ?_) (fun c147 => ?_)
          · replace hf := g_it hf c147
            refine lv_iconst (v := 0) hx hb dL_orders_120 (by decide) ?_
            refine lv_goto (tgt := 147) hx hb dL_orders_121 (by decide) ?_
            refine lv_istore (lv' := [(8, .int (0 : Int32)), (4, .int t139), (3, .int t137), (2, .int t133), (7, .int r56), (6, .int r53), (0, .ref G.2.2), (1, .int x1), (5, .int x5)]) hx hb dL_orders_147 hl (by decide) rfl (fun ls hl => ?_)
            refine lv_iload hx hb dL_orders_149 (lv_at hl 0 rfl) ?_
            refine lv_aload_n hx hb dL_orders_151 rfl (lv_at hl 6 rfl) ?_
            refine lv_iload hx hb dL_orders_152 (lv_at hl 8 rfl) ?_
            refine lv_bipush (v := 7) hx hb dL_orders_154 (by decide) ?_
            obtain ⟨r148, hc149, hf⟩ := g_b1_e hf
            refine g_call (va_runV (As := [.int x5, .int (7 : Int32)]) (rest := [.int (0 : Int32)]) ⟨hx, hb, hml, hown, hts⟩ (c9_ordered l G E μ _ _ _ hc149) (cwV 2 hts gL_orders_X9_ordered rfl rfl rfl (by decide +kernel) ⟨Nat.le_of_ble_eq_true rfl, Nat.le_of_ble_eq_true rfl⟩) (g_preV (ci := 9) hR hK (hR.2.2.2.1) rfl) rfl rfl hl.1 rfl (lv_room (Nat.le_of_ble_eq_true rfl)) dL_orders_156 ⟨by show _ ≤ 0; omega, by show _ ≤ 0; omega⟩) hS (fun w150 H locs hp hR hS => ?_)
            subst hp
            refine lv_iconst (v := 1) hx hb dL_orders_159 (by decide) ?_
            refine lv_icmp_ne (tgt := 167) hx hb dL_orders_160 (by decide) (fun c151 => ?_) (fun c151 => ?_)
            · replace hf := g_it hf c151
              refine lv_iconst (v := 0) hx hb dL_orders_167 (by decide) ?_
              refine lv_icmp_ne (tgt := 224) hx hb dL_orders_168 (by decide) (fun c152 => absurd (by decide) c152) (fun _ => ?_)
              refine lv_iload hx hb dL_orders_171 (lv_at hl 5 rfl) ?_
              refine lv_iconst (v := 1) hx hb dL_orders_173 (by decide) ?_
              refine lv_icmp_ne (tgt := 181) hx hb dL_orders_174 (by decide) (fun _ => ?_) (fun c153 => absurd c153 (fun q => absurd ((c59).symm.trans q) (by decide)))
              refine lv_iconst (v := 0) hx hb dL_orders_181 (by decide) ?_
              refine lv_iload hx hb dL_orders_182 (lv_at hl 4 rfl) ?_
              refine lv_if_lt (tgt := 191) hx hb dL_orders_184 (by decide) (fun c154 => ?_) (fun c154 => ?_)
              · replace hf := g_it hf c154
                refine lv_iconst (v := 0) hx hb dL_orders_191 (by decide) ?_
                refine lv_icmp_ne (tgt := 224) hx hb dL_orders_192 (by decide) (fun c155 => absurd (by decide) c155) (fun _ => ?_)
                refine lv_iload hx hb dL_orders_195 (lv_at hl 5 rfl) ?_
                refine lv_iconst (v := 1) hx hb dL_orders_197 (by decide) ?_
                refine lv_icmp_ne (tgt := 205) hx hb dL_orders_198 (by decide) (fun _ => ?_) (fun c156 => absurd c156 (fun q => absurd ((c59).symm.trans q) (by decide)))
                refine lv_iconst (v := 0) hx hb dL_orders_205 (by decide) ?_
                refine lv_aload_n hx hb dL_orders_206 rfl (lv_at hl 6 rfl) ?_
                refine lv_iload hx hb dL_orders_207 (lv_at hl 8 rfl) ?_
                refine lv_iconst (v := 5) hx hb dL_orders_209 (by decide) ?_
                obtain ⟨r157, hc158, hf⟩ := g_b1_e hf
                refine g_call (va_runV (As := [.int x5, .int (5 : Int32)]) (rest := [.int (0 : Int32)]) ⟨hx, hb, hml, hown, hts⟩ (c9_ordered l G E μ _ _ _ hc158) (cwV 2 hts gL_orders_X9_ordered rfl rfl rfl (by decide +kernel) ⟨Nat.le_of_ble_eq_true rfl, Nat.le_of_ble_eq_true rfl⟩) (g_preV (ci := 9) hR hK (hR.2.2.2.1) rfl) rfl rfl hl.1 rfl (lv_room (Nat.le_of_ble_eq_true rfl)) dL_orders_210 ⟨by show _ ≤ 0; omega, by show _ ≤ 0; omega⟩) hS (fun w159 H locs hp hR hS => ?_)
                subst hp
                refine lv_if_lt (tgt := 220) hx hb dL_orders_213 (by decide) (fun c160 => ?_) (fun c160 => ?_)
                · replace hf := g_it hf c160
                  refine lv_iconst (v := 0) hx hb dL_orders_220 (by decide) ?_
                  refine lv_icmp_eq (tgt := 226) hx hb dL_orders_221 (by decide) (fun _ => ?_) (fun c161 => absurd (by decide) c161)
                  refine lv_iinc (v := x5 + 1) (lv' := [(5, .int (x5 + 1)), (8, .int (0 : Int32)), (4, .int t139), (3, .int t137), (2, .int t133), (7, .int r56), (6, .int r53), (0, .ref G.2.2), (1, .int x1)]) hx hb dL_orders_226 hl (k := 8) rfl rfl (by decide) rfl (fun ls hl => ?_)
                  refine lv_goto (tgt := 17) hx hb dL_orders_229 (by decide) ?_
                  exact ih _ _ _ _ _ _ _ _ hf  hR hS (lv_sub hl [7, 8, 4, 3, 2, 0] rfl)
                · replace hf := g_if hf c160
                  refine lv_iconst (v := 1) hx hb dL_orders_216 (by decide) ?_
                  refine lv_goto (tgt := 221) hx hb dL_orders_217 (by decide) ?_
                  refine lv_icmp_eq (tgt := 226) hx hb dL_orders_221 (by decide) (fun c162 => absurd c162 (by decide)) (fun _ => ?_)
                  refine lv_iconst (v := 0) hx hb dL_orders_224 (by decide) ?_
                  obtain rfl := g_s1 hf
                  exact g_zret hx hb hlocks hr hS hR g_le.rf (by decide) ⟨rfl, rfl⟩ (by omega) (by omega) dL_orders_225
              · replace hf := g_if hf c154
                refine lv_iconst (v := 1) hx hb dL_orders_187 (by decide) ?_
                refine lv_goto (tgt := 192) hx hb dL_orders_188 (by decide) ?_
                refine lv_icmp_ne (tgt := 224) hx hb dL_orders_192 (by decide) (fun _ => ?_) (fun c163 => absurd c163 (by decide))
                refine lv_iconst (v := 0) hx hb dL_orders_224 (by decide) ?_
                obtain rfl := g_s1 hf
                exact g_zret hx hb hlocks hr hS hR g_le.rf (by decide) ⟨rfl, rfl⟩ (by omega) (by omega) dL_orders_225
            · replace hf := g_if hf (fun q => q c151)
              refine lv_iconst (v := 1) hx hb dL_orders_163 (by decide) ?_
              refine lv_goto (tgt := 168) hx hb dL_orders_164 (by decide) ?_
              refine lv_icmp_ne (tgt := 224) hx hb dL_orders_168 (by decide) (fun _ => ?_) (fun c164 => absurd c164 (by decide))
              refine lv_iconst (v := 0) hx hb dL_orders_224 (by decide) ?_
              obtain rfl := g_s1 hf
              exact g_zret hx hb hlocks hr hS hR g_le.rf (by decide) ⟨rfl, rfl⟩ (by omega) (by omega) dL_orders_225
          · replace hf := g_if hf c147
            refine lv_iconst (v := 1) hx hb dL_orders_116 (by decide) ?_
            refine lv_goto (tgt := 147) hx hb dL_orders_117 (by decide) ?_
            refine lv_istore (lv' := [(8, .int (1 : Int32)), (4, .int t139), (3, .int t137), (2, .int t133), (7, .int r56), (6, .int r53), (0, .ref G.2.2), (1, .int x1), (5, .int x5)]) hx hb dL_orders_147 hl (by decide) rfl (fun ls hl => ?_)
            refine lv_iload hx hb dL_orders_149 (lv_at hl 0 rfl) ?_
            refine lv_aload_n hx hb dL_orders_151 rfl (lv_at hl 6 rfl) ?_
            refine lv_iload hx hb dL_orders_152 (lv_at hl 8 rfl) ?_
            refine lv_bipush (v := 7) hx hb dL_orders_154 (by decide) ?_
            obtain ⟨r165, hc166, hf⟩ := g_b1_e hf
            refine g_call (va_runV (As := [.int x5, .int (7 : Int32)]) (rest := [.int (1 : Int32)]) ⟨hx, hb, hml, hown, hts⟩ (c9_ordered l G E μ _ _ _ hc166) (cwV 2 hts gL_orders_X9_ordered rfl rfl rfl (by decide +kernel) ⟨Nat.le_of_ble_eq_true rfl, Nat.le_of_ble_eq_true rfl⟩) (g_preV (ci := 9) hR hK (hR.2.2.2.1) rfl) rfl rfl hl.1 rfl (lv_room (Nat.le_of_ble_eq_true rfl)) dL_orders_156 ⟨by show _ ≤ 0; omega, by show _ ≤ 0; omega⟩) hS (fun w167 H locs hp hR hS => ?_)
            subst hp
            refine lv_iconst (v := 1) hx hb dL_orders_159 (by decide) ?_
            refine lv_icmp_ne (tgt := 167) hx hb dL_orders_160 (by decide) (fun c168 => ?_) (fun c168 => ?_)
            · replace hf := g_it hf c168
              refine lv_iconst (v := 0) hx hb dL_orders_167 (by decide) ?_
              refine lv_icmp_ne (tgt := 224) hx hb dL_orders_168 (by decide) (fun _ => ?_) (fun c169 => absurd c169 (by decide))
              refine lv_iconst (v := 0) hx hb dL_orders_224 (by decide) ?_
              obtain rfl := g_s1 hf
              exact g_zret hx hb hlocks hr hS hR g_le.rf (by decide) ⟨rfl, rfl⟩ (by omega) (by omega) dL_orders_225
            · replace hf := g_if hf (fun q => q c168)
              refine lv_iconst (v := 1) hx hb dL_orders_163 (by decide) ?_
              refine lv_goto (tgt := 168) hx hb dL_orders_164 (by decide) ?_
              refine lv_icmp_ne (tgt := 224) hx hb dL_orders_168 (by decide) (fun c170 => absurd (by decide) c170) (fun _ => ?_)
              refine lv_iload hx hb dL_orders_171 (lv_at hl 5 rfl) ?_
              refine lv_iconst (v := 1) hx hb dL_orders_173 (by decide) ?_
              refine lv_icmp_ne (tgt := 181) hx hb dL_orders_174 (by decide) (fun _ => ?_) (fun c171 => absurd c171 (fun q => absurd ((c59).symm.trans q) (by decide)))
              refine lv_iconst (v := 0) hx hb dL_orders_181 (by decide) ?_
              refine lv_iload hx hb dL_orders_182 (lv_at hl 4 rfl) ?_
              refine lv_if_lt (tgt := 191) hx hb dL_orders_184 (by decide) (fun c172 => ?_) (fun c172 => ?_)
              · replace hf := g_it hf c172
                refine lv_iconst (v := 0) hx hb dL_orders_191 (by decide) ?_
                refine lv_icmp_ne (tgt := 224) hx hb dL_orders_192 (by decide) (fun c173 => absurd (by decide) c173) (fun _ => ?_)
                refine lv_iload hx hb dL_orders_195 (lv_at hl 5 rfl) ?_
                refine lv_iconst (v := 1) hx hb dL_orders_197 (by decide) ?_
                refine lv_icmp_ne (tgt := 205) hx hb dL_orders_198 (by decide) (fun _ => ?_) (fun c174 => absurd c174 (fun q => absurd ((c59).symm.trans q) (by decide)))
                refine lv_iconst (v := 0) hx hb dL_orders_205 (by decide) ?_
                refine lv_aload_n hx hb dL_orders_206 rfl (lv_at hl 6 rfl) ?_
                refine lv_iload hx hb dL_orders_207 (lv_at hl 8 rfl) ?_
                refine lv_iconst (v := 5) hx hb dL_orders_209 (by decide) ?_
                obtain ⟨r175, hc176, hf⟩ := g_b1_e hf
                refine g_call (va_runV (As := [.int x5, .int (5 : Int32)]) (rest := [.int (0 : Int32)]) ⟨hx, hb, hml, hown, hts⟩ (c9_ordered l G E μ _ _ _ hc176) (cwV 2 hts gL_orders_X9_ordered rfl rfl rfl (by decide +kernel) ⟨Nat.le_of_ble_eq_true rfl, Nat.le_of_ble_eq_true rfl⟩) (g_preV (ci := 9) hR hK (hR.2.2.2.1) rfl) rfl rfl hl.1 rfl (lv_room (Nat.le_of_ble_eq_true rfl)) dL_orders_210 ⟨by show _ ≤ 0; omega, by show _ ≤ 0; omega⟩) hS (fun w177 H locs hp hR hS => ?_)
                subst hp
                refine lv_if_lt (tgt := 220) hx hb dL_orders_213 (by decide) (fun c178 => ?_) (fun c178 => ?_)
                · replace hf := g_it hf c178
                  refine lv_iconst (v := 0) hx hb dL_orders_220 (by decide) ?_
                  refine lv_icmp_eq (tgt := 226) hx hb dL_orders_221 (by decide) (fun _ => ?_) (fun c179 => absurd (by decide) c179)
                  refine lv_iinc (v := x5 + 1) (lv' := [(5, .int (x5 + 1)), (8, .int (1 : Int32)), (4, .int t139), (3, .int t137), (2, .int t133), (7, .int r56), (6, .int r53), (0, .ref G.2.2), (1, .int x1)]) hx hb dL_orders_226 hl (k := 8) rfl rfl (by decide) rfl (fun ls hl => ?_)
                  refine lv_goto (tgt := 17) hx hb dL_orders_229 (by decide) ?_
                  exact ih _ _ _ _ _ _ _ _ hf  hR hS (lv_sub hl [7, 8, 4, 3, 2, 0] rfl)
                · replace hf := g_if hf c178
                  refine lv_iconst (v := 1) hx hb dL_orders_216 (by decide) ?_
                  refine lv_goto (tgt := 221) hx hb dL_orders_217 (by decide) ?_
                  refine lv_icmp_eq (tgt := 226) hx hb dL_orders_221 (by decide) (fun c180 => absurd c180 (by decide)) (fun _ => ?_)
                  refine lv_iconst (v := 0) hx hb dL_orders_224 (by decide) ?_
                  obtain rfl := g_s1 hf
                  exact g_zret hx hb hlocks hr hS hR g_le.rf (by decide) ⟨rfl, rfl⟩ (by omega) (by omega) dL_orders_225
              · replace hf := g_if hf c172
                refine lv_iconst (v := 1) hx hb dL_orders_187 (by decide) ?_
                refine lv_goto (tgt := 192) hx hb dL_orders_188 (by decide) ?_
                refine lv_icmp_ne (tgt := 224) hx hb dL_orders_192 (by decide) (fun _ => ?_) (fun c181 => absurd c181 (by decide))
                refine lv_iconst (v := 0) hx hb dL_orders_224 (by decide) ?_
                obtain rfl := g_s1 hf
                exact g_zret hx hb hlocks hr hS hR g_le.rf (by decide) ⟨rfl, rfl⟩ (by omega) (by omega) dL_orders_225
  unfold fL_orders at hf
  refine lv_aload_n hx hb dL_orders_0 rfl (lv_at hl 0 rfl) ?_
  refine lv_bipush (v := 9) hx hb dL_orders_1 (by decide) ?_
  obtain ⟨r1, hc2, hf⟩ := g_b1_e hf
  refine g_call (va_runV (As := [.int (9 : Int32)]) (rest := []) ⟨hx, hb, hml, hown, hts⟩ (c9_count l G E μ _ _ hc2) (cwV 1 hts gL_orders_X9_count rfl rfl rfl (by decide +kernel) ⟨Nat.le_of_ble_eq_true rfl, Nat.le_of_ble_eq_true rfl⟩) (g_preV (ci := 9) hR hK (hR.2.2.2.1) rfl) rfl rfl hl.1 rfl (lv_room (Nat.le_of_ble_eq_true rfl)) dL_orders_3 ⟨by show _ ≤ 0; omega, by show _ ≤ 0; omega⟩) hS (fun w3 H locs hp hR hS => ?_)
  subst hp
  refine lv_istore_n (lv' := [(1, .int r1), (0, .ref G.2.2)]) hx hb dL_orders_6 rfl hl (by decide) rfl (fun ls hl => ?_)
  refine lv_iconst (v := 0) hx hb dL_orders_7 (by decide) ?_
  refine lv_istore_n (lv' := [(2, .int (0 : Int32)), (1, .int r1), (0, .ref G.2.2)]) hx hb dL_orders_8 rfl hl (by decide) rfl (fun ls hl => ?_)
  refine lv_iconst (v := 0) hx hb dL_orders_9 (by decide) ?_
  refine lv_istore_n (lv' := [(3, .int (0 : Int32)), (2, .int (0 : Int32)), (1, .int r1), (0, .ref G.2.2)]) hx hb dL_orders_10 rfl hl (by decide) rfl (fun ls hl => ?_)
  refine lv_iconst (v := 0) hx hb dL_orders_11 (by decide) ?_
  refine lv_istore (lv' := [(4, .int (0 : Int32)), (3, .int (0 : Int32)), (2, .int (0 : Int32)), (1, .int r1), (0, .ref G.2.2)]) hx hb dL_orders_12 hl (by decide) rfl (fun ls hl => ?_)
  refine lv_iconst (v := 0) hx hb dL_orders_14 (by decide) ?_
  refine lv_istore (lv' := [(5, .int (0 : Int32)), (4, .int (0 : Int32)), (3, .int (0 : Int32)), (2, .int (0 : Int32)), (1, .int r1), (0, .ref G.2.2)]) hx hb dL_orders_15 hl (by decide) rfl (fun ls hl => ?_)
  exact hB17 70 _ _ _ _ _ _ _ _ hf  hR hS (lv_sub hl [5, 4, 3, 2, 1, 0] rfl)
set_option maxHeartbeats 4000000 in
set_option maxRecDepth 100000 in
theorem mL_racks (l : Launch) (G : gG) (E : gEn) (μ : gMu)  (ro : Int32) (hf : fL_racks μ = some ro) : Met l yL_racks wsL_racks ({ frames := 3, cells := 0, slots := 0, locals := 69 } : Room) (g_Pre G E μ [.ref G.2.2]) (g_Q G E μ (fun E' v => E' = E ∧ v = some (.int ro))) 0 0 (g_A G) := by
  refine Met.ofW (cc := cL_racks) (maxL := 6) (ret := some .boolean) (by decide) rfl ?_
  intro p e s m args below meth c s₁ B hml hv
  obtain ⟨rfl, hR, hK⟩ := hv
  have hx := B.exec
  have hb := B.bytes
  have hr := B.returns
  have hts := atoms_spec (ws := wsL_racks) B.pre
  have hown : s.vm.findClass RL = some m.cls := findClass_of_methodNamed B.named
  have hlocks := B.notSynchronized
  have hS : va_S (g_A G) s.heap s.heap [] := va_S.rf
  have hl := lv_entry ([.ref G.2.2]) (n := 6) (Nat.le_of_ble_eq_true rfl)
  rw [lg_entry_eq]
  generalize (lg_sl ([.ref G.2.2]) ++ List.replicate (6 - (lg_sl ([.ref G.2.2])).length) Slot.unset).toArray = ls at hl ⊢
  have hl : lv_has ls 6 [(0, .ref G.2.2)] := hl
  have hB14 : ∀ (K : gMu → Int32 → Int32 → Int32 → Int32 → Option (Int32)) (n : Nat) (x1 : Int32) (x2 : Int32) (x3 : Int32) (x4 : Int32) (H : Heap) (locs : List Loc) (ls : Array Slot), fL_racks_14 K n μ x1 x2 x3 x4 = some ro → g_R G E μ H → va_S (g_A G) s.heap H locs → lv_has ls 6 [(0, .ref G.2.2), (1, .int x1), (2, .int x2), (3, .int x3), (4, .int x4)] → (∀ (x1 : Int32) (x2 : Int32) (x3 : Int32) (x4 : Int32) (H : Heap) (locs : List Loc) (ls : Array Slot), K μ x1 x2 x3 x4 = some ro → g_R G E μ H → va_S (g_A G) s.heap H locs → lv_has ls 6 [(0, .ref G.2.2), (1, .int x1), (2, .int x2), (3, .int x3), (4, .int x4)] → W p l e (headSpec wsL_racks ({ frames := 3, cells := 0, slots := 0, locals := 69 } : Room)).room s m ([.ref G.2.2] : List Value).toArray below meth c H locs 0 0 (MQ below (g_Q G E μ (fun E' v => E' = E ∧ v = some (.int ro))) ([.ref G.2.2] : List Value).toArray s 0 0 (g_A G)) (F0 m 121 ls [])) → W p l e (headSpec wsL_racks ({ frames := 3, cells := 0, slots := 0, locals := 69 } : Room)).room s m ([.ref G.2.2] : List Value).toArray below meth c H locs 0 0 (MQ below (g_Q G E μ (fun E' v => E' = E ∧ v = some (.int ro))) ([.ref G.2.2] : List Value).toArray s 0 0 (g_A G)) (F0 m 14 ls []) := by
    intro K n
    induction n with
    | zero =>
      intro x1 x2 x3 x4 H locs ls hf
      rw [fL_racks_14] at hf
      cases hf
    | succ n ih =>
      intro x1 x2 x3 x4 H locs ls hf  hR hS hl hKc
      rw [fL_racks_14] at hf
      refine lv_aload_n hx hb dL_racks_14 rfl (lv_at hl 0 rfl) ?_
      refine lv_iload_n hx hb dL_racks_15 rfl (lv_at hl 3 rfl) ?_
      refine lv_iload hx hb dL_racks_16 (lv_at hl 4 rfl) ?_
      obtain ⟨r38, hc39, hf⟩ := g_b1_e hf
      refine g_call (va_runV (As := [.int x3, .int x4]) (rest := []) ⟨hx, hb, hml, hown, hts⟩ (c9_at l G E μ _ _ _ hc39) (cwV 2 hts gL_racks_X9_at rfl rfl rfl (by decide +kernel) ⟨Nat.le_of_ble_eq_true rfl, Nat.le_of_ble_eq_true rfl⟩) (g_preV (ci := 9) hR hK (hR.2.2.2.1) rfl) rfl rfl hl.1 rfl (lv_room (Nat.le_of_ble_eq_true rfl)) dL_racks_18 ⟨by show _ ≤ 0; omega, by show _ ≤ 0; omega⟩) hS (fun w40 H locs hp hR hS => ?_)
      subst hp
      refine lv_if_lt (tgt := 121) hx hb dL_racks_21 (by decide) (fun c41 => ?_) (fun c41 => ?_)
      · replace hf := g_it hf c41
        exact hKc _ _ _ _ _ _ _ hf hR hS (lv_sub hl [0, 1, 2, 3, 4] rfl)
      · replace hf := g_if hf c41
        refine lv_aload_n hx hb dL_racks_24 rfl (lv_at hl 0 rfl) ?_
        refine lv_iload_n hx hb dL_racks_25 rfl (lv_at hl 3 rfl) ?_
        refine lv_iload hx hb dL_racks_26 (lv_at hl 4 rfl) ?_
        obtain ⟨r42, hc43, hf⟩ := g_b1_e hf
        refine g_call (va_runV (As := [.int x3, .int x4]) (rest := []) ⟨hx, hb, hml, hown, hts⟩ (c9_at l G E μ _ _ _ hc43) (cwV 2 hts gL_racks_X9_at rfl rfl rfl (by decide +kernel) ⟨Nat.le_of_ble_eq_true rfl, Nat.le_of_ble_eq_true rfl⟩) (g_preV (ci := 9) hR hK (hR.2.2.2.1) rfl) rfl rfl hl.1 rfl (lv_room (Nat.le_of_ble_eq_true rfl)) dL_racks_28 ⟨by show _ ≤ 0; omega, by show _ ≤ 0; omega⟩) hS (fun w44 H locs hp hR hS => ?_)
        subst hp
        refine lv_istore (lv' := [(5, .int r42), (0, .ref G.2.2), (1, .int x1), (2, .int x2), (3, .int x3), (4, .int x4)]) hx hb dL_racks_31 hl (by decide) rfl (fun ls hl => ?_)
        refine lv_aload_n hx hb dL_racks_33 rfl (lv_at hl 1 rfl) ?_
        refine lv_iload hx hb dL_racks_34 (lv_at hl 0 rfl) ?_
        refine lv_iconst (v := 3) hx hb dL_racks_36 (by decide) ?_
        obtain ⟨r45, hc46, hf⟩ := g_b1_e hf
        refine g_call (va_runV (As := [.int r42, .int (3 : Int32)]) (rest := []) ⟨hx, hb, hml, hown, hts⟩ (c9_sheet l G E μ _ _ _ hc46) (cwV 2 hts gL_racks_X9_sheet rfl rfl rfl (by decide +kernel) ⟨Nat.le_of_ble_eq_true rfl, Nat.le_of_ble_eq_true rfl⟩) (g_preV (ci := 9) hR hK (hR.2.2.2.1) rfl) rfl rfl hl.1 rfl (lv_room (Nat.le_of_ble_eq_true rfl)) dL_racks_37 ⟨by show _ ≤ 0; omega, by show _ ≤ 0; omega⟩) hS (fun w47 H locs hp hR hS => ?_)
        subst hp
        refine lv_iload_n hx hb dL_racks_40 rfl (lv_at hl 4 rfl) ?_
        refine lv_icmp_ne (tgt := 92) hx hb dL_racks_41 (by decide) (fun c48 => ?_) (fun c48 => ?_)
        · replace hf := g_it hf c48
          refine lv_iconst (v := 0) hx hb dL_racks_92 (by decide) ?_
          obtain rfl := g_s1 hf
          exact g_zret hx hb hlocks hr hS hR g_le.rf (by decide) ⟨rfl, rfl⟩ (by omega) (by omega) dL_racks_93
        · replace hf := g_if hf (fun q => q c48)
          refine lv_aload_n hx hb dL_racks_44 rfl (lv_at hl 1 rfl) ?_
          refine lv_iload hx hb dL_racks_45 (lv_at hl 0 rfl) ?_
          refine lv_iconst (v := 4) hx hb dL_racks_47 (by decide) ?_
          obtain ⟨r49, hc50, hf⟩ := g_b1_e hf
          refine g_call (va_runV (As := [.int r42, .int (4 : Int32)]) (rest := []) ⟨hx, hb, hml, hown, hts⟩ (c9_sheet l G E μ _ _ _ hc50) (cwV 2 hts gL_racks_X9_sheet rfl rfl rfl (by decide +kernel) ⟨Nat.le_of_ble_eq_true rfl, Nat.le_of_ble_eq_true rfl⟩) (g_preV (ci := 9) hR hK (hR.2.2.2.1) rfl) rfl rfl hl.1 rfl (lv_room (Nat.le_of_ble_eq_true rfl)) dL_racks_48 ⟨by show _ ≤ 0; omega, by show _ ≤ 0; omega⟩) hS (fun w51 H locs hp hR hS => ?_)
          subst hp
          refine lv_iload hx hb dL_racks_51 (lv_at hl 5 rfl) ?_
          refine lv_icmp_ne (tgt := 92) hx hb dL_racks_53 (by decide) (fun c52 => ?_) (fun c52 => ?_)
          · replace hf := g_it hf c52
            refine lv_iconst (v := 0) hx hb dL_racks_92 (by decide) ?_
            obtain rfl := g_s1 hf
            exact g_zret hx hb hlocks hr hS hR g_le.rf (by decide) ⟨rfl, rfl⟩ (by omega) (by omega) dL_racks_93
          · replace hf := g_if hf (fun q => q c52)
            refine lv_iload hx hb dL_racks_56 (lv_at hl 0 rfl) ?_
            refine lv_aload_n hx hb dL_racks_58 rfl (lv_at hl 1 rfl) ?_
            refine lv_bipush (v := 12) hx hb dL_racks_59 (by decide) ?_
            obtain ⟨r53, hc54, hf⟩ := g_b1_e hf
            refine g_call (va_runV (As := [.int (12 : Int32)]) (rest := [.int r42]) ⟨hx, hb, hml, hown, hts⟩ (c9_count l G E μ _ _ hc54) (cwV 1 hts gL_racks_X9_count rfl rfl rfl (by decide +kernel) ⟨Nat.le_of_ble_eq_true rfl, Nat.le_of_ble_eq_true rfl⟩) (g_preV (ci := 9) hR hK (hR.2.2.2.1) rfl) rfl rfl hl.1 rfl (lv_room (Nat.le_of_ble_eq_true rfl)) dL_racks_61 ⟨by show _ ≤ 0; omega, by show _ ≤ 0; omega⟩) hS (fun w55 H locs hp hR hS => ?_)
            subst hp
            refine lv_icmp_ge (tgt := 92) hx hb dL_racks_64 (by decide) (fun c56 => ?_) (fun c56 => ?_)
            · replace hf := g_it hf c56
              refine lv_iconst (v := 0) hx hb dL_racks_92 (by decide) ?_
              obtain rfl := g_s1 hf
              exact g_zret hx hb hlocks hr hS hR g_le.rf (by decide) ⟨rfl, rfl⟩ (by omega) (by omega) dL_racks_93
            · replace hf := g_if hf c56
              refine lv_aload_n hx hb dL_racks_67 rfl (lv_at hl 1 rfl) ?_
              refine lv_iload hx hb dL_racks_68 (lv_at hl 0 rfl) ?_
              refine lv_iconst (v := 5) hx hb dL_racks_70 (by decide) ?_
              obtain ⟨r57, hc58, hf⟩ := g_b1_e hf
              refine g_call (va_runV (As := [.int r42, .int (5 : Int32)]) (rest := []) ⟨hx, hb, hml, hown, hts⟩ (c9_sheet l G E μ _ _ _ hc58) (cwV 2 hts gL_racks_X9_sheet rfl rfl rfl (by decide +kernel) ⟨Nat.le_of_ble_eq_true rfl, Nat.le_of_ble_eq_true rfl⟩) (g_preV (ci := 9) hR hK (hR.2.2.2.1) rfl) rfl rfl hl.1 rfl (lv_room (Nat.le_of_ble_eq_true rfl)) dL_racks_71 ⟨by show _ ≤ 0; omega, by show _ ≤ 0; omega⟩) hS (fun w59 H locs hp hR hS => ?_)
              subst hp
              refine lv_iload hx hb dL_racks_74 (lv_at hl 0 rfl) ?_
              refine lv_icmp_ge (tgt := 92) hx hb dL_racks_76 (by decide) (fun c60 => ?_) (fun c60 => ?_)
              · replace hf := g_it hf c60
                refine lv_iconst (v := 0) hx hb dL_racks_92 (by decide) ?_
                obtain rfl := g_s1 hf
                exact g_zret hx hb hlocks hr hS hR g_le.rf (by decide) ⟨rfl, rfl⟩ (by omega) (by omega) dL_racks_93
              · replace hf := g_if hf c60
                refine lv_aload_n hx hb dL_racks_79 rfl (lv_at hl 1 rfl) ?_
                refine lv_iload hx hb dL_racks_80 (lv_at hl 0 rfl) ?_
                refine lv_bipush (v := 6) hx hb dL_racks_82 (by decide) ?_
                obtain ⟨r61, hc62, hf⟩ := g_b1_e hf
                refine g_call (va_runV (As := [.int r42, .int (6 : Int32)]) (rest := []) ⟨hx, hb, hml, hown, hts⟩ (c9_sheet l G E μ _ _ _ hc62) (cwV 2 hts gL_racks_X9_sheet rfl rfl rfl (by decide +kernel) ⟨Nat.le_of_ble_eq_true rfl, Nat.le_of_ble_eq_true rfl⟩) (g_preV (ci := 9) hR hK (hR.2.2.2.1) rfl) rfl rfl hl.1 rfl (lv_room (Nat.le_of_ble_eq_true rfl)) dL_racks_84 ⟨by show _ ≤ 0; omega, by show _ ≤ 0; omega⟩) hS (fun w63 H locs hp hR hS => ?_)
                subst hp
                refine lv_bipush (v := -2) hx hb dL_racks_87 (by decide) ?_
                refine lv_icmp_eq (tgt := 94) hx hb dL_racks_89 (by decide) (fun c64 => ?_) (fun c64 => ?_)
                · replace hf := g_it hf c64
                  refine lv_iload_n hx hb dL_racks_94 rfl (lv_at hl 3 rfl) ?_
                  refine lv_aload_n hx hb dL_racks_95 rfl (lv_at hl 1 rfl) ?_
                  refine lv_iload hx hb dL_racks_96 (lv_at hl 0 rfl) ?_
                  refine lv_iconst (v := 1) hx hb dL_racks_98 (by decide) ?_
                  obtain ⟨r65, hc66, hf⟩ := g_b1_e hf
                  refine g_call (va_runV (As := [.int r42, .int (1 : Int32)]) (rest := [.int x2]) ⟨hx, hb, hml, hown, hts⟩ (c9_sheet l G E μ _ _ _ hc66) (cwV 2 hts gL_racks_X9_sheet rfl rfl rfl (by decide +kernel) ⟨Nat.le_of_ble_eq_true rfl, Nat.le_of_ble_eq_true rfl⟩) (g_preV (ci := 9) hR hK (hR.2.2.2.1) rfl) rfl rfl hl.1 rfl (lv_room (Nat.le_of_ble_eq_true rfl)) dL_racks_99 ⟨by show _ ≤ 0; omega, by show _ ≤ 0; omega⟩) hS (fun w67 H locs hp hR hS => ?_)
                  subst hp
                  refine lv_aload_n hx hb dL_racks_102 rfl (lv_at hl 1 rfl) ?_
                  refine lv_iload hx hb dL_racks_103 (lv_at hl 0 rfl) ?_
                  refine lv_iconst (v := 2) hx hb dL_racks_105 (by decide) ?_
                  obtain ⟨r68, hc69, hf⟩ := g_b1_e hf
                  refine g_call (va_runV (As := [.int r42, .int (2 : Int32)]) (rest := [.int r65, .int x2]) ⟨hx, hb, hml, hown, hts⟩ (c9_sheet l G E μ _ _ _ hc69) (cwV 2 hts gL_racks_X9_sheet rfl rfl rfl (by decide +kernel) ⟨Nat.le_of_ble_eq_true rfl, Nat.le_of_ble_eq_true rfl⟩) (g_preV (ci := 9) hR hK (hR.2.2.2.1) rfl) rfl rfl hl.1 rfl (lv_room (Nat.le_of_ble_eq_true rfl)) dL_racks_106 ⟨by show _ ≤ 0; omega, by show _ ≤ 0; omega⟩) hS (fun w70 H locs hp hR hS => ?_)
                  subst hp
                  refine lv_imul hx hb dL_racks_109 ?_
                  refine lv_iadd hx hb dL_racks_110 ?_
                  refine lv_topi (fun t71 et71 => ?_)
                  replace hf := g_let_at hf et71
                  refine lv_istore_n (lv' := [(2, .int t71), (5, .int r42), (0, .ref G.2.2), (1, .int x1), (3, .int x3), (4, .int x4)]) hx hb dL_racks_111 rfl hl (by decide) rfl (fun ls hl => ?_)
                  refine lv_iinc (v := x1 + 1) (lv' := [(1, .int (x1 + 1)), (2, .int t71), (5, .int r42), (0, .ref G.2.2), (3, .int x3), (4, .int x4)]) hx hb dL_racks_112 hl (k := 3) rfl rfl (by decide) rfl (fun ls hl => ?_)
                  refine lv_iinc (v := x4 + 1) (lv' := [(4, .int (x4 + 1)), (1, .int (x1 + 1)), (2, .int t71), (5, .int r42), (0, .ref G.2.2), (3, .int x3)]) hx hb dL_racks_115 hl (k := 5) rfl rfl (by decide) rfl (fun ls hl => ?_)
                  refine lv_goto (tgt := 14) hx hb dL_racks_118 (by decide) ?_
                  exact ih _ _ _ _ _ _ _ hf  hR hS (lv_sub hl [4, 1, 2, 5, 0] rfl) hKc
                · replace hf := g_if hf c64
                  refine lv_iconst (v := 0) hx hb dL_racks_92 (by decide) ?_
                  obtain rfl := g_s1 hf
                  exact g_zret hx hb hlocks hr hS hR g_le.rf (by decide) ⟨rfl, rfl⟩ (by omega) (by omega) dL_racks_93
  have hB6 : ∀ (n : Nat) (x1 : Int32) (x2 : Int32) (x3 : Int32) (H : Heap) (locs : List Loc) (ls : Array Slot), fL_racks_6 n μ x1 x2 x3 = some ro → g_R G E μ H → va_S (g_A G) s.heap H locs → lv_has ls 6 [(0, .ref G.2.2), (1, .int x1), (2, .int x2), (3, .int x3)] → W p l e (headSpec wsL_racks ({ frames := 3, cells := 0, slots := 0, locals := 69 } : Room)).room s m ([.ref G.2.2] : List Value).toArray below meth c H locs 0 0 (MQ below (g_Q G E μ (fun E' v => E' = E ∧ v = some (.int ro))) ([.ref G.2.2] : List Value).toArray s 0 0 (g_A G)) (F0 m 6 ls []) := by
    intro n
    induction n with
    | zero =>
      intro x1 x2 x3 H locs ls hf
      rw [fL_racks_6] at hf
      cases hf
    | succ n ih =>
      intro x1 x2 x3 H locs ls hf  hR hS hl
      rw [fL_racks_6] at hf
      refine lv_iload_n hx hb dL_racks_6 rfl (lv_at hl 3 rfl) ?_
      refine lv_iconst (v := 4) hx hb dL_racks_7 (by decide) ?_
      refine lv_icmp_ge (tgt := 159) hx hb dL_racks_8 (by decide) (fun c1 => ?_) (fun c1 => ?_)
      · replace hf := g_it hf c1
        refine lv_iload_n hx hb dL_racks_159 rfl (lv_at hl 2 rfl) ?_
        refine lv_aload_n hx hb dL_racks_160 rfl (lv_at hl 0 rfl) ?_
        refine lv_iconst (v := 4) hx hb dL_racks_161 (by decide) ?_
        obtain ⟨r2, hc3, hf⟩ := g_b1_e hf
        refine g_call (va_runV (As := [.int (4 : Int32)]) (rest := [.int x2]) ⟨hx, hb, hml, hown, hts⟩ (c9_count l G E μ _ _ hc3) (cwV 1 hts gL_racks_X9_count rfl rfl rfl (by decide +kernel) ⟨Nat.le_of_ble_eq_true rfl, Nat.le_of_ble_eq_true rfl⟩) (g_preV (ci := 9) hR hK (hR.2.2.2.1) rfl) rfl rfl hl.1 rfl (lv_room (Nat.le_of_ble_eq_true rfl)) dL_racks_162 ⟨by show _ ≤ 0; omega, by show _ ≤ 0; omega⟩) hS (fun w4 H locs hp hR hS => ?_)
        subst hp
        refine lv_iadd hx hb dL_racks_165 ?_
        refine lv_aload_n hx hb dL_racks_166 rfl (lv_at hl 0 rfl) ?_
        refine lv_iconst (v := 5) hx hb dL_racks_167 (by decide) ?_
        obtain ⟨r5, hc6, hf⟩ := g_b1_e hf
        refine g_call (va_runV (As := [.int (5 : Int32)]) (rest := [.int (x2 + r2)]) ⟨hx, hb, hml, hown, hts⟩ (c9_count l G E μ _ _ hc6) (cwV 1 hts gL_racks_X9_count rfl rfl rfl (by decide +kernel) ⟨Nat.le_of_ble_eq_true rfl, Nat.le_of_ble_eq_true rfl⟩) (g_preV (ci := 9) hR hK (hR.2.2.2.1) rfl) rfl rfl hl.1 rfl (lv_room (Nat.le_of_ble_eq_true rfl)) dL_racks_168 ⟨by show _ ≤ 0; omega, by show _ ≤ 0; omega⟩) hS (fun w7 H locs hp hR hS => ?_)
        subst hp
        refine lv_iadd hx hb dL_racks_171 ?_
        refine lv_aload_n hx hb dL_racks_172 rfl (lv_at hl 0 rfl) ?_
        refine lv_bipush (v := 6) hx hb dL_racks_173 (by decide) ?_
        obtain ⟨r8, hc9, hf⟩ := g_b1_e hf
        refine g_call (va_runV (As := [.int (6 : Int32)]) (rest := [.int ((x2 + r2) + r5)]) ⟨hx, hb, hml, hown, hts⟩ (c9_count l G E μ _ _ hc9) (cwV 1 hts gL_racks_X9_count rfl rfl rfl (by decide +kernel) ⟨Nat.le_of_ble_eq_true rfl, Nat.le_of_ble_eq_true rfl⟩) (g_preV (ci := 9) hR hK (hR.2.2.2.1) rfl) rfl rfl hl.1 rfl (lv_room (Nat.le_of_ble_eq_true rfl)) dL_racks_175 ⟨by show _ ≤ 0; omega, by show _ ≤ 0; omega⟩) hS (fun w10 H locs hp hR hS => ?_)
        subst hp
        refine lv_iadd hx hb dL_racks_178 ?_
        refine lv_aload_n hx hb dL_racks_179 rfl (lv_at hl 0 rfl) ?_
        refine lv_bipush (v := 7) hx hb dL_racks_180 (by decide) ?_
        obtain ⟨r11, hc12, hf⟩ := g_b1_e hf
        refine g_call (va_runV (As := [.int (7 : Int32)]) (rest := [.int (((x2 + r2) + r5) + r8)]) ⟨hx, hb, hml, hown, hts⟩ (c9_count l G E μ _ _ hc12) (cwV 1 hts gL_racks_X9_count rfl rfl rfl (by decide +kernel) ⟨Nat.le_of_ble_eq_true rfl, Nat.le_of_ble_eq_true rfl⟩) (g_preV (ci := 9) hR hK (hR.2.2.2.1) rfl) rfl rfl hl.1 rfl (lv_room (Nat.le_of_ble_eq_true rfl)) dL_racks_182 ⟨by show _ ≤ 0; omega, by show _ ≤ 0; omega⟩) hS (fun w13 H locs hp hR hS => ?_)
        subst hp
        refine lv_iadd hx hb dL_racks_185 ?_
        refine lv_topi (fun t14 et14 => ?_)
        replace hf := g_let_at hf et14
        refine lv_istore_n (lv' := [(3, .int t14), (0, .ref G.2.2), (1, .int x1), (2, .int x2)]) hx hb dL_racks_186 rfl hl (by decide) rfl (fun ls hl => ?_)
        refine lv_iload_n hx hb dL_racks_187 rfl (lv_at hl 2 rfl) ?_
        refine lv_aload_n hx hb dL_racks_188 rfl (lv_at hl 1 rfl) ?_
        refine lv_iconst (v := 1) hx hb dL_racks_189 (by decide) ?_
        obtain ⟨r15, hc16, hf⟩ := g_b1_e hf
        refine g_call (va_runV (As := [.int (1 : Int32)]) (rest := [.int x1]) ⟨hx, hb, hml, hown, hts⟩ (c9_count l G E μ _ _ hc16) (cwV 1 hts gL_racks_X9_count rfl rfl rfl (by decide +kernel) ⟨Nat.le_of_ble_eq_true rfl, Nat.le_of_ble_eq_true rfl⟩) (g_preV (ci := 9) hR hK (hR.2.2.2.1) rfl) rfl rfl hl.1 rfl (lv_room (Nat.le_of_ble_eq_true rfl)) dL_racks_190 ⟨by show _ ≤ 0; omega, by show _ ≤ 0; omega⟩) hS (fun w17 H locs hp hR hS => ?_)
        subst hp
        refine lv_icmp_ne (tgt := 243) hx hb dL_racks_193 (by decide) (fun c18 => ?_) (fun c18 => ?_)
        · replace hf := g_it hf c18
          refine lv_iconst (v := 0) hx hb dL_racks_243 (by decide) ?_
          obtain rfl := g_s1 hf
          exact g_zret hx hb hlocks hr hS hR g_le.rf (by decide) ⟨rfl, rfl⟩ (by omega) (by omega) dL_racks_244
        · replace hf := g_if hf (fun q => q c18)
          refine lv_iload_n hx hb dL_racks_196 rfl (lv_at hl 3 rfl) ?_
          refine lv_aload_n hx hb dL_racks_197 rfl (lv_at hl 1 rfl) ?_
          refine lv_iconst (v := 2) hx hb dL_racks_198 (by decide) ?_
          obtain ⟨r19, hc20, hf⟩ := g_b1_e hf
          refine g_call (va_runV (As := [.int (2 : Int32)]) (rest := [.int x2]) ⟨hx, hb, hml, hown, hts⟩ (c9_count l G E μ _ _ hc20) (cwV 1 hts gL_racks_X9_count rfl rfl rfl (by decide +kernel) ⟨Nat.le_of_ble_eq_true rfl, Nat.le_of_ble_eq_true rfl⟩) (g_preV (ci := 9) hR hK (hR.2.2.2.1) rfl) rfl rfl hl.1 rfl (lv_room (Nat.le_of_ble_eq_true rfl)) dL_racks_199 ⟨by show _ ≤ 0; omega, by show _ ≤ 0; omega⟩) hS (fun w21 H locs hp hR hS => ?_)
          subst hp
          refine lv_icmp_ne (tgt := 243) hx hb dL_racks_202 (by decide) (fun c22 => ?_) (fun c22 => ?_)
          · replace hf := g_it hf c22
            refine lv_iconst (v := 0) hx hb dL_racks_243 (by decide) ?_
            obtain rfl := g_s1 hf
            exact g_zret hx hb hlocks hr hS hR g_le.rf (by decide) ⟨rfl, rfl⟩ (by omega) (by omega) dL_racks_244
          · replace hf := g_if hf (fun q => q c22)
            refine lv_iload_n hx hb dL_racks_205 rfl (lv_at hl 0 rfl) ?_
            refine lv_aload_n hx hb dL_racks_206 rfl (lv_at hl 1 rfl) ?_
            refine lv_iconst (v := 3) hx hb dL_racks_207 (by decide) ?_
            obtain ⟨r23, hc24, hf⟩ := g_b1_e hf
            refine g_call (va_runV (As := [.int (3 : Int32)]) (rest := [.int t14]) ⟨hx, hb, hml, hown, hts⟩ (c9_count l G E μ _ _ hc24) (cwV 1 hts gL_racks_X9_count rfl rfl rfl (by decide +kernel) ⟨Nat.le_of_ble_eq_true rfl, Nat.le_of_ble_eq_true rfl⟩) (g_preV (ci := 9) hR hK (hR.2.2.2.1) rfl) rfl rfl hl.1 rfl (lv_room (Nat.le_of_ble_eq_true rfl)) dL_racks_208 ⟨by show _ ≤ 0; omega, by show _ ≤ 0; omega⟩) hS (fun w25 H locs hp hR hS => ?_)
            subst hp
            refine lv_icmp_ne (tgt := 243) hx hb dL_racks_211 (by decide) (fun c26 => ?_) (fun c26 => ?_)
            · replace hf := g_it hf c26
              refine lv_iconst (v := 0) hx hb dL_racks_243 (by decide) ?_
              obtain rfl := g_s1 hf
              exact g_zret hx hb hlocks hr hS hR g_le.rf (by decide) ⟨rfl, rfl⟩ (by omega) (by omega) dL_racks_244
            · replace hf := g_if hf (fun q => q c26)
              refine lv_aload_n hx hb dL_racks_214 rfl (lv_at hl 1 rfl) ?_
              refine lv_iconst (v := 4) hx hb dL_racks_215 (by decide) ?_
              refine lv_iconst (v := 0) hx hb dL_racks_216 (by decide) ?_
              obtain ⟨r27, hc28, hf⟩ := g_b1_e hf
              refine g_call (va_runV (As := [.int (4 : Int32), .int (0 : Int32)]) (rest := []) ⟨hx, hb, hml, hown, hts⟩ (c9_at l G E μ _ _ _ hc28) (cwV 2 hts gL_racks_X9_at rfl rfl rfl (by decide +kernel) ⟨Nat.le_of_ble_eq_true rfl, Nat.le_of_ble_eq_true rfl⟩) (g_preV (ci := 9) hR hK (hR.2.2.2.1) rfl) rfl rfl hl.1 rfl (lv_room (Nat.le_of_ble_eq_true rfl)) dL_racks_217 ⟨by show _ ≤ 0; omega, by show _ ≤ 0; omega⟩) hS (fun w29 H locs hp hR hS => ?_)
              subst hp
              refine lv_iconst (v := -1) hx hb dL_racks_220 (by decide) ?_
              refine lv_icmp_ne (tgt := 243) hx hb dL_racks_221 (by decide) (fun c30 => ?_) (fun c30 => ?_)
              · replace hf := g_it hf c30
                refine lv_iconst (v := 0) hx hb dL_racks_243 (by decide) ?_
                obtain rfl := g_s1 hf
                exact g_zret hx hb hlocks hr hS hR g_le.rf (by decide) ⟨rfl, rfl⟩ (by omega) (by omega) dL_racks_244
              · replace hf := g_if hf (fun q => q c30)
                refine lv_aload_n hx hb dL_racks_224 rfl (lv_at hl 1 rfl) ?_
                refine lv_aload_n hx hb dL_racks_225 rfl (lv_at hl 1 rfl) ?_
                refine lv_bipush (v := 12) hx hb dL_racks_226 (by decide) ?_
                obtain ⟨r31, hc32, hf⟩ := g_b1_e hf
                refine g_call (va_runV (As := [.int (12 : Int32)]) (rest := [.ref G.2.2]) ⟨hx, hb, hml, hown, hts⟩ (c9_count l G E μ _ _ hc32) (cwV 1 hts gL_racks_X9_count rfl rfl rfl (by decide +kernel) ⟨Nat.le_of_ble_eq_true rfl, Nat.le_of_ble_eq_true rfl⟩) (g_preV (ci := 9) hR hK (hR.2.2.2.1) rfl) rfl rfl hl.1 rfl (lv_room (Nat.le_of_ble_eq_true rfl)) dL_racks_228 ⟨by show _ ≤ 0; omega, by show _ ≤ 0; omega⟩) hS (fun w33 H locs hp hR hS => ?_)
                subst hp
                refine lv_iconst (v := 0) hx hb dL_racks_231 (by decide) ?_
                obtain ⟨r34, hc35, hf⟩ := g_b1_e hf
                refine g_call (va_runV (As := [.int r31, .int (0 : Int32)]) (rest := []) ⟨hx, hb, hml, hown, hts⟩ (c9_sheet l G E μ _ _ _ hc35) (cwV 2 hts gL_racks_X9_sheet rfl rfl rfl (by decide +kernel) ⟨Nat.le_of_ble_eq_true rfl, Nat.le_of_ble_eq_true rfl⟩) (g_preV (ci := 9) hR hK (hR.2.2.2.1) rfl) rfl rfl hl.1 rfl (lv_room (Nat.le_of_ble_eq_true rfl)) dL_racks_232 ⟨by show _ ≤ 0; omega, by show _ ≤ 0; omega⟩) hS (fun w36 H locs hp hR hS => ?_)
                subst hp
                refine lv_iconst (v := -1) hx hb dL_racks_235 (by decide) ?_
                refine lv_icmp_ne (tgt := 243) hx hb dL_racks_236 (by decide) (fun c37 => ?_) (fun c37 => ?_)
                · replace hf := g_it hf c37
                  refine lv_iconst (v := 0) hx hb dL_racks_243 (by decide) ?_
                  obtain rfl := g_s1 hf
                  exact g_zret hx hb hlocks hr hS hR g_le.rf (by decide) ⟨rfl, rfl⟩ (by omega) (by omega) dL_racks_244
                · replace hf := g_if hf (fun q => q c37)
                  refine lv_iconst (v := 1) hx hb dL_racks_239 (by decide) ?_
                  refine lv_goto (tgt := 244) hx hb dL_racks_240 (by decide) ?_
                  obtain rfl := g_s1 hf
                  exact g_zret hx hb hlocks hr hS hR g_le.rf (by decide) ⟨rfl, rfl⟩ (by omega) (by omega) dL_racks_244
      · replace hf := g_if hf c1
        refine lv_iconst (v := 0) hx hb dL_racks_11 (by decide) ?_
        refine lv_istore (lv' := [(4, .int (0 : Int32)), (0, .ref G.2.2), (1, .int x1), (2, .int x2), (3, .int x3)]) hx hb dL_racks_12 hl (by decide) rfl (fun ls hl => ?_)
        exact hB14 _ 70 _ _ _ _ _ _ _ hf  hR hS (lv_sub hl [1, 2, 3, 4, 0] rfl) (fun  k73 k74 k75 k76 H locs ls hf hR hS hl => by
          refine lv_iload hx hb dL_racks_121 (lv_at hl 4 rfl) ?_
          refine lv_bipush (v := 8) hx hb dL_racks_123 (by decide) ?_
          refine lv_icmp_gt (tgt := 151) hx hb dL_racks_125 (by decide) (fun c77 => ?_) (fun c77 => ?_)
          · replace hf := g_it hf c77
            refine lv_iconst (v := 0) hx hb dL_racks_151 (by decide) ?_
            obtain rfl := g_s1 hf
            exact g_zret hx hb hlocks hr hS hR g_le.rf (by decide) ⟨rfl, rfl⟩ (by omega) (by omega) dL_racks_152
          · replace hf := g_if hf c77
            refine lv_aload_n hx hb dL_racks_128 rfl (lv_at hl 0 rfl) ?_
            refine lv_iload_n hx hb dL_racks_129 rfl (lv_at hl 3 rfl) ?_
            refine lv_iload hx hb dL_racks_130 (lv_at hl 4 rfl) ?_
            obtain ⟨r78, hc79, hf⟩ := g_b1_e hf
            refine g_call (va_runV (As := [.int k75, .int k76]) (rest := []) ⟨hx, hb, hml, hown, hts⟩ (c9_at l G E μ _ _ _ hc79) (cwV 2 hts gL_racks_X9_at rfl rfl rfl (by decide +kernel) ⟨Nat.le_of_ble_eq_true rfl, Nat.le_of_ble_eq_true rfl⟩) (g_preV (ci := 9) hR hK (hR.2.2.2.1) rfl) rfl rfl hl.1 rfl (lv_room (Nat.le_of_ble_eq_true rfl)) dL_racks_132 ⟨by show _ ≤ 0; omega, by show _ ≤ 0; omega⟩) hS (fun w80 H locs hp hR hS => ?_)
            subst hp
            refine lv_bipush (v := -5) hx hb dL_racks_135 (by decide) ?_
            refine lv_icmp_ne (tgt := 151) hx hb dL_racks_137 (by decide) (fun c81 => ?_) (fun c81 => ?_)
            · replace hf := g_it hf c81
              refine lv_iconst (v := 0) hx hb dL_racks_151 (by decide) ?_
              obtain rfl := g_s1 hf
              exact g_zret hx hb hlocks hr hS hR g_le.rf (by decide) ⟨rfl, rfl⟩ (by omega) (by omega) dL_racks_152
            · replace hf := g_if hf (fun q => q c81)
              refine lv_aload_n hx hb dL_racks_140 rfl (lv_at hl 0 rfl) ?_
              refine lv_iload_n hx hb dL_racks_141 rfl (lv_at hl 3 rfl) ?_
              refine lv_iconst (v := -1) hx hb dL_racks_142 (by decide) ?_
              obtain ⟨r82, hc83, hf⟩ := g_b1_e hf
              refine g_call (va_runV (As := [.int k75, .int (-1 : Int32)]) (rest := []) ⟨hx, hb, hml, hown, hts⟩ (c9_at l G E μ _ _ _ hc83) (cwV 2 hts gL_racks_X9_at rfl rfl rfl (by decide +kernel) ⟨Nat.le_of_ble_eq_true rfl, Nat.le_of_ble_eq_true rfl⟩) (g_preV (ci := 9) hR hK (hR.2.2.2.1) rfl) rfl rfl hl.1 rfl (lv_room (Nat.le_of_ble_eq_true rfl)) dL_racks_143 ⟨by show _ ≤ 0; omega, by show _ ≤ 0; omega⟩) hS (fun w84 H locs hp hR hS => ?_)
              subst hp
              refine lv_bipush (v := -2) hx hb dL_racks_146 (by decide) ?_
              refine lv_icmp_eq (tgt := 153) hx hb dL_racks_148 (by decide) (fun c85 => ?_) (fun c85 => ?_)
              · replace hf := g_it hf c85
                refine lv_iinc (v := k75 + 1) (lv' := [(3, .int (k75 + 1)), (0, .ref G.2.2), (1, .int k73), (2, .int k74), (4, .int k76)]) hx hb dL_racks_153 hl (k := 3) rfl rfl (by decide) rfl (fun ls hl => ?_)
                refine lv_goto (tgt := 6) hx hb dL_racks_156 (by decide) ?_
                exact ih _ _ _ _ _ _ hf  hR hS (lv_sub hl [1, 2, 3, 0] rfl)
              · replace hf := g_if hf c85
                refine lv_iconst (v := 0) hx hb dL_racks_151 (by decide) ?_
                obtain rfl := g_s1 hf
                exact g_zret hx hb hlocks hr hS hR g_le.rf (by decide) ⟨rfl, rfl⟩ (by omega) (by omega) dL_racks_152)
  unfold fL_racks at hf
  refine lv_iconst (v := 0) hx hb dL_racks_0 (by decide) ?_
  refine lv_istore_n (lv' := [(1, .int (0 : Int32)), (0, .ref G.2.2)]) hx hb dL_racks_1 rfl hl (by decide) rfl (fun ls hl => ?_)
  refine lv_iconst (v := 0) hx hb dL_racks_2 (by decide) ?_
  refine lv_istore_n (lv' := [(2, .int (0 : Int32)), (1, .int (0 : Int32)), (0, .ref G.2.2)]) hx hb dL_racks_3 rfl hl (by decide) rfl (fun ls hl => ?_)
  refine lv_iconst (v := 0) hx hb dL_racks_4 (by decide) ?_
  refine lv_istore_n (lv' := [(3, .int (0 : Int32)), (2, .int (0 : Int32)), (1, .int (0 : Int32)), (0, .ref G.2.2)]) hx hb dL_racks_5 rfl hl (by decide) rfl (fun ls hl => ?_)
  exact hB6 70 _ _ _ _ _ _ hf  hR hS (lv_sub hl [3, 2, 1, 0] rfl)
