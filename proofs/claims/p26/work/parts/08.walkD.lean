set_option maxHeartbeats 4000000 in
set_option maxRecDepth 100000 in
theorem c2_stateAt (l : Launch) (G : gG) (E : gEn) (μ : gMu) (p1 : Int32) (ro : Option Nat) (hf : f2_stateAt μ p1 = some ro) : Met l yX2_stateAt wsX2_stateAt ({ frames := 0, cells := 0, slots := 0, locals := 0 } : Room) (g_Pre G E μ [.ref (G.2.2 + 22), .int p1]) (g_Q G E μ (fun E' v => E' = E ∧ ∃ w : Value, v = some w ∧ g_rj G w ro)) 0 0 (g_A G) := by
  refine Met.ofW (cc := cX2_stateAt) (maxL := 2) (ret := some (.object "GlassRacks$State")) (by decide) rfl ?_
  intro p e s m args below meth c s₁ B hml hv
  obtain ⟨rfl, hR, hK⟩ := hv
  have hx := B.exec
  have hb := B.bytes
  have hr := B.returns
  have hts := atoms_spec (ws := wsX2_stateAt) B.pre
  have hown : s.vm.findClass RX2 = some m.cls := findClass_of_methodNamed B.named
  have hlocks := B.notSynchronized
  have hS : va_S (g_A G) s.heap s.heap [] := va_S.rf
  have hl := lv_entry ([.ref (G.2.2 + 22), .int p1]) (n := 2) (Nat.le_of_ble_eq_true rfl)
  rw [lg_entry_eq]
  generalize (lg_sl ([.ref (G.2.2 + 22), .int p1]) ++ List.replicate (2 - (lg_sl ([.ref (G.2.2 + 22), .int p1])).length) Slot.unset).toArray = ls at hl ⊢
  have hl : lv_has ls 2 [(0, .ref (G.2.2 + 22)), (1, .int p1)] := hl
  have in_2 : ∀ w ∈ u_ws RX2 TX2 2, w ∈ wsX2_stateAt := ifX2_stateAt_2
  have l_11 := hts (.fieldLink RX2 11 "GlassRacks$History" "states" "[LGlassRacks$State;") (by decide +kernel)
  unfold f2_stateAt at hf
  refine lv_iload_n hx hb dX2_stateAt_0 rfl (lv_at hl 1 rfl) ?_
  refine lv_if_lt (tgt := 22) hx hb dX2_stateAt_1 (by decide) (fun c1 => ?_) (fun c1 => ?_)
  · replace hf := g_it hf c1
    refine lv_null hx hb dX2_stateAt_22 ?_
    obtain rfl := g_s1 hf
    exact g_aret hx hb hlocks hr hS hR g_le.rf (Or.inl rfl) ⟨rfl, _, rfl, rfl⟩ (by omega) (by omega) dX2_stateAt_23
  · replace hf := g_if hf c1
    refine lv_iload_n hx hb dX2_stateAt_4 rfl (lv_at hl 1 rfl) ?_
    refine lv_aload_n hx hb dX2_stateAt_5 rfl (lv_at hl 0 rfl) ?_
    refine g_get hx hb hts in_2 hown hK hR.2.1.2.1 rfl 0 (by decide) l_11 rfl rfl dX2_stateAt_6 ?_
    refine g_ahlen hx hb hK hR dX2_stateAt_9 ?_
    refine lv_icmp_ge (tgt := 22) hx hb dX2_stateAt_10 (by decide) (fun c2 => ?_) (fun c2 => ?_)
    · replace hf := g_it hf c2
      refine lv_null hx hb dX2_stateAt_22 ?_
      obtain rfl := g_s1 hf
      exact g_aret hx hb hlocks hr hS hR g_le.rf (Or.inl rfl) ⟨rfl, _, rfl, rfl⟩ (by omega) (by omega) dX2_stateAt_23
    · replace hf := g_if hf c2
      refine lv_aload_n hx hb dX2_stateAt_13 rfl (lv_at hl 0 rfl) ?_
      refine g_get hx hb hts in_2 hown hK hR.2.1.2.1 rfl 0 (by decide) l_11 rfl rfl dX2_stateAt_14 ?_
      refine lv_iload_n hx hb dX2_stateAt_17 rfl (lv_at hl 1 rfl) ?_
      obtain ⟨hg3, hf⟩ := g_gd hf
      refine g_ahld hx hb hK hR hg3 dX2_stateAt_18 (fun hb4 => ?_)
      generalize eb4 : μ.2.1.1 p1.toNatClampNeg = b4 at hb4 ⊢
      replace hf := g_let_at hf eb4.symm
      refine lv_goto (tgt := 23) hx hb dX2_stateAt_19 (by decide) ?_
      obtain rfl := g_s1 hf
      exact g_aret hx hb hlocks hr hS hR g_le.rf (Or.inr ⟨_, rfl⟩) ⟨rfl, _, rfl, hb4, rfl⟩ (by omega) (by omega) dX2_stateAt_23
set_option maxHeartbeats 4000000 in
set_option maxRecDepth 100000 in
theorem c2_dropOldest (l : Launch) (G : gG) (E : gEn) (μ : gMu)  (zo : gMu) (hf : f2_dropOldest μ = some zo) : Met l yX2_dropOldest wsX2_dropOldest ({ frames := 1, cells := 0, slots := 0, locals := 21 } : Room) (g_Pre G E μ [.ref (G.2.2 + 22)]) (g_Q G E zo (fun E' v => E' = E ∧ v = none)) 0 0 (g_A G) := by
  refine Met.ofW (cc := cX2_dropOldest) (maxL := 3) (ret := none) (by decide) rfl ?_
  intro p e s m args below meth c s₁ B hml hv
  obtain ⟨rfl, hR, hK⟩ := hv
  have hx := B.exec
  have hb := B.bytes
  have hr := B.returns
  have hts := atoms_spec (ws := wsX2_dropOldest) B.pre
  have hown : s.vm.findClass RX2 = some m.cls := findClass_of_methodNamed B.named
  have hlocks := B.notSynchronized
  have hS : va_S (g_A G) s.heap s.heap [] := va_S.rf
  have hl := lv_entry ([.ref (G.2.2 + 22)]) (n := 3) (Nat.le_of_ble_eq_true rfl)
  rw [lg_entry_eq]
  generalize (lg_sl ([.ref (G.2.2 + 22)]) ++ List.replicate (3 - (lg_sl ([.ref (G.2.2 + 22)])).length) Slot.unset).toArray = ls at hl ⊢
  have hl : lv_has ls 3 [(0, .ref (G.2.2 + 22))] := hl
  have in_2 : ∀ w ∈ u_ws RX2 TX2 2, w ∈ wsX2_dropOldest := ifX2_dropOldest_2
  have l_11 := hts (.fieldLink RX2 11 "GlassRacks$History" "states" "[LGlassRacks$State;") (by decide +kernel)
  have l_17 := hts (.fieldLink RX2 17 "GlassRacks$History" "recorded" "I") (by decide +kernel)
  have hB8 : ∀ (n : Nat) (z0 : gMu) (bx1 : Nat) (x2 : Int32) (H : Heap) (locs : List Loc) (ls : Array Slot), f2_dropOldest_8 n z0 bx1 x2 = some zo → bx1 < 7 → g_R G E z0 H → va_S (g_A G) s.heap H locs → lv_has ls 3 [(0, .ref (G.2.2 + 22)), (1, .ref (g_stA G bx1)), (2, .int x2)] → W p l e (headSpec wsX2_dropOldest ({ frames := 1, cells := 0, slots := 0, locals := 21 } : Room)).room s m ([.ref (G.2.2 + 22)] : List Value).toArray below meth c H locs 0 0 (MQ below (g_Q G E zo (fun E' v => E' = E ∧ v = none)) ([.ref (G.2.2 + 22)] : List Value).toArray s 0 0 (g_A G)) (F0 m 8 ls []) := by
    intro n
    induction n with
    | zero =>
      intro z0 bx1 x2 H locs ls hf
      rw [f2_dropOldest_8] at hf
      cases hf
    | succ n ih =>
      intro z0 bx1 x2 H locs ls hf hbx1 hR hS hl
      rw [f2_dropOldest_8] at hf
      refine lv_iload_n hx hb dX2_dropOldest_8 rfl (lv_at hl 2 rfl) ?_
      refine lv_aload_n hx hb dX2_dropOldest_9 rfl (lv_at hl 0 rfl) ?_
      refine g_get hx hb hts in_2 hown hK hR.2.1.2.1 rfl 0 (by decide) l_11 rfl rfl dX2_dropOldest_10 ?_
      refine g_ahlen hx hb hK hR dX2_dropOldest_13 ?_
      refine lv_icmp_ge (tgt := 52) hx hb dX2_dropOldest_14 (by decide) (fun c6 => ?_) (fun c6 => ?_)
      · replace hf := g_it hf c6
        refine lv_aload_n hx hb dX2_dropOldest_52 rfl (lv_at hl 0 rfl) ?_
        refine lv_dup hx hb dX2_dropOldest_53 rfl ?_
        refine g_get hx hb hts in_2 hown hK hR.2.1.2.1 rfl 1 (by decide) l_17 rfl rfl dX2_dropOldest_54 ?_
        refine lv_iconst (v := 1) hx hb dX2_dropOldest_57 (by decide) ?_
        refine lv_isub hx hb dX2_dropOldest_58 ?_
        refine g_p2_1 hx hb hts in_2 hown hK hS hR l_17 dX2_dropOldest_59 (fun H locs hR hS => ?_)
        obtain ⟨z7, ez7, hf⟩ := g_let_e hf
        replace hR : g_R G E z7 H := by rw [ez7]; exact hR
        obtain rfl := g_s1 hf
        exact g_vret hx hb hlocks hr hS hR g_le.rf ⟨rfl, rfl⟩ (by omega) (by omega) dX2_dropOldest_62
      · replace hf := g_if hf c6
        refine lv_aload_n hx hb dX2_dropOldest_17 rfl (lv_at hl 0 rfl) ?_
        refine g_get hx hb hts in_2 hown hK hR.2.1.2.1 rfl 0 (by decide) l_11 rfl rfl dX2_dropOldest_18 ?_
        refine lv_iload_n hx hb dX2_dropOldest_21 rfl (lv_at hl 2 rfl) ?_
        refine lv_iload_n hx hb dX2_dropOldest_22 rfl (lv_at hl 2 rfl) ?_
        refine lv_iconst (v := 1) hx hb dX2_dropOldest_23 (by decide) ?_
        refine lv_iadd hx hb dX2_dropOldest_24 ?_
        refine lv_aload_n hx hb dX2_dropOldest_25 rfl (lv_at hl 0 rfl) ?_
        refine g_get hx hb hts in_2 hown hK hR.2.1.2.1 rfl 0 (by decide) l_11 rfl rfl dX2_dropOldest_26 ?_
        refine g_ahlen hx hb hK hR dX2_dropOldest_29 ?_
        refine lv_icmp_ge (tgt := 44) hx hb dX2_dropOldest_30 (by decide) (fun c8 => ?_) (fun c8 => ?_)
        · replace hf := g_it hf c8
          refine lv_aload_n hx hb dX2_dropOldest_44 rfl (lv_at hl 1 rfl) ?_
          obtain ⟨hg9, hf⟩ := g_gd hf
          refine g_ahst hx hb hK hS hR hbx1 hg9 dX2_dropOldest_45 (fun H locs hR hS => ?_)
          obtain ⟨z10, ez10, hf⟩ := g_let_e hf
          replace hR : g_R G E z10 H := by rw [ez10]; exact hR
          refine lv_iinc (v := x2 + 1) (lv' := [(2, .int (x2 + 1)), (0, .ref (G.2.2 + 22)), (1, .ref (g_stA G bx1))]) hx hb dX2_dropOldest_46 hl (k := 2) rfl rfl (by decide) rfl (fun ls hl => ?_)
          refine lv_goto (tgt := 8) hx hb dX2_dropOldest_49 (by decide) ?_
          exact ih _ _ _ _ _ _ hf hbx1 hR hS (lv_sub hl [1, 2, 0] rfl)
        · replace hf := g_if hf c8
          refine lv_aload_n hx hb dX2_dropOldest_33 rfl (lv_at hl 0 rfl) ?_
          refine g_get hx hb hts in_2 hown hK hR.2.1.2.1 rfl 0 (by decide) l_11 rfl rfl dX2_dropOldest_34 ?_
          refine lv_iload_n hx hb dX2_dropOldest_37 rfl (lv_at hl 2 rfl) ?_
          refine lv_iconst (v := 1) hx hb dX2_dropOldest_38 (by decide) ?_
          refine lv_iadd hx hb dX2_dropOldest_39 ?_
          obtain ⟨hg11, hf⟩ := g_gd hf
          refine g_ahld hx hb hK hR hg11 dX2_dropOldest_40 (fun hb12 => ?_)
          generalize eb12 : z0.2.1.1 (x2 + (1 : Int32)).toNatClampNeg = b12 at hb12 ⊢
          replace hf := g_let_at hf eb12.symm
          refine lv_goto (tgt := 45) hx hb dX2_dropOldest_41 (by decide) ?_
          obtain ⟨hg13, hf⟩ := g_gd hf
          refine g_ahst hx hb hK hS hR hb12 hg13 dX2_dropOldest_45 (fun H locs hR hS => ?_)
          obtain ⟨z14, ez14, hf⟩ := g_let_e hf
          replace hR : g_R G E z14 H := by rw [ez14]; exact hR
          refine lv_iinc (v := x2 + 1) (lv' := [(2, .int (x2 + 1)), (0, .ref (G.2.2 + 22)), (1, .ref (g_stA G bx1))]) hx hb dX2_dropOldest_46 hl (k := 2) rfl rfl (by decide) rfl (fun ls hl => ?_)
          refine lv_goto (tgt := 8) hx hb dX2_dropOldest_49 (by decide) ?_
          exact ih _ _ _ _ _ _ hf hbx1 hR hS (lv_sub hl [1, 2, 0] rfl)
  unfold f2_dropOldest at hf
  refine lv_aload_n hx hb dX2_dropOldest_0 rfl (lv_at hl 0 rfl) ?_
  refine lv_iconst (v := 0) hx hb dX2_dropOldest_1 (by decide) ?_
  obtain ⟨r1, hc2, hf⟩ := g_b1_e hf
  refine g_call (va_runV (As := [.int (0 : Int32)]) (rest := []) ⟨hx, hb, hml, hown, hts⟩ (c2_stateAt l G E μ _ _ hc2) (cwV 1 hts gX2_dropOldest_X2_stateAt rfl rfl rfl (by decide +kernel) ⟨Nat.le_of_ble_eq_true rfl, Nat.le_of_ble_eq_true rfl⟩) (g_preV (ci := 2) hR hK (hR.2.1.2.1) rfl) rfl rfl hl.1 rfl (lv_room (Nat.le_of_ble_eq_true rfl)) dX2_dropOldest_2 ⟨by show _ ≤ 0; omega, by show _ ≤ 0; omega⟩) hS (fun w3 H locs hp hR hS => ?_)
  obtain ⟨w4, rfl, hp⟩ := hp
  rcases r1 with _ | b5
  · replace hf := g_ocn hf rfl
    obtain rfl : w4 = .null := hp
    refine lv_astore_nN (lv' := [(1, .null), (0, .ref (G.2.2 + 22))]) hx hb dX2_dropOldest_5 rfl hl (by decide) rfl (fun ls hl => ?_)
    refine lv_iconst (v := 0) hx hb dX2_dropOldest_6 (by decide) ?_
    refine lv_istore_n (lv' := [(2, .int (0 : Int32)), (1, .null), (0, .ref (G.2.2 + 22))]) hx hb dX2_dropOldest_7 rfl hl (by decide) rfl (fun ls hl => ?_)
    cases hf
  · replace hf := g_ocs hf rfl
    obtain ⟨hb5, rfl⟩ : b5 < 7 ∧ w4 = .ref (g_stA G b5) := hp
    refine lv_astore_n (lv' := [(1, .ref (g_stA G b5)), (0, .ref (G.2.2 + 22))]) hx hb dX2_dropOldest_5 rfl hl (by decide) rfl (fun ls hl => ?_)
    refine lv_iconst (v := 0) hx hb dX2_dropOldest_6 (by decide) ?_
    refine lv_istore_n (lv' := [(2, .int (0 : Int32)), (1, .ref (g_stA G b5)), (0, .ref (G.2.2 + 22))]) hx hb dX2_dropOldest_7 rfl hl (by decide) rfl (fun ls hl => ?_)
    exact hB8 70 _ _ _ _ _ _ hf hb5 hR hS (lv_sub hl [2, 1, 0] rfl)
set_option maxHeartbeats 4000000 in
set_option maxRecDepth 100000 in
theorem c2_record (l : Launch) (G : gG) (E : gEn) (μ : gMu) (b1 : Nat) (hb1 : b1 < 7) (zo : gMu) (hf : f2_record μ b1 = some zo) : Met l yX2_record wsX2_record ({ frames := 3, cells := 0, slots := 0, locals := 64 } : Room) (g_Pre G E μ [.ref (G.2.2 + 22), .ref (g_stA G b1)]) (g_Q G E zo (fun E' v => E' = E ∧ v = none)) 0 0 (g_A G) := by
  refine Met.ofW (cc := cX2_record) (maxL := 3) (ret := none) (by decide) rfl ?_
  intro p e s m args below meth c s₁ B hml hv
  obtain ⟨rfl, hR, hK⟩ := hv
  have hx := B.exec
  have hb := B.bytes
  have hr := B.returns
  have hts := atoms_spec (ws := wsX2_record) B.pre
  have hown : s.vm.findClass RX2 = some m.cls := findClass_of_methodNamed B.named
  have hlocks := B.notSynchronized
  have hS : va_S (g_A G) s.heap s.heap [] := va_S.rf
  have hl := lv_entry ([.ref (G.2.2 + 22), .ref (g_stA G b1)]) (n := 3) (Nat.le_of_ble_eq_true rfl)
  rw [lg_entry_eq]
  generalize (lg_sl ([.ref (G.2.2 + 22), .ref (g_stA G b1)]) ++ List.replicate (3 - (lg_sl ([.ref (G.2.2 + 22), .ref (g_stA G b1)])).length) Slot.unset).toArray = ls at hl ⊢
  have hl : lv_has ls 3 [(0, .ref (G.2.2 + 22)), (1, .ref (g_stA G b1))] := hl
  have in_2 : ∀ w ∈ u_ws RX2 TX2 2, w ∈ wsX2_record := ifX2_record_2
  have l_11 := hts (.fieldLink RX2 11 "GlassRacks$History" "states" "[LGlassRacks$State;") (by decide +kernel)
  have l_17 := hts (.fieldLink RX2 17 "GlassRacks$History" "recorded" "I") (by decide +kernel)
  have hB16 : ∀ (z0 : gMu)  (H : Heap) (locs : List Loc) (ls : Array Slot), f2_record_16 b1 z0 = some zo → g_R G E z0 H → va_S (g_A G) s.heap H locs → lv_has ls 3 [(0, .ref (G.2.2 + 22)), (1, .ref (g_stA G b1))] → W p l e (headSpec wsX2_record ({ frames := 3, cells := 0, slots := 0, locals := 64 } : Room)).room s m ([.ref (G.2.2 + 22), .ref (g_stA G b1)] : List Value).toArray below meth c H locs 0 0 (MQ below (g_Q G E zo (fun E' v => E' = E ∧ v = none)) ([.ref (G.2.2 + 22), .ref (g_stA G b1)] : List Value).toArray s 0 0 (g_A G)) (F0 m 16 ls []) := by
    intro z0  H locs ls hf  hR hS hl
    unfold f2_record_16 at hf
    refine lv_aload_n hx hb dX2_record_16 rfl (lv_at hl 0 rfl) ?_
    refine lv_aload_n hx hb dX2_record_17 rfl (lv_at hl 0 rfl) ?_
    refine g_get hx hb hts in_2 hown hK hR.2.1.2.1 rfl 1 (by decide) l_17 rfl rfl dX2_record_18 ?_
    obtain ⟨r2, hc3, hf⟩ := g_b1_e hf
    refine g_call (va_runV (As := [.int z0.2.1.2]) (rest := []) ⟨hx, hb, hml, hown, hts⟩ (c2_stateAt l G E z0 _ _ hc3) (cwV 1 hts gX2_record_X2_stateAt rfl rfl rfl (by decide +kernel) ⟨Nat.le_of_ble_eq_true rfl, Nat.le_of_ble_eq_true rfl⟩) (g_preV (ci := 2) hR hK (hR.2.1.2.1) rfl) rfl rfl hl.1 rfl (lv_room (Nat.le_of_ble_eq_true rfl)) dX2_record_21 ⟨by show _ ≤ 0; omega, by show _ ≤ 0; omega⟩) hS (fun w4 H locs hp hR hS => ?_)
    obtain ⟨w5, rfl, hp⟩ := hp
    rcases r2 with _ | b6
    · replace hf := g_ocn hf rfl
      obtain rfl : w5 = .null := hp
      refine lv_astore_nN (lv' := [(2, .null), (0, .ref (G.2.2 + 22)), (1, .ref (g_stA G b1))]) hx hb dX2_record_24 rfl hl (by decide) rfl (fun ls hl => ?_)
      refine lv_aload_nN hx hb dX2_record_25 rfl (lv_at hl 0 rfl) ?_
      refine lv_ifnullN (tgt := 44) hx hb dX2_record_26 (by decide) ?_
      obtain rfl := g_s1 hf
      exact g_vret hx hb hlocks hr hS hR g_le.rf ⟨rfl, rfl⟩ (by omega) (by omega) dX2_record_44
    · replace hf := g_ocs hf rfl
      obtain ⟨hb6, rfl⟩ : b6 < 7 ∧ w5 = .ref (g_stA G b6) := hp
      refine lv_astore_n (lv' := [(2, .ref (g_stA G b6)), (0, .ref (G.2.2 + 22)), (1, .ref (g_stA G b1))]) hx hb dX2_record_24 rfl hl (by decide) rfl (fun ls hl => ?_)
      refine lv_aload_n hx hb dX2_record_25 rfl (lv_at hl 0 rfl) ?_
      refine lv_ifnull hx hb dX2_record_26 ?_
      refine lv_aload_n hx hb dX2_record_29 rfl (lv_at hl 0 rfl) ?_
      refine lv_aload_n hx hb dX2_record_30 rfl (lv_at hl 2 rfl) ?_
      obtain ⟨hn7, hf⟩ := g_gd hf
      obtain ⟨z8, hc9, hf⟩ := g_b1_e hf
      refine g_call (va_runV (As := [.ref (g_stA G b1)]) (rest := []) ⟨hx, hb, hml, hown, hts⟩ (c8_copyFrom l G E z0 b6 hb6 _ b1 hb1 hn7 _ hc9) (cwV 1 hts gX2_record_X8_copyFrom rfl rfl rfl (by decide +kernel) ⟨Nat.le_of_ble_eq_true rfl, Nat.le_of_ble_eq_true rfl⟩) (g_preV (ci := 8) (hR.st b6) hK ((hR.1 b6 hb6).1) rfl) rfl rfl hl.1 rfl (lv_room (Nat.le_of_ble_eq_true rfl)) dX2_record_31 ⟨by show _ ≤ 0; omega, by show _ ≤ 0; omega⟩) hS (fun w10 H locs hp hR hS => ?_)
      obtain ⟨z11, ez11, hf⟩ := g_let_e hf
      replace hR : g_R G E z11 H := by rw [ez11]; exact hR
      subst hp
      refine lv_aload_n hx hb dX2_record_34 rfl (lv_at hl 1 rfl) ?_
      refine lv_dup hx hb dX2_record_35 rfl ?_
      refine g_get hx hb hts in_2 hown hK hR.2.1.2.1 rfl 1 (by decide) l_17 rfl rfl dX2_record_36 ?_
      refine lv_iconst (v := 1) hx hb dX2_record_39 (by decide) ?_
      refine lv_iadd hx hb dX2_record_40 ?_
      refine g_p2_1 hx hb hts in_2 hown hK hS hR l_17 dX2_record_41 (fun H locs hR hS => ?_)
      obtain ⟨z12, ez12, hf⟩ := g_let_e hf
      replace hR : g_R G E z12 H := by rw [ez12]; exact hR
      obtain rfl := g_s1 hf
      exact g_vret hx hb hlocks hr hS hR g_le.rf ⟨rfl, rfl⟩ (by omega) (by omega) dX2_record_44
  unfold f2_record at hf
  refine lv_aload_n hx hb dX2_record_0 rfl (lv_at hl 0 rfl) ?_
  refine g_get hx hb hts in_2 hown hK hR.2.1.2.1 rfl 1 (by decide) l_17 rfl rfl dX2_record_1 ?_
  refine lv_aload_n hx hb dX2_record_4 rfl (lv_at hl 0 rfl) ?_
  refine g_get hx hb hts in_2 hown hK hR.2.1.2.1 rfl 0 (by decide) l_11 rfl rfl dX2_record_5 ?_
  refine g_ahlen hx hb hK hR dX2_record_8 ?_
  refine lv_icmp_lt (tgt := 16) hx hb dX2_record_9 (by decide) (fun c1 => ?_) (fun c1 => ?_)
  · replace hf := g_it hf c1
    exact hB16 _  _ _ _ hf  hR hS (lv_sub hl [0, 1] rfl)
  · replace hf := g_if hf c1
    refine lv_aload_n hx hb dX2_record_12 rfl (lv_at hl 0 rfl) ?_
    obtain ⟨z13, hc14, hf⟩ := g_b1_e hf
    refine g_call (va_runV (As := []) (rest := []) ⟨hx, hb, hml, hown, hts⟩ (c2_dropOldest l G E μ  _ hc14) (cwV 0 hts gX2_record_X2_dropOldest rfl rfl rfl (by decide +kernel) ⟨Nat.le_of_ble_eq_true rfl, Nat.le_of_ble_eq_true rfl⟩) (g_preV (ci := 2) hR hK (hR.2.1.2.1) rfl) rfl rfl hl.1 rfl (lv_room (Nat.le_of_ble_eq_true rfl)) dX2_record_13 ⟨by show _ ≤ 0; omega, by show _ ≤ 0; omega⟩) hS (fun w15 H locs hp hR hS => ?_)
    subst hp
    exact hB16 _  _ _ _ hf  hR hS (lv_sub hl [0, 1] rfl)
set_option maxHeartbeats 4000000 in
set_option maxRecDepth 100000 in
theorem c2_takeBack (l : Launch) (G : gG) (E : gEn) (μ : gMu) (b1 : Nat) (hb1 : b1 < 7) (ro : Int32) (zo : gMu) (hf : f2_takeBack μ b1 = some (ro, zo)) : Met l yX2_takeBack wsX2_takeBack ({ frames := 3, cells := 0, slots := 0, locals := 64 } : Room) (g_Pre G E μ [.ref (G.2.2 + 22), .ref (g_stA G b1)]) (g_Q G E zo (fun E' v => E' = E ∧ v = some (.int ro))) 0 0 (g_A G) := by
  refine Met.ofW (cc := cX2_takeBack) (maxL := 3) (ret := some .int) (by decide) rfl ?_
  intro p e s m args below meth c s₁ B hml hv
  obtain ⟨rfl, hR, hK⟩ := hv
  have hx := B.exec
  have hb := B.bytes
  have hr := B.returns
  have hts := atoms_spec (ws := wsX2_takeBack) B.pre
  have hown : s.vm.findClass RX2 = some m.cls := findClass_of_methodNamed B.named
  have hlocks := B.notSynchronized
  have hS : va_S (g_A G) s.heap s.heap [] := va_S.rf
  have hl := lv_entry ([.ref (G.2.2 + 22), .ref (g_stA G b1)]) (n := 3) (Nat.le_of_ble_eq_true rfl)
  rw [lg_entry_eq]
  generalize (lg_sl ([.ref (G.2.2 + 22), .ref (g_stA G b1)]) ++ List.replicate (3 - (lg_sl ([.ref (G.2.2 + 22), .ref (g_stA G b1)])).length) Slot.unset).toArray = ls at hl ⊢
  have hl : lv_has ls 3 [(0, .ref (G.2.2 + 22)), (1, .ref (g_stA G b1))] := hl
  have in_2 : ∀ w ∈ u_ws RX2 TX2 2, w ∈ wsX2_takeBack := ifX2_takeBack_2
  have l_17 := hts (.fieldLink RX2 17 "GlassRacks$History" "recorded" "I") (by decide +kernel)
  unfold f2_takeBack at hf
  refine lv_aload_n hx hb dX2_takeBack_0 rfl (lv_at hl 0 rfl) ?_
  refine lv_aload_n hx hb dX2_takeBack_1 rfl (lv_at hl 0 rfl) ?_
  refine g_get hx hb hts in_2 hown hK hR.2.1.2.1 rfl 1 (by decide) l_17 rfl rfl dX2_takeBack_2 ?_
  refine lv_iconst (v := 1) hx hb dX2_takeBack_5 (by decide) ?_
  refine lv_isub hx hb dX2_takeBack_6 ?_
  obtain ⟨r1, hc2, hf⟩ := g_b1_e hf
  refine g_call (va_runV (As := [.int (μ.2.1.2 - (1 : Int32))]) (rest := []) ⟨hx, hb, hml, hown, hts⟩ (c2_stateAt l G E μ _ _ hc2) (cwV 1 hts gX2_takeBack_X2_stateAt rfl rfl rfl (by decide +kernel) ⟨Nat.le_of_ble_eq_true rfl, Nat.le_of_ble_eq_true rfl⟩) (g_preV (ci := 2) hR hK (hR.2.1.2.1) rfl) rfl rfl hl.1 rfl (lv_room (Nat.le_of_ble_eq_true rfl)) dX2_takeBack_7 ⟨by show _ ≤ 0; omega, by show _ ≤ 0; omega⟩) hS (fun w3 H locs hp hR hS => ?_)
  obtain ⟨w4, rfl, hp⟩ := hp
  rcases r1 with _ | b5
  · replace hf := g_ocn hf rfl
    obtain rfl : w4 = .null := hp
    refine lv_astore_nN (lv' := [(2, .null), (0, .ref (G.2.2 + 22)), (1, .ref (g_stA G b1))]) hx hb dX2_takeBack_10 rfl hl (by decide) rfl (fun ls hl => ?_)
    refine lv_aload_nN hx hb dX2_takeBack_11 rfl (lv_at hl 0 rfl) ?_
    refine lv_ifnonnullN hx hb dX2_takeBack_12 ?_
    refine lv_bipush (v := -5) hx hb dX2_takeBack_15 (by decide) ?_
    obtain ⟨rfl, rfl⟩ := g_sp hf
    exact g_iret hx hb hlocks hr hS hR g_le.rf ⟨rfl, rfl⟩ (by omega) (by omega) dX2_takeBack_17
  · replace hf := g_ocs hf rfl
    obtain ⟨hb5, rfl⟩ : b5 < 7 ∧ w4 = .ref (g_stA G b5) := hp
    refine lv_astore_n (lv' := [(2, .ref (g_stA G b5)), (0, .ref (G.2.2 + 22)), (1, .ref (g_stA G b1))]) hx hb dX2_takeBack_10 rfl hl (by decide) rfl (fun ls hl => ?_)
    refine lv_aload_n hx hb dX2_takeBack_11 rfl (lv_at hl 0 rfl) ?_
    refine lv_ifnonnull (tgt := 18) hx hb dX2_takeBack_12 (by decide) ?_
    refine lv_aload_n hx hb dX2_takeBack_18 rfl (lv_at hl 1 rfl) ?_
    refine lv_dup hx hb dX2_takeBack_19 rfl ?_
    refine g_get hx hb hts in_2 hown hK hR.2.1.2.1 rfl 1 (by decide) l_17 rfl rfl dX2_takeBack_20 ?_
    refine lv_iconst (v := 1) hx hb dX2_takeBack_23 (by decide) ?_
    refine lv_isub hx hb dX2_takeBack_24 ?_
    refine g_p2_1 hx hb hts in_2 hown hK hS hR l_17 dX2_takeBack_25 (fun H locs hR hS => ?_)
    obtain ⟨z6, ez6, hf⟩ := g_let_e hf
    replace hR : g_R G E z6 H := by rw [ez6]; exact hR
    refine lv_aload_n hx hb dX2_takeBack_28 rfl (lv_at hl 2 rfl) ?_
    refine lv_aload_n hx hb dX2_takeBack_29 rfl (lv_at hl 0 rfl) ?_
    obtain ⟨hn7, hf⟩ := g_gd hf
    obtain ⟨z8, hc9, hf⟩ := g_b1_e hf
    refine g_call (va_runV (As := [.ref (g_stA G b5)]) (rest := []) ⟨hx, hb, hml, hown, hts⟩ (c8_copyFrom l G E z6 b1 hb1 _ b5 hb5 hn7 _ hc9) (cwV 1 hts gX2_takeBack_X8_copyFrom rfl rfl rfl (by decide +kernel) ⟨Nat.le_of_ble_eq_true rfl, Nat.le_of_ble_eq_true rfl⟩) (g_preV (ci := 8) (hR.st b1) hK ((hR.1 b1 hb1).1) rfl) rfl rfl hl.1 rfl (lv_room (Nat.le_of_ble_eq_true rfl)) dX2_takeBack_30 ⟨by show _ ≤ 0; omega, by show _ ≤ 0; omega⟩) hS (fun w10 H locs hp hR hS => ?_)
    obtain ⟨z11, ez11, hf⟩ := g_let_e hf
    replace hR : g_R G E z11 H := by rw [ez11]; exact hR
    subst hp
    refine lv_aload_n hx hb dX2_takeBack_33 rfl (lv_at hl 1 rfl) ?_
    refine g_get hx hb hts in_2 hown hK hR.2.1.2.1 rfl 1 (by decide) l_17 rfl rfl dX2_takeBack_34 ?_
    obtain ⟨rfl, rfl⟩ := g_sp hf
    exact g_iret hx hb hlocks hr hS hR g_le.rf ⟨rfl, rfl⟩ (by omega) (by omega) dX2_takeBack_37
set_option maxHeartbeats 4000000 in
set_option maxRecDepth 100000 in
theorem c9_at (l : Launch) (G : gG) (E : gEn) (μ : gMu) (p1 : Int32) (p2 : Int32) (ro : Int32) (hf : f9_at μ p1 p2 = some ro) : Met l yX9_at wsX9_at ({ frames := 2, cells := 0, slots := 0, locals := 46 } : Room) (g_Pre G E μ [.ref G.2.2, .int p1, .int p2]) (g_Q G E μ (fun E' v => E' = E ∧ v = some (.int ro))) 0 0 (g_A G) := by
  refine Met.ofW (cc := cX9_at) (maxL := 4) (ret := some .int) (by decide) rfl ?_
  intro p e s m args below meth c s₁ B hml hv
  obtain ⟨rfl, hR, hK⟩ := hv
  have hx := B.exec
  have hb := B.bytes
  have hr := B.returns
  have hts := atoms_spec (ws := wsX9_at) B.pre
  have hown : s.vm.findClass RX9 = some m.cls := findClass_of_methodNamed B.named
  have hlocks := B.notSynchronized
  have hS : va_S (g_A G) s.heap s.heap [] := va_S.rf
  have hl := lv_entry ([.ref G.2.2, .int p1, .int p2]) (n := 4) (Nat.le_of_ble_eq_true rfl)
  rw [lg_entry_eq]
  generalize (lg_sl ([.ref G.2.2, .int p1, .int p2]) ++ List.replicate (4 - (lg_sl ([.ref G.2.2, .int p1, .int p2])).length) Slot.unset).toArray = ls at hl ⊢
  have hl : lv_has ls 4 [(0, .ref G.2.2), (1, .int p1), (2, .int p2)] := hl
  have in_7 : ∀ w ∈ u_ws RX7 TX7 5, w ∈ wsX9_at := ifX9_at_7
  have in_8 : ∀ w ∈ u_ws RX8 TX8 11, w ∈ wsX9_at := ifX9_at_8
  have in_9 : ∀ w ∈ u_ws RX9 TX9 6, w ∈ wsX9_at := ifX9_at_9
  have l_111 := hts (.fieldLink RX9 111 "GlassRacks$State" "racks" "LGlassRacks$Racks;") (by decide +kernel)
  have l_12 := hts (.fieldLink RX9 12 "GlassRacks" "now" "LGlassRacks$State;") (by decide +kernel)
  have l_149 := hts (.fieldLink RX9 149 "GlassRacks$Sheet" "number" "I") (by decide +kernel)
  unfold f9_at at hf
  refine lv_iload_n hx hb dX9_at_0 rfl (lv_at hl 1 rfl) ?_
  obtain ⟨r1, hc2, hf⟩ := g_b1_e hf
  refine g_call (va_runS (As := [.int p1]) (rest := []) ⟨hx, hb, hml, hown, hts⟩ (c9_isRack l G E μ _ _ hc2) (cwS 1 hts gX9_at_X9_isRack rfl rfl rfl (by decide +kernel) ⟨Nat.le_of_ble_eq_true rfl, Nat.le_of_ble_eq_true rfl⟩) (g_pre hR hK) rfl rfl hl.1 rfl (lv_room (Nat.le_of_ble_eq_true rfl)) dX9_at_1 ⟨by show _ ≤ 0; omega, by show _ ≤ 0; omega⟩) hS (fun w3 H locs hp hR hS => ?_)
  subst hp
  refine lv_if_ne (tgt := 9) hx hb dX9_at_4 (by decide) (fun c4 => ?_) (fun c4 => ?_)
  · replace hf := g_it hf c4
    refine lv_iload_n hx hb dX9_at_9 rfl (lv_at hl 2 rfl) ?_
    refine lv_if_ge (tgt := 16) hx hb dX9_at_10 (by decide) (fun c5 => ?_) (fun c5 => ?_)
    · replace hf := g_it hf c5
      refine lv_aload_n hx hb dX9_at_16 rfl (lv_at hl 0 rfl) ?_
      refine g_get hx hb hts in_9 hown hK hR.2.2.2.1 rfl 0 (by decide) l_12 rfl rfl dX9_at_17 ?_
      refine g_get hx hb hts in_8 hown hK (hR.1 0 (by decide)).1 rfl 1 (by decide) l_111 rfl rfl dX9_at_20 ?_
      refine lv_iload_n hx hb dX9_at_23 rfl (lv_at hl 1 rfl) ?_
      refine lv_iload_n hx hb dX9_at_24 rfl (lv_at hl 2 rfl) ?_
      obtain ⟨r6, hc7, hf⟩ := g_b1_e hf
      refine g_call (va_runV (As := [.int p1, .int p2]) (rest := []) ⟨hx, hb, hml, hown, hts⟩ (c5_atPlace l G E μ 0 (by decide) _ _ _ _ hc7) (cwV 2 hts gX9_at_X5_atPlace rfl rfl rfl (by decide +kernel) ⟨Nat.le_of_ble_eq_true rfl, Nat.le_of_ble_eq_true rfl⟩) (g_preV (ci := 5) (hR.st 0) hK ((hR.1 0 (by decide)).2.2.1) rfl) rfl rfl hl.1 rfl (lv_room (Nat.le_of_ble_eq_true rfl)) dX9_at_25 ⟨by show _ ≤ 0; omega, by show _ ≤ 0; omega⟩) hS (fun w8 H locs hp hR hS => ?_)
      rw [g_setS_self] at hR
      obtain ⟨w9, rfl, hp⟩ := hp
      rcases r6 with _ | v11
      · replace hf := g_ocn hf rfl
        obtain rfl : w9 = .null := hp
        refine lv_astore_nN (lv' := [(3, .null), (0, .ref G.2.2), (1, .int p1), (2, .int p2)]) hx hb dX9_at_28 rfl hl (by decide) rfl (fun ls hl => ?_)
        refine lv_aload_nN hx hb dX9_at_29 rfl (lv_at hl 0 rfl) ?_
        refine lv_ifnonnullN hx hb dX9_at_30 ?_
        refine lv_bipush (v := -5) hx hb dX9_at_33 (by decide) ?_
        refine lv_goto (tgt := 42) hx hb dX9_at_35 (by decide) ?_
        obtain rfl := g_s1 hf
        exact g_iret hx hb hlocks hr hS hR g_le.rf ⟨rfl, rfl⟩ (by omega) (by omega) dX9_at_42
      · replace hf := g_ocs hf rfl
        obtain ⟨a10, rfl, hE_a10⟩ := hp
        refine lv_astore_n (lv' := [(3, .ref a10), (0, .ref G.2.2), (1, .int p1), (2, .int p2)]) hx hb dX9_at_28 rfl hl (by decide) rfl (fun ls hl => ?_)
        refine lv_aload_n hx hb dX9_at_29 rfl (lv_at hl 0 rfl) ?_
        refine lv_ifnonnull (tgt := 38) hx hb dX9_at_30 (by decide) ?_
        refine lv_aload_n hx hb dX9_at_38 rfl (lv_at hl 0 rfl) ?_
        refine g_get hx hb hts in_7 hown hK ((hR.2.2.2.2.2 _ _ hE_a10).2) rfl 0 (by decide) l_149 rfl rfl dX9_at_39 ?_
        obtain rfl := g_s1 hf
        exact g_iret hx hb hlocks hr hS hR g_le.rf ⟨rfl, rfl⟩ (by omega) (by omega) dX9_at_42
    · replace hf := g_if hf c5
      refine lv_bipush (v := -2) hx hb dX9_at_13 (by decide) ?_
      obtain rfl := g_s1 hf
      exact g_iret hx hb hlocks hr hS hR g_le.rf ⟨rfl, rfl⟩ (by omega) (by omega) dX9_at_15
  · replace hf := g_if hf (fun q => q c4)
    refine lv_iconst (v := -1) hx hb dX9_at_7 (by decide) ?_
    obtain rfl := g_s1 hf
    exact g_iret hx hb hlocks hr hS hR g_le.rf ⟨rfl, rfl⟩ (by omega) (by omega) dX9_at_8
set_option maxHeartbeats 4000000 in
set_option maxRecDepth 100000 in
theorem c9_recorded (l : Launch) (G : gG) (E : gEn) (μ : gMu) (p1 : Int32) (ro : Int32) (zo : gMu) (hf : f9_recorded μ p1 = some (ro, zo)) : Met l yX9_recorded wsX9_recorded ({ frames := 4, cells := 0, slots := 0, locals := 86 } : Room) (g_Pre G E μ [.ref G.2.2, .int p1]) (g_Q G E zo (fun E' v => E' = E ∧ v = some (.int ro))) 0 0 (g_A G) := by
  refine Met.ofW (cc := cX9_recorded) (maxL := 2) (ret := some .int) (by decide) rfl ?_
  intro p e s m args below meth c s₁ B hml hv
  obtain ⟨rfl, hR, hK⟩ := hv
  have hx := B.exec
  have hb := B.bytes
  have hr := B.returns
  have hts := atoms_spec (ws := wsX9_recorded) B.pre
  have hown : s.vm.findClass RX9 = some m.cls := findClass_of_methodNamed B.named
  have hlocks := B.notSynchronized
  have hS : va_S (g_A G) s.heap s.heap [] := va_S.rf
  have hl := lv_entry ([.ref G.2.2, .int p1]) (n := 2) (Nat.le_of_ble_eq_true rfl)
  rw [lg_entry_eq]
  generalize (lg_sl ([.ref G.2.2, .int p1]) ++ List.replicate (2 - (lg_sl ([.ref G.2.2, .int p1])).length) Slot.unset).toArray = ls at hl ⊢
  have hl : lv_has ls 2 [(0, .ref G.2.2), (1, .int p1)] := hl
  have in_9 : ∀ w ∈ u_ws RX9 TX9 6, w ∈ wsX9_recorded := ifX9_recorded_9
  have l_16 := hts (.fieldLink RX9 16 "GlassRacks" "before" "LGlassRacks$State;") (by decide +kernel)
  have l_29 := hts (.fieldLink RX9 29 "GlassRacks" "history" "LGlassRacks$History;") (by decide +kernel)
  unfold f9_recorded at hf
  refine lv_iload_n hx hb dX9_recorded_0 rfl (lv_at hl 1 rfl) ?_
  refine lv_if_lt (tgt := 15) hx hb dX9_recorded_1 (by decide) (fun c1 => ?_) (fun c1 => ?_)
  · replace hf := g_it hf c1
    refine lv_iload_n hx hb dX9_recorded_15 rfl (lv_at hl 1 rfl) ?_
    obtain ⟨rfl, rfl⟩ := g_sp hf
    exact g_iret hx hb hlocks hr hS hR g_le.rf ⟨rfl, rfl⟩ (by omega) (by omega) dX9_recorded_16
  · replace hf := g_if hf c1
    refine lv_aload_n hx hb dX9_recorded_4 rfl (lv_at hl 0 rfl) ?_
    refine g_get hx hb hts in_9 hown hK hR.2.2.2.1 rfl 4 (by decide) l_29 rfl rfl dX9_recorded_5 ?_
    refine lv_aload_n hx hb dX9_recorded_8 rfl (lv_at hl 0 rfl) ?_
    refine g_get hx hb hts in_9 hown hK hR.2.2.2.1 rfl 1 (by decide) l_16 rfl rfl dX9_recorded_9 ?_
    obtain ⟨z2, hc3, hf⟩ := g_b1_e hf
    refine g_call (va_runV (As := [.ref (g_stA G 1)]) (rest := []) ⟨hx, hb, hml, hown, hts⟩ (c2_record l G E μ 1 (by decide) _ hc3) (cwV 1 hts gX9_recorded_X2_record rfl rfl rfl (by decide +kernel) ⟨Nat.le_of_ble_eq_true rfl, Nat.le_of_ble_eq_true rfl⟩) (g_preV (ci := 2) hR hK (hR.2.1.2.1) rfl) rfl rfl hl.1 rfl (lv_room (Nat.le_of_ble_eq_true rfl)) dX9_recorded_12 ⟨by show _ ≤ 0; omega, by show _ ≤ 0; omega⟩) hS (fun w4 H locs hp hR hS => ?_)
    subst hp
    refine lv_iload_n hx hb dX9_recorded_15 rfl (lv_at hl 1 rfl) ?_
    obtain ⟨rfl, rfl⟩ := g_sp hf
    exact g_iret hx hb hlocks hr hS hR g_le.rf ⟨rfl, rfl⟩ (by omega) (by omega) dX9_recorded_16
set_option maxHeartbeats 4000000 in
set_option maxRecDepth 100000 in
theorem c9_buy (l : Launch) (G : gG) (E : gEn) (μ : gMu) (p1 : Int32) (p2 : Int32) (p3 : Int32) (p4 : Int32) (ro : Int32) (zo : gMu) (hf : f9_buy μ p1 p2 p3 p4 = some (ro, zo)) : Met l yX9_buy wsX9_buy ({ frames := 5, cells := 1, slots := 5, locals := 107 } : Room) (g_Pre G E μ [.ref G.2.2, .int p1, .int p2, .int p3, .int p4]) (g_Q G E zo (fun E' v => v = some (.int ro))) 1 5 (g_A G) := by
  refine Met.ofW (cc := cX9_buy) (maxL := 5) (ret := some .int) (by decide) rfl ?_
  intro p e s m args below meth c s₁ B hml hv
  obtain ⟨rfl, hR, hK⟩ := hv
  have hx := B.exec
  have hb := B.bytes
  have hr := B.returns
  have hts := atoms_spec (ws := wsX9_buy) B.pre
  have hown : s.vm.findClass RX9 = some m.cls := findClass_of_methodNamed B.named
  have hlocks := B.notSynchronized
  have hS : va_S (g_A G) s.heap s.heap [] := va_S.rf
  have hl := lv_entry ([.ref G.2.2, .int p1, .int p2, .int p3, .int p4]) (n := 5) (Nat.le_of_ble_eq_true rfl)
  rw [lg_entry_eq]
  generalize (lg_sl ([.ref G.2.2, .int p1, .int p2, .int p3, .int p4]) ++ List.replicate (5 - (lg_sl ([.ref G.2.2, .int p1, .int p2, .int p3, .int p4])).length) Slot.unset).toArray = ls at hl ⊢
  have hl : lv_has ls 5 [(0, .ref G.2.2), (1, .int p1), (2, .int p2), (3, .int p3), (4, .int p4)] := hl
  have in_9 : ∀ w ∈ u_ws RX9 TX9 6, w ∈ wsX9_buy := ifX9_buy_9
  have l_12 := hts (.fieldLink RX9 12 "GlassRacks" "now" "LGlassRacks$State;") (by decide +kernel)
  have l_16 := hts (.fieldLink RX9 16 "GlassRacks" "before" "LGlassRacks$State;") (by decide +kernel)
  unfold f9_buy at hf
  refine lv_aload_n hx hb dX9_buy_0 rfl (lv_at hl 0 rfl) ?_
  refine g_get hx hb hts in_9 hown hK hR.2.2.2.1 rfl 1 (by decide) l_16 rfl rfl dX9_buy_1 ?_
  refine lv_aload_n hx hb dX9_buy_4 rfl (lv_at hl 0 rfl) ?_
  refine g_get hx hb hts in_9 hown hK hR.2.2.2.1 rfl 0 (by decide) l_12 rfl rfl dX9_buy_5 ?_
  obtain ⟨z1, hc2, hf⟩ := g_b1_e hf
  refine g_call (va_runV (As := [.ref (g_stA G 0)]) (rest := []) ⟨hx, hb, hml, hown, hts⟩ (c8_copyFrom l G E μ 1 (by decide) _ 0 (by decide) (by decide) _ hc2) (cwV 1 hts gX9_buy_X8_copyFrom rfl rfl rfl (by decide +kernel) ⟨Nat.le_of_ble_eq_true rfl, Nat.le_of_ble_eq_true rfl⟩) (g_preV (ci := 8) (hR.st 1) hK ((hR.1 1 (by decide)).1) rfl) rfl rfl hl.1 rfl (lv_room (Nat.le_of_ble_eq_true rfl)) dX9_buy_8 ⟨by show _ ≤ 1; omega, by show _ ≤ 5; omega⟩) hS (fun w3 H locs hp hR hS => ?_)
  obtain ⟨z4, ez4, hf⟩ := g_let_e hf
  replace hR : g_R G E z4 H := by rw [ez4]; exact hR
  subst hp
  refine lv_aload_n hx hb dX9_buy_11 rfl (lv_at hl 0 rfl) ?_
  refine lv_aload_n hx hb dX9_buy_12 rfl (lv_at hl 0 rfl) ?_
  refine g_get hx hb hts in_9 hown hK hR.2.2.2.1 rfl 0 (by decide) l_12 rfl rfl dX9_buy_13 ?_
  refine lv_iload_n hx hb dX9_buy_16 rfl (lv_at hl 1 rfl) ?_
  refine lv_iload_n hx hb dX9_buy_17 rfl (lv_at hl 2 rfl) ?_
  refine lv_iload_n hx hb dX9_buy_18 rfl (lv_at hl 3 rfl) ?_
  refine lv_iload hx hb dX9_buy_19 (lv_at hl 4 rfl) ?_
  obtain ⟨r5, z6, hc7, hf⟩ := g_bd_e hf
  refine g_calln (va_runV (As := [.int p1, .int p2, .int p3, .int p4]) (rest := [.ref G.2.2]) ⟨hx, hb, hml, hown, hts⟩ (c8_buySheet l G E z4 0 (by decide) _ _ _ _ _ _ _ hc7) (cwV 4 hts gX9_buy_X8_buySheet rfl rfl rfl (by decide +kernel) ⟨Nat.le_of_ble_eq_true rfl, Nat.le_of_ble_eq_true rfl⟩) (g_preV (ci := 8) (hR.st 0) hK ((hR.1 0 (by decide)).1) rfl) rfl rfl hl.1 rfl (lv_room (Nat.le_of_ble_eq_true rfl)) dX9_buy_21 ⟨by show _ ≤ 1; omega, by show _ ≤ 5; omega⟩) hS (fun w8 E9 H locs hp hle10 hR hS => ?_)
  obtain ⟨z11, ez11, hf⟩ := g_let_e hf
  replace hR : g_R G E9 z11 H := by rw [ez11]; exact hR
  subst hp
  obtain ⟨r12, z13, hc14, hf⟩ := g_bd_e hf
  refine g_call (va_runV (As := [.int r5]) (rest := []) ⟨hx, hb, hml, hown, hts⟩ (c9_recorded l G E9 z11 _ _ _ hc14) (cwV 1 hts gX9_buy_X9_recorded rfl rfl rfl (by decide +kernel) ⟨Nat.le_of_ble_eq_true rfl, Nat.le_of_ble_eq_true rfl⟩) (g_preV (ci := 9) hR hK (hR.2.2.2.1) rfl) rfl rfl hl.1 rfl (lv_room (Nat.le_of_ble_eq_true rfl)) dX9_buy_24 ⟨by show _ ≤ 1; omega, by show _ ≤ 5; omega⟩) hS (fun w15 H locs hp hR hS => ?_)
  subst hp
  obtain ⟨rfl, rfl⟩ := g_sp hf
  exact g_iret hx hb hlocks hr hS hR ((g_le.rf).tr hle10) rfl (by omega) (by omega) dX9_buy_27
set_option maxHeartbeats 4000000 in
set_option maxRecDepth 100000 in
theorem c9_cancel (l : Launch) (G : gG) (E : gEn) (μ : gMu) (p1 : Int32) (ro : Int32) (zo : gMu) (hf : f9_cancel μ p1 = some (ro, zo)) : Met l yX9_cancel wsX9_cancel ({ frames := 5, cells := 1, slots := 8, locals := 107 } : Room) (g_Pre G E μ [.ref G.2.2, .int p1]) (g_Q G E zo (fun E' v => v = some (.int ro))) 1 8 (g_A G) := by
  refine Met.ofW (cc := cX9_cancel) (maxL := 2) (ret := some .int) (by decide) rfl ?_
  intro p e s m args below meth c s₁ B hml hv
  obtain ⟨rfl, hR, hK⟩ := hv
  have hx := B.exec
  have hb := B.bytes
  have hr := B.returns
  have hts := atoms_spec (ws := wsX9_cancel) B.pre
  have hown : s.vm.findClass RX9 = some m.cls := findClass_of_methodNamed B.named
  have hlocks := B.notSynchronized
  have hS : va_S (g_A G) s.heap s.heap [] := va_S.rf
  have hl := lv_entry ([.ref G.2.2, .int p1]) (n := 2) (Nat.le_of_ble_eq_true rfl)
  rw [lg_entry_eq]
  generalize (lg_sl ([.ref G.2.2, .int p1]) ++ List.replicate (2 - (lg_sl ([.ref G.2.2, .int p1])).length) Slot.unset).toArray = ls at hl ⊢
  have hl : lv_has ls 2 [(0, .ref G.2.2), (1, .int p1)] := hl
  have in_9 : ∀ w ∈ u_ws RX9 TX9 6, w ∈ wsX9_cancel := ifX9_cancel_9
  have l_12 := hts (.fieldLink RX9 12 "GlassRacks" "now" "LGlassRacks$State;") (by decide +kernel)
  have l_16 := hts (.fieldLink RX9 16 "GlassRacks" "before" "LGlassRacks$State;") (by decide +kernel)
  unfold f9_cancel at hf
  refine lv_aload_n hx hb dX9_cancel_0 rfl (lv_at hl 0 rfl) ?_
  refine g_get hx hb hts in_9 hown hK hR.2.2.2.1 rfl 1 (by decide) l_16 rfl rfl dX9_cancel_1 ?_
  refine lv_aload_n hx hb dX9_cancel_4 rfl (lv_at hl 0 rfl) ?_
  refine g_get hx hb hts in_9 hown hK hR.2.2.2.1 rfl 0 (by decide) l_12 rfl rfl dX9_cancel_5 ?_
  obtain ⟨z1, hc2, hf⟩ := g_b1_e hf
  refine g_call (va_runV (As := [.ref (g_stA G 0)]) (rest := []) ⟨hx, hb, hml, hown, hts⟩ (c8_copyFrom l G E μ 1 (by decide) _ 0 (by decide) (by decide) _ hc2) (cwV 1 hts gX9_cancel_X8_copyFrom rfl rfl rfl (by decide +kernel) ⟨Nat.le_of_ble_eq_true rfl, Nat.le_of_ble_eq_true rfl⟩) (g_preV (ci := 8) (hR.st 1) hK ((hR.1 1 (by decide)).1) rfl) rfl rfl hl.1 rfl (lv_room (Nat.le_of_ble_eq_true rfl)) dX9_cancel_8 ⟨by show _ ≤ 1; omega, by show _ ≤ 8; omega⟩) hS (fun w3 H locs hp hR hS => ?_)
  obtain ⟨z4, ez4, hf⟩ := g_let_e hf
  replace hR : g_R G E z4 H := by rw [ez4]; exact hR
  subst hp
  refine lv_aload_n hx hb dX9_cancel_11 rfl (lv_at hl 0 rfl) ?_
  refine lv_aload_n hx hb dX9_cancel_12 rfl (lv_at hl 0 rfl) ?_
  refine g_get hx hb hts in_9 hown hK hR.2.2.2.1 rfl 0 (by decide) l_12 rfl rfl dX9_cancel_13 ?_
  refine lv_iload_n hx hb dX9_cancel_16 rfl (lv_at hl 1 rfl) ?_
  obtain ⟨r5, z6, hc7, hf⟩ := g_bd_e hf
  refine g_calln (va_runV (As := [.int p1]) (rest := [.ref G.2.2]) ⟨hx, hb, hml, hown, hts⟩ (c8_cancelOrder l G E z4 0 (by decide) _ _ _ _ hc7) (cwV 1 hts gX9_cancel_X8_cancelOrder rfl rfl rfl (by decide +kernel) ⟨Nat.le_of_ble_eq_true rfl, Nat.le_of_ble_eq_true rfl⟩) (g_preV (ci := 8) (hR.st 0) hK ((hR.1 0 (by decide)).1) rfl) rfl rfl hl.1 rfl (lv_room (Nat.le_of_ble_eq_true rfl)) dX9_cancel_17 ⟨by show _ ≤ 1; omega, by show _ ≤ 8; omega⟩) hS (fun w8 E9 H locs hp hle10 hR hS => ?_)
  obtain ⟨z11, ez11, hf⟩ := g_let_e hf
  replace hR : g_R G E9 z11 H := by rw [ez11]; exact hR
  subst hp
  obtain ⟨r12, z13, hc14, hf⟩ := g_bd_e hf
  refine g_call (va_runV (As := [.int r5]) (rest := []) ⟨hx, hb, hml, hown, hts⟩ (c9_recorded l G E9 z11 _ _ _ hc14) (cwV 1 hts gX9_cancel_X9_recorded rfl rfl rfl (by decide +kernel) ⟨Nat.le_of_ble_eq_true rfl, Nat.le_of_ble_eq_true rfl⟩) (g_preV (ci := 9) hR hK (hR.2.2.2.1) rfl) rfl rfl hl.1 rfl (lv_room (Nat.le_of_ble_eq_true rfl)) dX9_cancel_20 ⟨by show _ ≤ 1; omega, by show _ ≤ 8; omega⟩) hS (fun w15 H locs hp hR hS => ?_)
  subst hp
  obtain ⟨rfl, rfl⟩ := g_sp hf
  exact g_iret hx hb hlocks hr hS hR ((g_le.rf).tr hle10) rfl (by omega) (by omega) dX9_cancel_23
set_option maxHeartbeats 4000000 in
set_option maxRecDepth 100000 in
theorem c9_choice (l : Launch) (G : gG) (E : gEn) (μ : gMu) (p1 : Int32) (p2 : Int32) (ro : Int32) (zo : gMu) (hf : f9_choice μ p1 p2 = some (ro, zo)) : Met l yX9_choice wsX9_choice ({ frames := 4, cells := 0, slots := 0, locals := 94 } : Room) (g_Pre G E μ [.ref G.2.2, .int p1, .int p2]) (g_Q G E zo (fun E' v => E' = E ∧ v = some (.int ro))) 0 0 (g_A G) := by
  refine Met.ofW (cc := cX9_choice) (maxL := 5) (ret := some .int) (by decide) rfl ?_
  intro p e s m args below meth c s₁ B hml hv
  obtain ⟨rfl, hR, hK⟩ := hv
  have hx := B.exec
  have hb := B.bytes
  have hr := B.returns
  have hts := atoms_spec (ws := wsX9_choice) B.pre
  have hown : s.vm.findClass RX9 = some m.cls := findClass_of_methodNamed B.named
  have hlocks := B.notSynchronized
  have hS : va_S (g_A G) s.heap s.heap [] := va_S.rf
  have hl := lv_entry ([.ref G.2.2, .int p1, .int p2]) (n := 5) (Nat.le_of_ble_eq_true rfl)
  rw [lg_entry_eq]
  generalize (lg_sl ([.ref G.2.2, .int p1, .int p2]) ++ List.replicate (5 - (lg_sl ([.ref G.2.2, .int p1, .int p2])).length) Slot.unset).toArray = ls at hl ⊢
  have hl : lv_has ls 5 [(0, .ref G.2.2), (1, .int p1), (2, .int p2)] := hl
  have in_7 : ∀ w ∈ u_ws RX7 TX7 5, w ∈ wsX9_choice := ifX9_choice_7
  have in_8 : ∀ w ∈ u_ws RX8 TX8 11, w ∈ wsX9_choice := ifX9_choice_8
  have in_9 : ∀ w ∈ u_ws RX9 TX9 6, w ∈ wsX9_choice := ifX9_choice_9
  have l_12 := hts (.fieldLink RX9 12 "GlassRacks" "now" "LGlassRacks$State;") (by decide +kernel)
  have l_149 := hts (.fieldLink RX9 149 "GlassRacks$Sheet" "number" "I") (by decide +kernel)
  have l_152 := hts (.fieldLink RX9 152 "GlassRacks$State" "orders" "LGlassRacks$Orders;") (by decide +kernel)
  unfold f9_choice at hf
  refine lv_aload_n hx hb dX9_choice_0 rfl (lv_at hl 0 rfl) ?_
  refine g_get hx hb hts in_9 hown hK hR.2.2.2.1 rfl 0 (by decide) l_12 rfl rfl dX9_choice_1 ?_
  refine g_get hx hb hts in_8 hown hK (hR.1 0 (by decide)).1 rfl 2 (by decide) l_152 rfl rfl dX9_choice_4 ?_
  refine lv_iload_n hx hb dX9_choice_7 rfl (lv_at hl 1 rfl) ?_
  obtain ⟨r1, hc2, hf⟩ := g_b1_e hf
  refine g_call (va_runV (As := [.int p1]) (rest := []) ⟨hx, hb, hml, hown, hts⟩ (c4_numbered l G E μ 0 (by decide) _ _ _ hc2) (cwV 1 hts gX9_choice_X4_numbered rfl rfl rfl (by decide +kernel) ⟨Nat.le_of_ble_eq_true rfl, Nat.le_of_ble_eq_true rfl⟩) (g_preV (ci := 4) (hR.st 0) hK ((hR.1 0 (by decide)).2.2.2.2.1) rfl) rfl rfl hl.1 rfl (lv_room (Nat.le_of_ble_eq_true rfl)) dX9_choice_8 ⟨by show _ ≤ 0; omega, by show _ ≤ 0; omega⟩) hS (fun w3 H locs hp hR hS => ?_)
  rw [g_setS_self] at hR
  obtain ⟨w4, rfl, hp⟩ := hp
  rcases r1 with _ | v6
  · replace hf := g_ocn hf rfl
    obtain rfl : w4 = .null := hp
    refine lv_astore_nN (lv' := [(3, .null), (0, .ref G.2.2), (1, .int p1), (2, .int p2)]) hx hb dX9_choice_11 rfl hl (by decide) rfl (fun ls hl => ?_)
    refine lv_aload_nN hx hb dX9_choice_12 rfl (lv_at hl 0 rfl) ?_
    refine lv_ifnonnullN hx hb dX9_choice_13 ?_
    refine lv_iconst (v := -1) hx hb dX9_choice_16 (by decide) ?_
    obtain ⟨rfl, rfl⟩ := g_sp hf
    exact g_iret hx hb hlocks hr hS hR g_le.rf ⟨rfl, rfl⟩ (by omega) (by omega) dX9_choice_17
  · replace hf := g_ocs hf rfl
    obtain ⟨a5, rfl, hE_a5⟩ := hp
    refine lv_astore_n (lv' := [(3, .ref a5), (0, .ref G.2.2), (1, .int p1), (2, .int p2)]) hx hb dX9_choice_11 rfl hl (by decide) rfl (fun ls hl => ?_)
    refine lv_aload_n hx hb dX9_choice_12 rfl (lv_at hl 0 rfl) ?_
    refine lv_ifnonnull (tgt := 18) hx hb dX9_choice_13 (by decide) ?_
    refine lv_iload_n hx hb dX9_choice_18 rfl (lv_at hl 3 rfl) ?_
    obtain ⟨r7, hc8, hf⟩ := g_b1_e hf
    refine g_call (va_runS (As := [.int p2]) (rest := []) ⟨hx, hb, hml, hown, hts⟩ (c9_isChoice l G E μ _ _ hc8) (cwS 1 hts gX9_choice_X9_isChoice rfl rfl rfl (by decide +kernel) ⟨Nat.le_of_ble_eq_true rfl, Nat.le_of_ble_eq_true rfl⟩) (g_pre hR hK) rfl rfl hl.1 rfl (lv_room (Nat.le_of_ble_eq_true rfl)) dX9_choice_19 ⟨by show _ ≤ 0; omega, by show _ ≤ 0; omega⟩) hS (fun w9 H locs hp hR hS => ?_)
    subst hp
    refine lv_if_ne (tgt := 28) hx hb dX9_choice_22 (by decide) (fun c10 => ?_) (fun c10 => ?_)
    · replace hf := g_it hf c10
      refine lv_aload_n hx hb dX9_choice_28 rfl (lv_at hl 0 rfl) ?_
      obtain ⟨r11, hc12, hf⟩ := g_b1_e hf
      refine g_call (va_runV (As := []) (rest := []) ⟨hx, hb, hml, hown, hts⟩ (c3_isOpen l G E μ _ _ hE_a5 _ hc12) (cwV 0 hts gX9_choice_X3_isOpen rfl rfl rfl (by decide +kernel) ⟨Nat.le_of_ble_eq_true rfl, Nat.le_of_ble_eq_true rfl⟩) (g_preV (ci := 3) hR hK ((hR.2.2.2.2.2 _ _ hE_a5).2) rfl) rfl rfl hl.1 rfl (lv_room (Nat.le_of_ble_eq_true rfl)) dX9_choice_29 ⟨by show _ ≤ 0; omega, by show _ ≤ 0; omega⟩) hS (fun w13 H locs hp hR hS => ?_)
      subst hp
      refine lv_if_ne (tgt := 38) hx hb dX9_choice_32 (by decide) (fun c14 => ?_) (fun c14 => ?_)
      · replace hf := g_it hf c14
        refine lv_aload_n hx hb dX9_choice_38 rfl (lv_at hl 1 rfl) ?_
        refine g_get hx hb hts in_9 hown hK hR.2.2.2.1 rfl 0 (by decide) l_12 rfl rfl dX9_choice_39 ?_
        refine lv_aload_n hx hb dX9_choice_42 rfl (lv_at hl 0 rfl) ?_
        refine lv_iload_n hx hb dX9_choice_43 rfl (lv_at hl 3 rfl) ?_
        obtain ⟨r15, z16, hc17, hf⟩ := g_bd_e hf
        refine g_call (va_runV (As := [.ref a5, .int p2]) (rest := []) ⟨hx, hb, hml, hown, hts⟩ (c8_chosenSheet l G E μ 0 (by decide) _ _ _ hE_a5 _ _ _ hc17) (cwV 2 hts gX9_choice_X8_chosenSheet rfl rfl rfl (by decide +kernel) ⟨Nat.le_of_ble_eq_true rfl, Nat.le_of_ble_eq_true rfl⟩) (g_preV (ci := 8) (hR.st 0) hK ((hR.1 0 (by decide)).1) rfl) rfl rfl hl.1 rfl (lv_room (Nat.le_of_ble_eq_true rfl)) dX9_choice_44 ⟨by show _ ≤ 0; omega, by show _ ≤ 0; omega⟩) hS (fun w18 H locs hp hR hS => ?_)
        obtain ⟨z19, ez19, hf⟩ := g_let_e hf
        replace hR : g_R G E z19 H := by rw [ez19]; exact hR
        obtain ⟨w20, rfl, hp⟩ := hp
        rcases r15 with _ | v22
        · replace hf := g_ocn hf rfl
          obtain rfl : w20 = .null := hp
          refine lv_astoreN (lv' := [(4, .null), (3, .ref a5), (0, .ref G.2.2), (1, .int p1), (2, .int p2)]) hx hb dX9_choice_47 hl (by decide) rfl (fun ls hl => ?_)
          refine lv_aloadN hx hb dX9_choice_49 (lv_at hl 0 rfl) ?_
          refine lv_ifnonnullN hx hb dX9_choice_51 ?_
          refine lv_bipush (v := -5) hx hb dX9_choice_54 (by decide) ?_
          refine lv_goto (tgt := 64) hx hb dX9_choice_56 (by decide) ?_
          obtain ⟨rfl, rfl⟩ := g_sp hf
          exact g_iret hx hb hlocks hr hS hR g_le.rf ⟨rfl, rfl⟩ (by omega) (by omega) dX9_choice_64
        · replace hf := g_ocs hf rfl
          obtain ⟨a21, rfl, hE_a21⟩ := hp
          refine lv_astore (lv' := [(4, .ref a21), (3, .ref a5), (0, .ref G.2.2), (1, .int p1), (2, .int p2)]) hx hb dX9_choice_47 hl (by decide) rfl (fun ls hl => ?_)
          refine lv_aload hx hb dX9_choice_49 (lv_at hl 0 rfl) ?_
          refine lv_ifnonnull (tgt := 59) hx hb dX9_choice_51 (by decide) ?_
          refine lv_aload hx hb dX9_choice_59 (lv_at hl 0 rfl) ?_
          refine g_get hx hb hts in_7 hown hK ((hR.2.2.2.2.2 _ _ hE_a21).2) rfl 0 (by decide) l_149 rfl rfl dX9_choice_61 ?_
          obtain ⟨rfl, rfl⟩ := g_sp hf
          exact g_iret hx hb hlocks hr hS hR g_le.rf ⟨rfl, rfl⟩ (by omega) (by omega) dX9_choice_64
      · replace hf := g_if hf (fun q => q c14)
        refine lv_bipush (v := -4) hx hb dX9_choice_35 (by decide) ?_
        obtain ⟨rfl, rfl⟩ := g_sp hf
        exact g_iret hx hb hlocks hr hS hR g_le.rf ⟨rfl, rfl⟩ (by omega) (by omega) dX9_choice_37
    · replace hf := g_if hf (fun q => q c10)
      refine lv_bipush (v := -2) hx hb dX9_choice_25 (by decide) ?_
      obtain ⟨rfl, rfl⟩ := g_sp hf
      exact g_iret hx hb hlocks hr hS hR g_le.rf ⟨rfl, rfl⟩ (by omega) (by omega) dX9_choice_27
set_option maxHeartbeats 4000000 in
set_option maxRecDepth 100000 in
theorem c9_count (l : Launch) (G : gG) (E : gEn) (μ : gMu) (p1 : Int32) (ro : Int32) (hf : f9_count μ p1 = some ro) : Met l yX9_count wsX9_count ({ frames := 2, cells := 0, slots := 0, locals := 45 } : Room) (g_Pre G E μ [.ref G.2.2, .int p1]) (g_Q G E μ (fun E' v => E' = E ∧ v = some (.int ro))) 0 0 (g_A G) := by
  refine Met.ofW (cc := cX9_count) (maxL := 2) (ret := some .int) (by decide) rfl ?_
  intro p e s m args below meth c s₁ B hml hv
  obtain ⟨rfl, hR, hK⟩ := hv
  have hx := B.exec
  have hb := B.bytes
  have hr := B.returns
  have hts := atoms_spec (ws := wsX9_count) B.pre
  have hown : s.vm.findClass RX9 = some m.cls := findClass_of_methodNamed B.named
  have hlocks := B.notSynchronized
  have hS : va_S (g_A G) s.heap s.heap [] := va_S.rf
  have hl := lv_entry ([.ref G.2.2, .int p1]) (n := 2) (Nat.le_of_ble_eq_true rfl)
  rw [lg_entry_eq]
  generalize (lg_sl ([.ref G.2.2, .int p1]) ++ List.replicate (2 - (lg_sl ([.ref G.2.2, .int p1])).length) Slot.unset).toArray = ls at hl ⊢
  have hl : lv_has ls 2 [(0, .ref G.2.2), (1, .int p1)] := hl
  have in_0 : ∀ w ∈ u_ws RX0 TX0 12, w ∈ wsX9_count := ifX9_count_0
  have in_2 : ∀ w ∈ u_ws RX2 TX2 2, w ∈ wsX9_count := ifX9_count_2
  have in_4 : ∀ w ∈ u_ws RX4 TX4 2, w ∈ wsX9_count := ifX9_count_4
  have in_5 : ∀ w ∈ u_ws RX5 TX5 2, w ∈ wsX9_count := ifX9_count_5
  have in_8 : ∀ w ∈ u_ws RX8 TX8 11, w ∈ wsX9_count := ifX9_count_8
  have in_9 : ∀ w ∈ u_ws RX9 TX9 6, w ∈ wsX9_count := ifX9_count_9
  have l_107 := hts (.fieldLink RX9 107 "GlassRacks$State" "day" "I") (by decide +kernel)
  have l_111 := hts (.fieldLink RX9 111 "GlassRacks$State" "racks" "LGlassRacks$Racks;") (by decide +kernel)
  have l_12 := hts (.fieldLink RX9 12 "GlassRacks" "now" "LGlassRacks$State;") (by decide +kernel)
  have l_152 := hts (.fieldLink RX9 152 "GlassRacks$State" "orders" "LGlassRacks$Orders;") (by decide +kernel)
  have l_221 := hts (.fieldLink RX9 221 "GlassRacks$State" "scrapArea" "I") (by decide +kernel)
  have l_222 := hts (.fieldLink RX9 222 "GlassRacks$State" "liftings" "I") (by decide +kernel)
  have l_225 := hts (.fieldLink RX9 225 "GlassRacks$State" "brokenArea" "I") (by decide +kernel)
  have l_234 := hts (.fieldLink RX9 234 "GlassRacks$State" "boughtArea" "I") (by decide +kernel)
  have l_237 := hts (.fieldLink RX9 237 "GlassRacks$State" "paneArea" "I") (by decide +kernel)
  have l_240 := hts (.fieldLink RX9 240 "GlassRacks$State" "lostArea" "I") (by decide +kernel)
  have l_241 := hts (.fieldLink RX9 241 "GlassRacks$Orders" "taken" "I") (by decide +kernel)
  have l_250 := hts (.fieldLink RX9 250 "GlassRacks$Racks" "sheetsMade" "I") (by decide +kernel)
  have l_253 := hts (.fieldLink RX9 253 "GlassRacks$History" "recorded" "I") (by decide +kernel)
  have l_255 := hts (.fieldLink RX9 255 "GlassRacks$CommandText" "length" "I") (by decide +kernel)
  have l_29 := hts (.fieldLink RX9 29 "GlassRacks" "history" "LGlassRacks$History;") (by decide +kernel)
  have l_36 := hts (.fieldLink RX9 36 "GlassRacks" "text" "LGlassRacks$CommandText;") (by decide +kernel)
  have l_44 := hts (.fieldLink RX9 44 "GlassRacks$State" "settings" "LGlassRacks$Settings;") (by decide +kernel)
  unfold f9_count at hf
  refine lv_iload_n hx hb dX9_count_0 rfl (lv_at hl 1 rfl) ?_
  by_cases hc1_0 : p1 = (0 : Int32)
  · replace hf := g_it hf hc1_0
    refine lv_tableIn (off := 115) (tgt := 116) hx hb dX9_count_1 (by rw [hc1_0]; decide) (by rw [hc1_0]; decide) (by rw [hc1_0]; rfl) (by decide) ?_
    refine lv_aload_n hx hb dX9_count_116 rfl (lv_at hl 0 rfl) ?_
    refine g_get hx hb hts in_9 hown hK hR.2.2.2.1 rfl 0 (by decide) l_12 rfl rfl dX9_count_117 ?_
    refine g_get hx hb hts in_8 hown hK (hR.1 0 (by decide)).1 rfl 4 (by decide) l_107 rfl rfl dX9_count_120 ?_
    obtain rfl := g_s1 hf
    exact g_iret hx hb hlocks hr hS hR g_le.rf ⟨rfl, rfl⟩ (by omega) (by omega) dX9_count_123
  · replace hf := g_if hf hc1_0
    by_cases hc2_1 : p1 = (1 : Int32)
    · replace hf := g_it hf hc2_1
      refine lv_tableIn (off := 123) (tgt := 124) hx hb dX9_count_1 (by rw [hc2_1]; decide) (by rw [hc2_1]; decide) (by rw [hc2_1]; rfl) (by decide) ?_
      refine lv_aload_n hx hb dX9_count_124 rfl (lv_at hl 0 rfl) ?_
      refine g_get hx hb hts in_9 hown hK hR.2.2.2.1 rfl 0 (by decide) l_12 rfl rfl dX9_count_125 ?_
      refine g_get hx hb hts in_8 hown hK (hR.1 0 (by decide)).1 rfl 1 (by decide) l_111 rfl rfl dX9_count_128 ?_
      obtain ⟨r1, hc2, hf⟩ := g_b1_e hf
      refine g_call (va_runV (As := []) (rest := []) ⟨hx, hb, hml, hown, hts⟩ (c5_sheetsThere l G E μ 0 (by decide) _ _ hc2) (cwV 0 hts gX9_count_X5_sheetsThere rfl rfl rfl (by decide +kernel) ⟨Nat.le_of_ble_eq_true rfl, Nat.le_of_ble_eq_true rfl⟩) (g_preV (ci := 5) (hR.st 0) hK ((hR.1 0 (by decide)).2.2.1) rfl) rfl rfl hl.1 rfl (lv_room (Nat.le_of_ble_eq_true rfl)) dX9_count_131 ⟨by show _ ≤ 0; omega, by show _ ≤ 0; omega⟩) hS (fun w3 H locs hp hR hS => ?_)
      rw [g_setS_self] at hR
      subst hp
      obtain rfl := g_s1 hf
      exact g_iret hx hb hlocks hr hS hR g_le.rf ⟨rfl, rfl⟩ (by omega) (by omega) dX9_count_134
    · replace hf := g_if hf hc2_1
      by_cases hc3_2 : p1 = (2 : Int32)
      · replace hf := g_it hf hc3_2
        refine lv_tableIn (off := 134) (tgt := 135) hx hb dX9_count_1 (by rw [hc3_2]; decide) (by rw [hc3_2]; decide) (by rw [hc3_2]; rfl) (by decide) ?_
        refine lv_aload_n hx hb dX9_count_135 rfl (lv_at hl 0 rfl) ?_
        refine g_get hx hb hts in_9 hown hK hR.2.2.2.1 rfl 0 (by decide) l_12 rfl rfl dX9_count_136 ?_
        refine g_get hx hb hts in_8 hown hK (hR.1 0 (by decide)).1 rfl 1 (by decide) l_111 rfl rfl dX9_count_139 ?_
        obtain ⟨r4, hc5, hf⟩ := g_b1_e hf
        refine g_call (va_runV (As := []) (rest := []) ⟨hx, hb, hml, hown, hts⟩ (c5_areaThere l G E μ 0 (by decide) _ _ hc5) (cwV 0 hts gX9_count_X5_areaThere rfl rfl rfl (by decide +kernel) ⟨Nat.le_of_ble_eq_true rfl, Nat.le_of_ble_eq_true rfl⟩) (g_preV (ci := 5) (hR.st 0) hK ((hR.1 0 (by decide)).2.2.1) rfl) rfl rfl hl.1 rfl (lv_room (Nat.le_of_ble_eq_true rfl)) dX9_count_142 ⟨by show _ ≤ 0; omega, by show _ ≤ 0; omega⟩) hS (fun w6 H locs hp hR hS => ?_)
        rw [g_setS_self] at hR
        subst hp
        obtain rfl := g_s1 hf
        exact g_iret hx hb hlocks hr hS hR g_le.rf ⟨rfl, rfl⟩ (by omega) (by omega) dX9_count_145
      · replace hf := g_if hf hc3_2
        by_cases hc4_3 : p1 = (3 : Int32)
        · replace hf := g_it hf hc4_3
          refine lv_tableIn (off := 145) (tgt := 146) hx hb dX9_count_1 (by rw [hc4_3]; decide) (by rw [hc4_3]; decide) (by rw [hc4_3]; rfl) (by decide) ?_
          refine lv_aload_n hx hb dX9_count_146 rfl (lv_at hl 0 rfl) ?_
          refine g_get hx hb hts in_9 hown hK hR.2.2.2.1 rfl 0 (by decide) l_12 rfl rfl dX9_count_147 ?_
          refine g_get hx hb hts in_8 hown hK (hR.1 0 (by decide)).1 rfl 5 (by decide) l_234 rfl rfl dX9_count_150 ?_
          obtain rfl := g_s1 hf
          exact g_iret hx hb hlocks hr hS hR g_le.rf ⟨rfl, rfl⟩ (by omega) (by omega) dX9_count_153
        · replace hf := g_if hf hc4_3
          by_cases hc5_4 : p1 = (4 : Int32)
          · replace hf := g_it hf hc5_4
            refine lv_tableIn (off := 153) (tgt := 154) hx hb dX9_count_1 (by rw [hc5_4]; decide) (by rw [hc5_4]; decide) (by rw [hc5_4]; rfl) (by decide) ?_
            refine lv_aload_n hx hb dX9_count_154 rfl (lv_at hl 0 rfl) ?_
            refine g_get hx hb hts in_9 hown hK hR.2.2.2.1 rfl 0 (by decide) l_12 rfl rfl dX9_count_155 ?_
            refine g_get hx hb hts in_8 hown hK (hR.1 0 (by decide)).1 rfl 6 (by decide) l_237 rfl rfl dX9_count_158 ?_
            obtain rfl := g_s1 hf
            exact g_iret hx hb hlocks hr hS hR g_le.rf ⟨rfl, rfl⟩ (by omega) (by omega) dX9_count_161
          · replace hf := g_if hf hc5_4
            by_cases hc6_5 : p1 = (5 : Int32)
            · replace hf := g_it hf hc6_5
              refine lv_tableIn (off := 161) (tgt := 162) hx hb dX9_count_1 (by rw [hc6_5]; decide) (by rw [hc6_5]; decide) (by rw [hc6_5]; rfl) (by decide) ?_
              refine lv_aload_n hx hb dX9_count_162 rfl (lv_at hl 0 rfl) ?_
              refine g_get hx hb hts in_9 hown hK hR.2.2.2.1 rfl 0 (by decide) l_12 rfl rfl dX9_count_163 ?_
              refine g_get hx hb hts in_8 hown hK (hR.1 0 (by decide)).1 rfl 7 (by decide) l_221 rfl rfl dX9_count_166 ?_
              obtain rfl := g_s1 hf
              exact g_iret hx hb hlocks hr hS hR g_le.rf ⟨rfl, rfl⟩ (by omega) (by omega) dX9_count_169
            · replace hf := g_if hf hc6_5
              by_cases hc7_6 : p1 = (6 : Int32)
              · replace hf := g_it hf hc7_6
                refine lv_tableIn (off := 169) (tgt := 170) hx hb dX9_count_1 (by rw [hc7_6]; decide) (by rw [hc7_6]; decide) (by rw [hc7_6]; rfl) (by decide) ?_
                refine lv_aload_n hx hb dX9_count_170 rfl (lv_at hl 0 rfl) ?_
                refine g_get hx hb hts in_9 hown hK hR.2.2.2.1 rfl 0 (by decide) l_12 rfl rfl dX9_count_171 ?_
                refine g_get hx hb hts in_8 hown hK (hR.1 0 (by decide)).1 rfl 8 (by decide) l_225 rfl rfl dX9_count_174 ?_
                obtain rfl := g_s1 hf
                exact g_iret hx hb hlocks hr hS hR g_le.rf ⟨rfl, rfl⟩ (by omega) (by omega) dX9_count_177
              · replace hf := g_if hf hc7_6
                by_cases hc8_7 : p1 = (7 : Int32)
                · replace hf := g_it hf hc8_7
                  refine lv_tableIn (off := 177) (tgt := 178) hx hb dX9_count_1 (by rw [hc8_7]; decide) (by rw [hc8_7]; decide) (by rw [hc8_7]; rfl) (by decide) ?_
                  refine lv_aload_n hx hb dX9_count_178 rfl (lv_at hl 0 rfl) ?_
                  refine g_get hx hb hts in_9 hown hK hR.2.2.2.1 rfl 0 (by decide) l_12 rfl rfl dX9_count_179 ?_
                  refine g_get hx hb hts in_8 hown hK (hR.1 0 (by decide)).1 rfl 9 (by decide) l_240 rfl rfl dX9_count_182 ?_
                  obtain rfl := g_s1 hf
                  exact g_iret hx hb hlocks hr hS hR g_le.rf ⟨rfl, rfl⟩ (by omega) (by omega) dX9_count_185
                · replace hf := g_if hf hc8_7
                  by_cases hc9_8 : p1 = (8 : Int32)
                  · replace hf := g_it hf hc9_8
                    refine lv_tableIn (off := 185) (tgt := 186) hx hb dX9_count_1 (by rw [hc9_8]; decide) (by rw [hc9_8]; decide) (by rw [hc9_8]; rfl) (by decide) ?_
                    refine lv_aload_n hx hb dX9_count_186 rfl (lv_at hl 0 rfl) ?_
                    refine g_get hx hb hts in_9 hown hK hR.2.2.2.1 rfl 0 (by decide) l_12 rfl rfl dX9_count_187 ?_
                    refine g_get hx hb hts in_8 hown hK (hR.1 0 (by decide)).1 rfl 10 (by decide) l_222 rfl rfl dX9_count_190 ?_
                    obtain rfl := g_s1 hf
                    exact g_iret hx hb hlocks hr hS hR g_le.rf ⟨rfl, rfl⟩ (by omega) (by omega) dX9_count_193
                  · replace hf := g_if hf hc9_8
                    by_cases hc10_9 : p1 = (9 : Int32)
                    · replace hf := g_it hf hc10_9
                      refine lv_tableIn (off := 193) (tgt := 194) hx hb dX9_count_1 (by rw [hc10_9]; decide) (by rw [hc10_9]; decide) (by rw [hc10_9]; rfl) (by decide) ?_
                      refine lv_aload_n hx hb dX9_count_194 rfl (lv_at hl 0 rfl) ?_
                      refine g_get hx hb hts in_9 hown hK hR.2.2.2.1 rfl 0 (by decide) l_12 rfl rfl dX9_count_195 ?_
                      refine g_get hx hb hts in_8 hown hK (hR.1 0 (by decide)).1 rfl 2 (by decide) l_152 rfl rfl dX9_count_198 ?_
                      refine g_get hx hb hts in_4 hown hK (hR.1 0 (by decide)).2.2.2.2.1 rfl 1 (by decide) l_241 rfl rfl dX9_count_201 ?_
                      obtain rfl := g_s1 hf
                      exact g_iret hx hb hlocks hr hS hR g_le.rf ⟨rfl, rfl⟩ (by omega) (by omega) dX9_count_204
                    · replace hf := g_if hf hc10_9
                      by_cases hc11_10 : p1 = (10 : Int32)
                      · replace hf := g_it hf hc11_10
                        refine lv_tableIn (off := 204) (tgt := 205) hx hb dX9_count_1 (by rw [hc11_10]; decide) (by rw [hc11_10]; decide) (by rw [hc11_10]; rfl) (by decide) ?_
                        refine lv_aload_n hx hb dX9_count_205 rfl (lv_at hl 0 rfl) ?_
                        refine g_get hx hb hts in_9 hown hK hR.2.2.2.1 rfl 0 (by decide) l_12 rfl rfl dX9_count_206 ?_
                        refine g_get hx hb hts in_8 hown hK (hR.1 0 (by decide)).1 rfl 2 (by decide) l_152 rfl rfl dX9_count_209 ?_
                        obtain ⟨r7, hc8, hf⟩ := g_b1_e hf
                        refine g_call (va_runV (As := []) (rest := []) ⟨hx, hb, hml, hown, hts⟩ (c4_openOnes l G E μ 0 (by decide) _ _ hc8) (cwV 0 hts gX9_count_X4_openOnes rfl rfl rfl (by decide +kernel) ⟨Nat.le_of_ble_eq_true rfl, Nat.le_of_ble_eq_true rfl⟩) (g_preV (ci := 4) (hR.st 0) hK ((hR.1 0 (by decide)).2.2.2.2.1) rfl) rfl rfl hl.1 rfl (lv_room (Nat.le_of_ble_eq_true rfl)) dX9_count_212 ⟨by show _ ≤ 0; omega, by show _ ≤ 0; omega⟩) hS (fun w9 H locs hp hR hS => ?_)
                        rw [g_setS_self] at hR
                        subst hp
                        obtain rfl := g_s1 hf
                        exact g_iret hx hb hlocks hr hS hR g_le.rf ⟨rfl, rfl⟩ (by omega) (by omega) dX9_count_215
                      · replace hf := g_if hf hc11_10
                        by_cases hc12_11 : p1 = (11 : Int32)
                        · replace hf := g_it hf hc12_11
                          refine lv_tableIn (off := 215) (tgt := 216) hx hb dX9_count_1 (by rw [hc12_11]; decide) (by rw [hc12_11]; decide) (by rw [hc12_11]; rfl) (by decide) ?_
                          refine lv_aload_n hx hb dX9_count_216 rfl (lv_at hl 0 rfl) ?_
                          refine g_get hx hb hts in_9 hown hK hR.2.2.2.1 rfl 0 (by decide) l_12 rfl rfl dX9_count_217 ?_
                          refine g_get hx hb hts in_8 hown hK (hR.1 0 (by decide)).1 rfl 2 (by decide) l_152 rfl rfl dX9_count_220 ?_
                          refine lv_aload_n hx hb dX9_count_223 rfl (lv_at hl 0 rfl) ?_
                          refine g_get hx hb hts in_9 hown hK hR.2.2.2.1 rfl 0 (by decide) l_12 rfl rfl dX9_count_224 ?_
                          refine g_get hx hb hts in_8 hown hK (hR.1 0 (by decide)).1 rfl 4 (by decide) l_107 rfl rfl dX9_count_227 ?_
                          obtain ⟨r10, hc11, hf⟩ := g_b1_e hf
                          refine g_call (va_runV (As := [.int ((μ.1 0).1 5)]) (rest := []) ⟨hx, hb, hml, hown, hts⟩ (c4_lateOnes l G E μ 0 (by decide) _ _ _ hc11) (cwV 1 hts gX9_count_X4_lateOnes rfl rfl rfl (by decide +kernel) ⟨Nat.le_of_ble_eq_true rfl, Nat.le_of_ble_eq_true rfl⟩) (g_preV (ci := 4) (hR.st 0) hK ((hR.1 0 (by decide)).2.2.2.2.1) rfl) rfl rfl hl.1 rfl (lv_room (Nat.le_of_ble_eq_true rfl)) dX9_count_230 ⟨by show _ ≤ 0; omega, by show _ ≤ 0; omega⟩) hS (fun w12 H locs hp hR hS => ?_)
                          rw [g_setS_self] at hR
                          subst hp
                          obtain rfl := g_s1 hf
                          exact g_iret hx hb hlocks hr hS hR g_le.rf ⟨rfl, rfl⟩ (by omega) (by omega) dX9_count_233
                        · replace hf := g_if hf hc12_11
                          by_cases hc13_12 : p1 = (12 : Int32)
                          · replace hf := g_it hf hc13_12
                            refine lv_tableIn (off := 233) (tgt := 234) hx hb dX9_count_1 (by rw [hc13_12]; decide) (by rw [hc13_12]; decide) (by rw [hc13_12]; rfl) (by decide) ?_
                            refine lv_aload_n hx hb dX9_count_234 rfl (lv_at hl 0 rfl) ?_
                            refine g_get hx hb hts in_9 hown hK hR.2.2.2.1 rfl 0 (by decide) l_12 rfl rfl dX9_count_235 ?_
                            refine g_get hx hb hts in_8 hown hK (hR.1 0 (by decide)).1 rfl 1 (by decide) l_111 rfl rfl dX9_count_238 ?_
                            refine g_get hx hb hts in_5 hown hK (hR.1 0 (by decide)).2.2.1 rfl 1 (by decide) l_250 rfl rfl dX9_count_241 ?_
                            obtain rfl := g_s1 hf
                            exact g_iret hx hb hlocks hr hS hR g_le.rf ⟨rfl, rfl⟩ (by omega) (by omega) dX9_count_244
                          · replace hf := g_if hf hc13_12
                            by_cases hc14_13 : p1 = (13 : Int32)
                            · replace hf := g_it hf hc14_13
                              refine lv_tableIn (off := 244) (tgt := 245) hx hb dX9_count_1 (by rw [hc14_13]; decide) (by rw [hc14_13]; decide) (by rw [hc14_13]; rfl) (by decide) ?_
                              refine lv_aload_n hx hb dX9_count_245 rfl (lv_at hl 0 rfl) ?_
                              refine g_get hx hb hts in_9 hown hK hR.2.2.2.1 rfl 4 (by decide) l_29 rfl rfl dX9_count_246 ?_
                              refine g_get hx hb hts in_2 hown hK hR.2.1.2.1 rfl 1 (by decide) l_253 rfl rfl dX9_count_249 ?_
                              obtain rfl := g_s1 hf
                              exact g_iret hx hb hlocks hr hS hR g_le.rf ⟨rfl, rfl⟩ (by omega) (by omega) dX9_count_252
                            · replace hf := g_if hf hc14_13
                              by_cases hc15_14 : p1 = (14 : Int32)
                              · replace hf := g_it hf hc15_14
                                refine lv_tableIn (off := 252) (tgt := 253) hx hb dX9_count_1 (by rw [hc15_14]; decide) (by rw [hc15_14]; decide) (by rw [hc15_14]; rfl) (by decide) ?_
                                refine lv_aload_n hx hb dX9_count_253 rfl (lv_at hl 0 rfl) ?_
                                refine g_get hx hb hts in_9 hown hK hR.2.2.2.1 rfl 5 (by decide) l_36 rfl rfl dX9_count_254 ?_
                                refine g_get hx hb hts in_0 hown hK hR.2.2.1.1 rfl 1 (by decide) l_255 rfl rfl dX9_count_257 ?_
                                obtain rfl := g_s1 hf
                                exact g_iret hx hb hlocks hr hS hR g_le.rf ⟨rfl, rfl⟩ (by omega) (by omega) dX9_count_260
                              · replace hf := g_if hf hc15_14
                                by_cases hc16_20 : p1 = (20 : Int32)
                                · replace hf := g_it hf hc16_20
                                  refine lv_tableIn (off := 260) (tgt := 261) hx hb dX9_count_1 (by rw [hc16_20]; decide) (by rw [hc16_20]; decide) (by rw [hc16_20]; rfl) (by decide) ?_
                                  refine lv_aload_n hx hb dX9_count_261 rfl (lv_at hl 0 rfl) ?_
                                  refine g_get hx hb hts in_9 hown hK hR.2.2.2.1 rfl 0 (by decide) l_12 rfl rfl dX9_count_262 ?_
                                  refine g_get hx hb hts in_8 hown hK (hR.1 0 (by decide)).1 rfl 0 (by decide) l_44 rfl rfl dX9_count_265 ?_
                                  refine lv_iload_n hx hb dX9_count_268 rfl (lv_at hl 1 rfl) ?_
                                  refine lv_bipush (v := 20) hx hb dX9_count_269 (by decide) ?_
                                  refine lv_isub hx hb dX9_count_271 ?_
                                  obtain ⟨r13, hc14, hf⟩ := g_b1_e hf
                                  refine g_call (va_runV (As := [.int (p1 - (20 : Int32))]) (rest := []) ⟨hx, hb, hml, hown, hts⟩ (c6_value l G E μ 0 (by decide) _ _ _ hc14) (cwV 1 hts gX9_count_X6_value rfl rfl rfl (by decide +kernel) ⟨Nat.le_of_ble_eq_true rfl, Nat.le_of_ble_eq_true rfl⟩) (g_preV (ci := 6) (hR.st 0) hK ((hR.1 0 (by decide)).2.1) rfl) rfl rfl hl.1 rfl (lv_room (Nat.le_of_ble_eq_true rfl)) dX9_count_272 ⟨by show _ ≤ 0; omega, by show _ ≤ 0; omega⟩) hS (fun w15 H locs hp hR hS => ?_)
                                  rw [g_setS_self] at hR
                                  subst hp
                                  obtain rfl := g_s1 hf
                                  exact g_iret hx hb hlocks hr hS hR g_le.rf ⟨rfl, rfl⟩ (by omega) (by omega) dX9_count_275
                                · replace hf := g_if hf hc16_20
                                  by_cases hc17_21 : p1 = (21 : Int32)
                                  · replace hf := g_it hf hc17_21
                                    refine lv_tableIn (off := 260) (tgt := 261) hx hb dX9_count_1 (by rw [hc17_21]; decide) (by rw [hc17_21]; decide) (by rw [hc17_21]; rfl) (by decide) ?_
                                    refine lv_aload_n hx hb dX9_count_261 rfl (lv_at hl 0 rfl) ?_
                                    refine g_get hx hb hts in_9 hown hK hR.2.2.2.1 rfl 0 (by decide) l_12 rfl rfl dX9_count_262 ?_
                                    refine g_get hx hb hts in_8 hown hK (hR.1 0 (by decide)).1 rfl 0 (by decide) l_44 rfl rfl dX9_count_265 ?_
                                    refine lv_iload_n hx hb dX9_count_268 rfl (lv_at hl 1 rfl) ?_
                                    refine lv_bipush (v := 20) hx hb dX9_count_269 (by decide) ?_
                                    refine lv_isub hx hb dX9_count_271 ?_
                                    obtain ⟨r16, hc17, hf⟩ := g_b1_e hf
                                    refine g_call (va_runV (As := [.int (p1 - (20 : Int32))]) (rest := []) ⟨hx, hb, hml, hown, hts⟩ (c6_value l G E μ 0 (by decide) _ _ _ hc17) (cwV 1 hts gX9_count_X6_value rfl rfl rfl (by decide +kernel) ⟨Nat.le_of_ble_eq_true rfl, Nat.le_of_ble_eq_true rfl⟩) (g_preV (ci := 6) (hR.st 0) hK ((hR.1 0 (by decide)).2.1) rfl) rfl rfl hl.1 rfl (lv_room (Nat.le_of_ble_eq_true rfl)) dX9_count_272 ⟨by show _ ≤ 0; omega, by show _ ≤ 0; omega⟩) hS (fun w18 H locs hp hR hS => ?_)
                                    rw [g_setS_self] at hR
                                    subst hp
                                    obtain rfl := g_s1 hf
                                    exact g_iret hx hb hlocks hr hS hR g_le.rf ⟨rfl, rfl⟩ (by omega) (by omega) dX9_count_275
                                  · replace hf := g_if hf hc17_21
                                    by_cases hc18_22 : p1 = (22 : Int32)
                                    · replace hf := g_it hf hc18_22
                                      refine lv_tableIn (off := 260) (tgt := 261) hx hb dX9_count_1 (by rw [hc18_22]; decide) (by rw [hc18_22]; decide) (by rw [hc18_22]; rfl) (by decide) ?_
                                      refine lv_aload_n hx hb dX9_count_261 rfl (lv_at hl 0 rfl) ?_
                                      refine g_get hx hb hts in_9 hown hK hR.2.2.2.1 rfl 0 (by decide) l_12 rfl rfl dX9_count_262 ?_
                                      refine g_get hx hb hts in_8 hown hK (hR.1 0 (by decide)).1 rfl 0 (by decide) l_44 rfl rfl dX9_count_265 ?_
                                      refine lv_iload_n hx hb dX9_count_268 rfl (lv_at hl 1 rfl) ?_
                                      refine lv_bipush (v := 20) hx hb dX9_count_269 (by decide) ?_
                                      refine lv_isub hx hb dX9_count_271 ?_
                                      obtain ⟨r19, hc20, hf⟩ := g_b1_e hf
                                      refine g_call (va_runV (As := [.int (p1 - (20 : Int32))]) (rest := []) ⟨hx, hb, hml, hown, hts⟩ (c6_value l G E μ 0 (by decide) _ _ _ hc20) (cwV 1 hts gX9_count_X6_value rfl rfl rfl (by decide +kernel) ⟨Nat.le_of_ble_eq_true rfl, Nat.le_of_ble_eq_true rfl⟩) (g_preV (ci := 6) (hR.st 0) hK ((hR.1 0 (by decide)).2.1) rfl) rfl rfl hl.1 rfl (lv_room (Nat.le_of_ble_eq_true rfl)) dX9_count_272 ⟨by show _ ≤ 0; omega, by show _ ≤ 0; omega⟩) hS (fun w21 H locs hp hR hS => ?_)
                                      rw [g_setS_self] at hR
                                      subst hp
                                      obtain rfl := g_s1 hf
                                      exact g_iret hx hb hlocks hr hS hR g_le.rf ⟨rfl, rfl⟩ (by omega) (by omega) dX9_count_275
                                    · replace hf := g_if hf hc18_22
                                      by_cases hc19_23 : p1 = (23 : Int32)
                                      · replace hf := g_it hf hc19_23
                                        refine lv_tableIn (off := 260) (tgt := 261) hx hb dX9_count_1 (by rw [hc19_23]; decide) (by rw [hc19_23]; decide) (by rw [hc19_23]; rfl) (by decide) ?_
                                        refine lv_aload_n hx hb dX9_count_261 rfl (lv_at hl 0 rfl) ?_
                                        refine g_get hx hb hts in_9 hown hK hR.2.2.2.1 rfl 0 (by decide) l_12 rfl rfl dX9_count_262 ?_
                                        refine g_get hx hb hts in_8 hown hK (hR.1 0 (by decide)).1 rfl 0 (by decide) l_44 rfl rfl dX9_count_265 ?_
                                        refine lv_iload_n hx hb dX9_count_268 rfl (lv_at hl 1 rfl) ?_
                                        refine lv_bipush (v := 20) hx hb dX9_count_269 (by decide) ?_
                                        refine lv_isub hx hb dX9_count_271 ?_
                                        obtain ⟨r22, hc23, hf⟩ := g_b1_e hf
                                        refine g_call (va_runV (As := [.int (p1 - (20 : Int32))]) (rest := []) ⟨hx, hb, hml, hown, hts⟩ (c6_value l G E μ 0 (by decide) _ _ _ hc23) (cwV 1 hts gX9_count_X6_value rfl rfl rfl (by decide +kernel) ⟨Nat.le_of_ble_eq_true rfl, Nat.le_of_ble_eq_true rfl⟩) (g_preV (ci := 6) (hR.st 0) hK ((hR.1 0 (by decide)).2.1) rfl) rfl rfl hl.1 rfl (lv_room (Nat.le_of_ble_eq_true rfl)) dX9_count_272 ⟨by show _ ≤ 0; omega, by show _ ≤ 0; omega⟩) hS (fun w24 H locs hp hR hS => ?_)
                                        rw [g_setS_self] at hR
                                        subst hp
                                        obtain rfl := g_s1 hf
                                        exact g_iret hx hb hlocks hr hS hR g_le.rf ⟨rfl, rfl⟩ (by omega) (by omega) dX9_count_275
                                      · replace hf := g_if hf hc19_23
                                        by_cases hc20_24 : p1 = (24 : Int32)
                                        · replace hf := g_it hf hc20_24
                                          refine lv_tableIn (off := 260) (tgt := 261) hx hb dX9_count_1 (by rw [hc20_24]; decide) (by rw [hc20_24]; decide) (by rw [hc20_24]; rfl) (by decide) ?_
                                          refine lv_aload_n hx hb dX9_count_261 rfl (lv_at hl 0 rfl) ?_
                                          refine g_get hx hb hts in_9 hown hK hR.2.2.2.1 rfl 0 (by decide) l_12 rfl rfl dX9_count_262 ?_
                                          refine g_get hx hb hts in_8 hown hK (hR.1 0 (by decide)).1 rfl 0 (by decide) l_44 rfl rfl dX9_count_265 ?_
                                          refine lv_iload_n hx hb dX9_count_268 rfl (lv_at hl 1 rfl) ?_
                                          refine lv_bipush (v := 20) hx hb dX9_count_269 (by decide) ?_
                                          refine lv_isub hx hb dX9_count_271 ?_
                                          obtain ⟨r25, hc26, hf⟩ := g_b1_e hf
                                          refine g_call (va_runV (As := [.int (p1 - (20 : Int32))]) (rest := []) ⟨hx, hb, hml, hown, hts⟩ (c6_value l G E μ 0 (by decide) _ _ _ hc26) (cwV 1 hts gX9_count_X6_value rfl rfl rfl (by decide +kernel) ⟨Nat.le_of_ble_eq_true rfl, Nat.le_of_ble_eq_true rfl⟩) (g_preV (ci := 6) (hR.st 0) hK ((hR.1 0 (by decide)).2.1) rfl) rfl rfl hl.1 rfl (lv_room (Nat.le_of_ble_eq_true rfl)) dX9_count_272 ⟨by show _ ≤ 0; omega, by show _ ≤ 0; omega⟩) hS (fun w27 H locs hp hR hS => ?_)
                                          rw [g_setS_self] at hR
                                          subst hp
                                          obtain rfl := g_s1 hf
                                          exact g_iret hx hb hlocks hr hS hR g_le.rf ⟨rfl, rfl⟩ (by omega) (by omega) dX9_count_275
                                        · replace hf := g_if hf hc20_24
                                          have hdf : W p l e (headSpec wsX9_count ({ frames := 2, cells := 0, slots := 0, locals := 45 } : Room)).room s m ([.ref G.2.2, .int p1] : List Value).toArray below meth c s.heap [] 0 0 (MQ below (g_Q G E μ (fun E' v => E' = E ∧ v = some (.int ro))) ([.ref G.2.2, .int p1] : List Value).toArray s 0 0 (g_A G)) (F0 m 276 ls []) := by
                                            refine lv_bipush (v := -2) hx hb dX9_count_276 (by decide) ?_
                                            obtain rfl := g_s1 hf
                                            exact g_iret hx hb hlocks hr hS hR g_le.rf ⟨rfl, rfl⟩ (by omega) (by omega) dX9_count_278
                                          by_cases hgp15 : p1 = (15 : Int32)
                                          · exact lv_tableIn (off := 275) (tgt := 276) hx hb dX9_count_1 (by rw [hgp15]; decide) (by rw [hgp15]; decide) (by rw [hgp15]; rfl) (by decide) hdf
                                          by_cases hgp16 : p1 = (16 : Int32)
                                          · exact lv_tableIn (off := 275) (tgt := 276) hx hb dX9_count_1 (by rw [hgp16]; decide) (by rw [hgp16]; decide) (by rw [hgp16]; rfl) (by decide) hdf
                                          by_cases hgp17 : p1 = (17 : Int32)
                                          · exact lv_tableIn (off := 275) (tgt := 276) hx hb dX9_count_1 (by rw [hgp17]; decide) (by rw [hgp17]; decide) (by rw [hgp17]; rfl) (by decide) hdf
                                          by_cases hgp18 : p1 = (18 : Int32)
                                          · exact lv_tableIn (off := 275) (tgt := 276) hx hb dX9_count_1 (by rw [hgp18]; decide) (by rw [hgp18]; decide) (by rw [hgp18]; rfl) (by decide) hdf
                                          by_cases hgp19 : p1 = (19 : Int32)
                                          · exact lv_tableIn (off := 275) (tgt := 276) hx hb dX9_count_1 (by rw [hgp19]; decide) (by rw [hgp19]; decide) (by rw [hgp19]; rfl) (by decide) hdf
                                          have qhc1_0 := lv_neT hc1_0 (a := 0) (by decide)
                                          have qhc2_1 := lv_neT hc2_1 (a := 1) (by decide)
                                          have qhc3_2 := lv_neT hc3_2 (a := 2) (by decide)
                                          have qhc4_3 := lv_neT hc4_3 (a := 3) (by decide)
                                          have qhc5_4 := lv_neT hc5_4 (a := 4) (by decide)
                                          have qhc6_5 := lv_neT hc6_5 (a := 5) (by decide)
                                          have qhc7_6 := lv_neT hc7_6 (a := 6) (by decide)
                                          have qhc8_7 := lv_neT hc8_7 (a := 7) (by decide)
                                          have qhc9_8 := lv_neT hc9_8 (a := 8) (by decide)
                                          have qhc10_9 := lv_neT hc10_9 (a := 9) (by decide)
                                          have qhc11_10 := lv_neT hc11_10 (a := 10) (by decide)
                                          have qhc12_11 := lv_neT hc12_11 (a := 11) (by decide)
                                          have qhc13_12 := lv_neT hc13_12 (a := 12) (by decide)
                                          have qhc14_13 := lv_neT hc14_13 (a := 13) (by decide)
                                          have qhc15_14 := lv_neT hc15_14 (a := 14) (by decide)
                                          have qhc16_20 := lv_neT hc16_20 (a := 20) (by decide)
                                          have qhc17_21 := lv_neT hc17_21 (a := 21) (by decide)
                                          have qhc18_22 := lv_neT hc18_22 (a := 22) (by decide)
                                          have qhc19_23 := lv_neT hc19_23 (a := 23) (by decide)
                                          have qhc20_24 := lv_neT hc20_24 (a := 24) (by decide)
                                          have qhgp15 := lv_neT hgp15 (a := 15) (by decide)
                                          have qhgp16 := lv_neT hgp16 (a := 16) (by decide)
                                          have qhgp17 := lv_neT hgp17 (a := 17) (by decide)
                                          have qhgp18 := lv_neT hgp18 (a := 18) (by decide)
                                          have qhgp19 := lv_neT hgp19 (a := 19) (by decide)
                                          exact lv_tableOut (tgt := 276) hx hb dX9_count_1 (by omega) (by decide) hdf
set_option maxHeartbeats 4000000 in
set_option maxRecDepth 100000 in
theorem c9_cut (l : Launch) (G : gG) (E : gEn) (μ : gMu) (p1 : Int32) (p2 : Int32) (ro : Int32) (zo : gMu) (hf : f9_cut μ p1 p2 = some (ro, zo)) : Met l yX9_cut wsX9_cut ({ frames := 6, cells := 3, slots := 18, locals := 140 } : Room) (g_Pre G E μ [.ref G.2.2, .int p1, .int p2]) (g_Q G E zo (fun E' v => v = some (.int ro))) 3 18 (g_A G) := by
  refine Met.ofW (cc := cX9_cut) (maxL := 3) (ret := some .int) (by decide) rfl ?_
  intro p e s m args below meth c s₁ B hml hv
  obtain ⟨rfl, hR, hK⟩ := hv
  have hx := B.exec
  have hb := B.bytes
  have hr := B.returns
  have hts := atoms_spec (ws := wsX9_cut) B.pre
  have hown : s.vm.findClass RX9 = some m.cls := findClass_of_methodNamed B.named
  have hlocks := B.notSynchronized
  have hS : va_S (g_A G) s.heap s.heap [] := va_S.rf
  have hl := lv_entry ([.ref G.2.2, .int p1, .int p2]) (n := 3) (Nat.le_of_ble_eq_true rfl)
  rw [lg_entry_eq]
  generalize (lg_sl ([.ref G.2.2, .int p1, .int p2]) ++ List.replicate (3 - (lg_sl ([.ref G.2.2, .int p1, .int p2])).length) Slot.unset).toArray = ls at hl ⊢
  have hl : lv_has ls 3 [(0, .ref G.2.2), (1, .int p1), (2, .int p2)] := hl
  have in_9 : ∀ w ∈ u_ws RX9 TX9 6, w ∈ wsX9_cut := ifX9_cut_9
  have l_12 := hts (.fieldLink RX9 12 "GlassRacks" "now" "LGlassRacks$State;") (by decide +kernel)
  have l_16 := hts (.fieldLink RX9 16 "GlassRacks" "before" "LGlassRacks$State;") (by decide +kernel)
  unfold f9_cut at hf
  refine lv_aload_n hx hb dX9_cut_0 rfl (lv_at hl 0 rfl) ?_
  refine g_get hx hb hts in_9 hown hK hR.2.2.2.1 rfl 1 (by decide) l_16 rfl rfl dX9_cut_1 ?_
  refine lv_aload_n hx hb dX9_cut_4 rfl (lv_at hl 0 rfl) ?_
  refine g_get hx hb hts in_9 hown hK hR.2.2.2.1 rfl 0 (by decide) l_12 rfl rfl dX9_cut_5 ?_
  obtain ⟨z1, hc2, hf⟩ := g_b1_e hf
  refine g_call (va_runV (As := [.ref (g_stA G 0)]) (rest := []) ⟨hx, hb, hml, hown, hts⟩ (c8_copyFrom l G E μ 1 (by decide) _ 0 (by decide) (by decide) _ hc2) (cwV 1 hts gX9_cut_X8_copyFrom rfl rfl rfl (by decide +kernel) ⟨Nat.le_of_ble_eq_true rfl, Nat.le_of_ble_eq_true rfl⟩) (g_preV (ci := 8) (hR.st 1) hK ((hR.1 1 (by decide)).1) rfl) rfl rfl hl.1 rfl (lv_room (Nat.le_of_ble_eq_true rfl)) dX9_cut_8 ⟨by show _ ≤ 3; omega, by show _ ≤ 18; omega⟩) hS (fun w3 H locs hp hR hS => ?_)
  obtain ⟨z4, ez4, hf⟩ := g_let_e hf
  replace hR : g_R G E z4 H := by rw [ez4]; exact hR
  subst hp
  refine lv_aload_n hx hb dX9_cut_11 rfl (lv_at hl 0 rfl) ?_
  refine lv_aload_n hx hb dX9_cut_12 rfl (lv_at hl 0 rfl) ?_
  refine g_get hx hb hts in_9 hown hK hR.2.2.2.1 rfl 0 (by decide) l_12 rfl rfl dX9_cut_13 ?_
  refine lv_iload_n hx hb dX9_cut_16 rfl (lv_at hl 1 rfl) ?_
  refine lv_iload_n hx hb dX9_cut_17 rfl (lv_at hl 2 rfl) ?_
  obtain ⟨r5, z6, hc7, hf⟩ := g_bd_e hf
  refine g_calln (va_runV (As := [.int p1, .int p2]) (rest := [.ref G.2.2]) ⟨hx, hb, hml, hown, hts⟩ (c8_cutOrder l G E z4 0 (by decide) _ _ _ _ _ hc7) (cwV 2 hts gX9_cut_X8_cutOrder rfl rfl rfl (by decide +kernel) ⟨Nat.le_of_ble_eq_true rfl, Nat.le_of_ble_eq_true rfl⟩) (g_preV (ci := 8) (hR.st 0) hK ((hR.1 0 (by decide)).1) rfl) rfl rfl hl.1 rfl (lv_room (Nat.le_of_ble_eq_true rfl)) dX9_cut_18 ⟨by show _ ≤ 3; omega, by show _ ≤ 18; omega⟩) hS (fun w8 E9 H locs hp hle10 hR hS => ?_)
  obtain ⟨z11, ez11, hf⟩ := g_let_e hf
  replace hR : g_R G E9 z11 H := by rw [ez11]; exact hR
  subst hp
  obtain ⟨r12, z13, hc14, hf⟩ := g_bd_e hf
  refine g_call (va_runV (As := [.int r5]) (rest := []) ⟨hx, hb, hml, hown, hts⟩ (c9_recorded l G E9 z11 _ _ _ hc14) (cwV 1 hts gX9_cut_X9_recorded rfl rfl rfl (by decide +kernel) ⟨Nat.le_of_ble_eq_true rfl, Nat.le_of_ble_eq_true rfl⟩) (g_preV (ci := 9) hR hK (hR.2.2.2.1) rfl) rfl rfl hl.1 rfl (lv_room (Nat.le_of_ble_eq_true rfl)) dX9_cut_21 ⟨by show _ ≤ 3; omega, by show _ ≤ 18; omega⟩) hS (fun w15 H locs hp hR hS => ?_)
  subst hp
  obtain ⟨rfl, rfl⟩ := g_sp hf
  exact g_iret hx hb hlocks hr hS hR ((g_le.rf).tr hle10) rfl (by omega) (by omega) dX9_cut_24
set_option maxHeartbeats 4000000 in
set_option maxRecDepth 100000 in
theorem c9_move (l : Launch) (G : gG) (E : gEn) (μ : gMu) (p1 : Int32) (p2 : Int32) (ro : Int32) (zo : gMu) (hf : f9_move μ p1 p2 = some (ro, zo)) : Met l yX9_move wsX9_move ({ frames := 5, cells := 0, slots := 0, locals := 107 } : Room) (g_Pre G E μ [.ref G.2.2, .int p1, .int p2]) (g_Q G E zo (fun E' v => E' = E ∧ v = some (.int ro))) 0 0 (g_A G) := by
  refine Met.ofW (cc := cX9_move) (maxL := 3) (ret := some .int) (by decide) rfl ?_
  intro p e s m args below meth c s₁ B hml hv
  obtain ⟨rfl, hR, hK⟩ := hv
  have hx := B.exec
  have hb := B.bytes
  have hr := B.returns
  have hts := atoms_spec (ws := wsX9_move) B.pre
  have hown : s.vm.findClass RX9 = some m.cls := findClass_of_methodNamed B.named
  have hlocks := B.notSynchronized
  have hS : va_S (g_A G) s.heap s.heap [] := va_S.rf
  have hl := lv_entry ([.ref G.2.2, .int p1, .int p2]) (n := 3) (Nat.le_of_ble_eq_true rfl)
  rw [lg_entry_eq]
  generalize (lg_sl ([.ref G.2.2, .int p1, .int p2]) ++ List.replicate (3 - (lg_sl ([.ref G.2.2, .int p1, .int p2])).length) Slot.unset).toArray = ls at hl ⊢
  have hl : lv_has ls 3 [(0, .ref G.2.2), (1, .int p1), (2, .int p2)] := hl
  have in_9 : ∀ w ∈ u_ws RX9 TX9 6, w ∈ wsX9_move := ifX9_move_9
  have l_12 := hts (.fieldLink RX9 12 "GlassRacks" "now" "LGlassRacks$State;") (by decide +kernel)
  have l_16 := hts (.fieldLink RX9 16 "GlassRacks" "before" "LGlassRacks$State;") (by decide +kernel)
  unfold f9_move at hf
  refine lv_aload_n hx hb dX9_move_0 rfl (lv_at hl 0 rfl) ?_
  refine g_get hx hb hts in_9 hown hK hR.2.2.2.1 rfl 1 (by decide) l_16 rfl rfl dX9_move_1 ?_
  refine lv_aload_n hx hb dX9_move_4 rfl (lv_at hl 0 rfl) ?_
  refine g_get hx hb hts in_9 hown hK hR.2.2.2.1 rfl 0 (by decide) l_12 rfl rfl dX9_move_5 ?_
  obtain ⟨z1, hc2, hf⟩ := g_b1_e hf
  refine g_call (va_runV (As := [.ref (g_stA G 0)]) (rest := []) ⟨hx, hb, hml, hown, hts⟩ (c8_copyFrom l G E μ 1 (by decide) _ 0 (by decide) (by decide) _ hc2) (cwV 1 hts gX9_move_X8_copyFrom rfl rfl rfl (by decide +kernel) ⟨Nat.le_of_ble_eq_true rfl, Nat.le_of_ble_eq_true rfl⟩) (g_preV (ci := 8) (hR.st 1) hK ((hR.1 1 (by decide)).1) rfl) rfl rfl hl.1 rfl (lv_room (Nat.le_of_ble_eq_true rfl)) dX9_move_8 ⟨by show _ ≤ 0; omega, by show _ ≤ 0; omega⟩) hS (fun w3 H locs hp hR hS => ?_)
  obtain ⟨z4, ez4, hf⟩ := g_let_e hf
  replace hR : g_R G E z4 H := by rw [ez4]; exact hR
  subst hp
  refine lv_aload_n hx hb dX9_move_11 rfl (lv_at hl 0 rfl) ?_
  refine lv_aload_n hx hb dX9_move_12 rfl (lv_at hl 0 rfl) ?_
  refine g_get hx hb hts in_9 hown hK hR.2.2.2.1 rfl 0 (by decide) l_12 rfl rfl dX9_move_13 ?_
  refine lv_iload_n hx hb dX9_move_16 rfl (lv_at hl 1 rfl) ?_
  refine lv_iload_n hx hb dX9_move_17 rfl (lv_at hl 2 rfl) ?_
  obtain ⟨r5, z6, hc7, hf⟩ := g_bd_e hf
  refine g_call (va_runV (As := [.int p1, .int p2]) (rest := [.ref G.2.2]) ⟨hx, hb, hml, hown, hts⟩ (c8_moveSheet l G E z4 0 (by decide) _ _ _ _ _ hc7) (cwV 2 hts gX9_move_X8_moveSheet rfl rfl rfl (by decide +kernel) ⟨Nat.le_of_ble_eq_true rfl, Nat.le_of_ble_eq_true rfl⟩) (g_preV (ci := 8) (hR.st 0) hK ((hR.1 0 (by decide)).1) rfl) rfl rfl hl.1 rfl (lv_room (Nat.le_of_ble_eq_true rfl)) dX9_move_18 ⟨by show _ ≤ 0; omega, by show _ ≤ 0; omega⟩) hS (fun w8 H locs hp hR hS => ?_)
  obtain ⟨z9, ez9, hf⟩ := g_let_e hf
  replace hR : g_R G E z9 H := by rw [ez9]; exact hR
  subst hp
  obtain ⟨r10, z11, hc12, hf⟩ := g_bd_e hf
  refine g_call (va_runV (As := [.int r5]) (rest := []) ⟨hx, hb, hml, hown, hts⟩ (c9_recorded l G E z9 _ _ _ hc12) (cwV 1 hts gX9_move_X9_recorded rfl rfl rfl (by decide +kernel) ⟨Nat.le_of_ble_eq_true rfl, Nat.le_of_ble_eq_true rfl⟩) (g_preV (ci := 9) hR hK (hR.2.2.2.1) rfl) rfl rfl hl.1 rfl (lv_room (Nat.le_of_ble_eq_true rfl)) dX9_move_21 ⟨by show _ ≤ 0; omega, by show _ ≤ 0; omega⟩) hS (fun w13 H locs hp hR hS => ?_)
  subst hp
  obtain ⟨rfl, rfl⟩ := g_sp hf
  exact g_iret hx hb hlocks hr hS hR g_le.rf ⟨rfl, rfl⟩ (by omega) (by omega) dX9_move_24
set_option maxHeartbeats 4000000 in
set_option maxRecDepth 100000 in
theorem c9_next (l : Launch) (G : gG) (E : gEn) (μ : gMu) (p1 : Int32) (ro : Int32) (hf : f9_next μ p1 = some ro) : Met l yX9_next wsX9_next ({ frames := 4, cells := 0, slots := 0, locals := 88 } : Room) (g_Pre G E μ [.ref G.2.2, .int p1]) (g_Q G E μ (fun E' v => E' = E ∧ v = some (.int ro))) 0 0 (g_A G) := by
  refine Met.ofW (cc := cX9_next) (maxL := 3) (ret := some .int) (by decide) rfl ?_
  intro p e s m args below meth c s₁ B hml hv
  obtain ⟨rfl, hR, hK⟩ := hv
  have hx := B.exec
  have hb := B.bytes
  have hr := B.returns
  have hts := atoms_spec (ws := wsX9_next) B.pre
  have hown : s.vm.findClass RX9 = some m.cls := findClass_of_methodNamed B.named
  have hlocks := B.notSynchronized
  have hS : va_S (g_A G) s.heap s.heap [] := va_S.rf
  have hl := lv_entry ([.ref G.2.2, .int p1]) (n := 3) (Nat.le_of_ble_eq_true rfl)
  rw [lg_entry_eq]
  generalize (lg_sl ([.ref G.2.2, .int p1]) ++ List.replicate (3 - (lg_sl ([.ref G.2.2, .int p1])).length) Slot.unset).toArray = ls at hl ⊢
  have hl : lv_has ls 3 [(0, .ref G.2.2), (1, .int p1)] := hl
  have in_3 : ∀ w ∈ u_ws RX3 TX3 8, w ∈ wsX9_next := ifX9_next_3
  have in_8 : ∀ w ∈ u_ws RX8 TX8 11, w ∈ wsX9_next := ifX9_next_8
  have in_9 : ∀ w ∈ u_ws RX9 TX9 6, w ∈ wsX9_next := ifX9_next_9
  have l_12 := hts (.fieldLink RX9 12 "GlassRacks" "now" "LGlassRacks$State;") (by decide +kernel)
  have l_152 := hts (.fieldLink RX9 152 "GlassRacks$State" "orders" "LGlassRacks$Orders;") (by decide +kernel)
  have l_220 := hts (.fieldLink RX9 220 "GlassRacks$Order" "number" "I") (by decide +kernel)
  unfold f9_next at hf
  refine lv_iload_n hx hb dX9_next_0 rfl (lv_at hl 1 rfl) ?_
  refine lv_if_ge (tgt := 7) hx hb dX9_next_1 (by decide) (fun c1 => ?_) (fun c1 => ?_)
  · replace hf := g_it hf c1
    refine lv_aload_n hx hb dX9_next_7 rfl (lv_at hl 0 rfl) ?_
    refine g_get hx hb hts in_9 hown hK hR.2.2.2.1 rfl 0 (by decide) l_12 rfl rfl dX9_next_8 ?_
    refine g_get hx hb hts in_8 hown hK (hR.1 0 (by decide)).1 rfl 2 (by decide) l_152 rfl rfl dX9_next_11 ?_
    refine lv_iload_n hx hb dX9_next_14 rfl (lv_at hl 1 rfl) ?_
    obtain ⟨r2, hc3, hf⟩ := g_b1_e hf
    refine g_call (va_runV (As := [.int p1]) (rest := []) ⟨hx, hb, hml, hown, hts⟩ (c4_openAtRank l G E μ 0 (by decide) _ _ _ hc3) (cwV 1 hts gX9_next_X4_openAtRank rfl rfl rfl (by decide +kernel) ⟨Nat.le_of_ble_eq_true rfl, Nat.le_of_ble_eq_true rfl⟩) (g_preV (ci := 4) (hR.st 0) hK ((hR.1 0 (by decide)).2.2.2.2.1) rfl) rfl rfl hl.1 rfl (lv_room (Nat.le_of_ble_eq_true rfl)) dX9_next_15 ⟨by show _ ≤ 0; omega, by show _ ≤ 0; omega⟩) hS (fun w4 H locs hp hR hS => ?_)
    rw [g_setS_self] at hR
    obtain ⟨w5, rfl, hp⟩ := hp
    rcases r2 with _ | v7
    · replace hf := g_ocn hf rfl
      obtain rfl : w5 = .null := hp
      refine lv_astore_nN (lv' := [(2, .null), (0, .ref G.2.2), (1, .int p1)]) hx hb dX9_next_18 rfl hl (by decide) rfl (fun ls hl => ?_)
      refine lv_aload_nN hx hb dX9_next_19 rfl (lv_at hl 0 rfl) ?_
      refine lv_ifnonnullN hx hb dX9_next_20 ?_
      refine lv_bipush (v := -5) hx hb dX9_next_23 (by decide) ?_
      refine lv_goto (tgt := 32) hx hb dX9_next_25 (by decide) ?_
      obtain rfl := g_s1 hf
      exact g_iret hx hb hlocks hr hS hR g_le.rf ⟨rfl, rfl⟩ (by omega) (by omega) dX9_next_32
    · replace hf := g_ocs hf rfl
      obtain ⟨a6, rfl, hE_a6⟩ := hp
      refine lv_astore_n (lv' := [(2, .ref a6), (0, .ref G.2.2), (1, .int p1)]) hx hb dX9_next_18 rfl hl (by decide) rfl (fun ls hl => ?_)
      refine lv_aload_n hx hb dX9_next_19 rfl (lv_at hl 0 rfl) ?_
      refine lv_ifnonnull (tgt := 28) hx hb dX9_next_20 (by decide) ?_
      refine lv_aload_n hx hb dX9_next_28 rfl (lv_at hl 0 rfl) ?_
      refine g_get hx hb hts in_3 hown hK ((hR.2.2.2.2.2 _ _ hE_a6).2) rfl 0 (by decide) l_220 rfl rfl dX9_next_29 ?_
      obtain rfl := g_s1 hf
      exact g_iret hx hb hlocks hr hS hR g_le.rf ⟨rfl, rfl⟩ (by omega) (by omega) dX9_next_32
  · replace hf := g_if hf c1
    refine lv_bipush (v := -2) hx hb dX9_next_4 (by decide) ?_
    obtain rfl := g_s1 hf
    exact g_iret hx hb hlocks hr hS hR g_le.rf ⟨rfl, rfl⟩ (by omega) (by omega) dX9_next_6
set_option maxHeartbeats 4000000 in
set_option maxRecDepth 100000 in
theorem c9_order (l : Launch) (G : gG) (E : gEn) (μ : gMu) (p1 : Int32) (p2 : Int32) (p3 : Int32) (p4 : Int32) (ro : Int32) (zo : gMu) (hf : f9_order μ p1 p2 p3 p4 = some (ro, zo)) : Met l yX9_order wsX9_order ({ frames := 5, cells := 1, slots := 8, locals := 107 } : Room) (g_Pre G E μ [.ref G.2.2, .int p1, .int p2, .int p3, .int p4]) (g_Q G E zo (fun E' v => v = some (.int ro))) 1 8 (g_A G) := by
  refine Met.ofW (cc := cX9_order) (maxL := 5) (ret := some .int) (by decide) rfl ?_
  intro p e s m args below meth c s₁ B hml hv
  obtain ⟨rfl, hR, hK⟩ := hv
  have hx := B.exec
  have hb := B.bytes
  have hr := B.returns
  have hts := atoms_spec (ws := wsX9_order) B.pre
  have hown : s.vm.findClass RX9 = some m.cls := findClass_of_methodNamed B.named
  have hlocks := B.notSynchronized
  have hS : va_S (g_A G) s.heap s.heap [] := va_S.rf
  have hl := lv_entry ([.ref G.2.2, .int p1, .int p2, .int p3, .int p4]) (n := 5) (Nat.le_of_ble_eq_true rfl)
  rw [lg_entry_eq]
  generalize (lg_sl ([.ref G.2.2, .int p1, .int p2, .int p3, .int p4]) ++ List.replicate (5 - (lg_sl ([.ref G.2.2, .int p1, .int p2, .int p3, .int p4])).length) Slot.unset).toArray = ls at hl ⊢
  have hl : lv_has ls 5 [(0, .ref G.2.2), (1, .int p1), (2, .int p2), (3, .int p3), (4, .int p4)] := hl
  have in_9 : ∀ w ∈ u_ws RX9 TX9 6, w ∈ wsX9_order := ifX9_order_9
  have l_12 := hts (.fieldLink RX9 12 "GlassRacks" "now" "LGlassRacks$State;") (by decide +kernel)
  have l_16 := hts (.fieldLink RX9 16 "GlassRacks" "before" "LGlassRacks$State;") (by decide +kernel)
  unfold f9_order at hf
  refine lv_aload_n hx hb dX9_order_0 rfl (lv_at hl 0 rfl) ?_
  refine g_get hx hb hts in_9 hown hK hR.2.2.2.1 rfl 1 (by decide) l_16 rfl rfl dX9_order_1 ?_
  refine lv_aload_n hx hb dX9_order_4 rfl (lv_at hl 0 rfl) ?_
  refine g_get hx hb hts in_9 hown hK hR.2.2.2.1 rfl 0 (by decide) l_12 rfl rfl dX9_order_5 ?_
  obtain ⟨z1, hc2, hf⟩ := g_b1_e hf
  refine g_call (va_runV (As := [.ref (g_stA G 0)]) (rest := []) ⟨hx, hb, hml, hown, hts⟩ (c8_copyFrom l G E μ 1 (by decide) _ 0 (by decide) (by decide) _ hc2) (cwV 1 hts gX9_order_X8_copyFrom rfl rfl rfl (by decide +kernel) ⟨Nat.le_of_ble_eq_true rfl, Nat.le_of_ble_eq_true rfl⟩) (g_preV (ci := 8) (hR.st 1) hK ((hR.1 1 (by decide)).1) rfl) rfl rfl hl.1 rfl (lv_room (Nat.le_of_ble_eq_true rfl)) dX9_order_8 ⟨by show _ ≤ 1; omega, by show _ ≤ 8; omega⟩) hS (fun w3 H locs hp hR hS => ?_)
  obtain ⟨z4, ez4, hf⟩ := g_let_e hf
  replace hR : g_R G E z4 H := by rw [ez4]; exact hR
  subst hp
  refine lv_aload_n hx hb dX9_order_11 rfl (lv_at hl 0 rfl) ?_
  refine lv_aload_n hx hb dX9_order_12 rfl (lv_at hl 0 rfl) ?_
  refine g_get hx hb hts in_9 hown hK hR.2.2.2.1 rfl 0 (by decide) l_12 rfl rfl dX9_order_13 ?_
  refine lv_iload_n hx hb dX9_order_16 rfl (lv_at hl 1 rfl) ?_
  refine lv_iload_n hx hb dX9_order_17 rfl (lv_at hl 2 rfl) ?_
  refine lv_iload_n hx hb dX9_order_18 rfl (lv_at hl 3 rfl) ?_
  refine lv_iload hx hb dX9_order_19 (lv_at hl 4 rfl) ?_
  obtain ⟨r5, z6, hc7, hf⟩ := g_bd_e hf
  refine g_calln (va_runV (As := [.int p1, .int p2, .int p3, .int p4]) (rest := [.ref G.2.2]) ⟨hx, hb, hml, hown, hts⟩ (c8_takeOrder l G E z4 0 (by decide) _ _ _ _ _ _ _ hc7) (cwV 4 hts gX9_order_X8_takeOrder rfl rfl rfl (by decide +kernel) ⟨Nat.le_of_ble_eq_true rfl, Nat.le_of_ble_eq_true rfl⟩) (g_preV (ci := 8) (hR.st 0) hK ((hR.1 0 (by decide)).1) rfl) rfl rfl hl.1 rfl (lv_room (Nat.le_of_ble_eq_true rfl)) dX9_order_21 ⟨by show _ ≤ 1; omega, by show _ ≤ 8; omega⟩) hS (fun w8 E9 H locs hp hle10 hR hS => ?_)
  obtain ⟨z11, ez11, hf⟩ := g_let_e hf
  replace hR : g_R G E9 z11 H := by rw [ez11]; exact hR
  subst hp
  obtain ⟨r12, z13, hc14, hf⟩ := g_bd_e hf
  refine g_call (va_runV (As := [.int r5]) (rest := []) ⟨hx, hb, hml, hown, hts⟩ (c9_recorded l G E9 z11 _ _ _ hc14) (cwV 1 hts gX9_order_X9_recorded rfl rfl rfl (by decide +kernel) ⟨Nat.le_of_ble_eq_true rfl, Nat.le_of_ble_eq_true rfl⟩) (g_preV (ci := 9) hR hK (hR.2.2.2.1) rfl) rfl rfl hl.1 rfl (lv_room (Nat.le_of_ble_eq_true rfl)) dX9_order_24 ⟨by show _ ≤ 1; omega, by show _ ≤ 8; omega⟩) hS (fun w15 H locs hp hR hS => ?_)
  subst hp
  obtain ⟨rfl, rfl⟩ := g_sp hf
  exact g_iret hx hb hlocks hr hS hR ((g_le.rf).tr hle10) rfl (by omega) (by omega) dX9_order_27
set_option maxHeartbeats 4000000 in
set_option maxRecDepth 100000 in
theorem c9_ordered (l : Launch) (G : gG) (E : gEn) (μ : gMu) (p1 : Int32) (p2 : Int32) (ro : Int32) (hf : f9_ordered μ p1 p2 = some ro) : Met l yX9_ordered wsX9_ordered ({ frames := 1, cells := 0, slots := 0, locals := 21 } : Room) (g_Pre G E μ [.ref G.2.2, .int p1, .int p2]) (g_Q G E μ (fun E' v => E' = E ∧ v = some (.int ro))) 0 0 (g_A G) := by
  refine Met.ofW (cc := cX9_ordered) (maxL := 4) (ret := some .int) (by decide) rfl ?_
  intro p e s m args below meth c s₁ B hml hv
  obtain ⟨rfl, hR, hK⟩ := hv
  have hx := B.exec
  have hb := B.bytes
  have hr := B.returns
  have hts := atoms_spec (ws := wsX9_ordered) B.pre
  have hown : s.vm.findClass RX9 = some m.cls := findClass_of_methodNamed B.named
  have hlocks := B.notSynchronized
  have hS : va_S (g_A G) s.heap s.heap [] := va_S.rf
  have hl := lv_entry ([.ref G.2.2, .int p1, .int p2]) (n := 4) (Nat.le_of_ble_eq_true rfl)
  rw [lg_entry_eq]
  generalize (lg_sl ([.ref G.2.2, .int p1, .int p2]) ++ List.replicate (4 - (lg_sl ([.ref G.2.2, .int p1, .int p2])).length) Slot.unset).toArray = ls at hl ⊢
  have hl : lv_has ls 4 [(0, .ref G.2.2), (1, .int p1), (2, .int p2)] := hl
  have in_3 : ∀ w ∈ u_ws RX3 TX3 8, w ∈ wsX9_ordered := ifX9_ordered_3
  have in_8 : ∀ w ∈ u_ws RX8 TX8 11, w ∈ wsX9_ordered := ifX9_ordered_8
  have in_9 : ∀ w ∈ u_ws RX9 TX9 6, w ∈ wsX9_ordered := ifX9_ordered_9
  have l_107 := hts (.fieldLink RX9 107 "GlassRacks$State" "day" "I") (by decide +kernel)
  have l_12 := hts (.fieldLink RX9 12 "GlassRacks" "now" "LGlassRacks$State;") (by decide +kernel)
  have l_152 := hts (.fieldLink RX9 152 "GlassRacks$State" "orders" "LGlassRacks$Orders;") (by decide +kernel)
  have l_162 := hts (.fieldLink RX9 162 "GlassRacks$Order" "sort" "I") (by decide +kernel)
  have l_165 := hts (.fieldLink RX9 165 "GlassRacks$Order" "width" "I") (by decide +kernel)
  have l_166 := hts (.fieldLink RX9 166 "GlassRacks$Order" "height" "I") (by decide +kernel)
  have l_167 := hts (.fieldLink RX9 167 "GlassRacks$Order" "day" "I") (by decide +kernel)
  have l_168 := hts (.fieldLink RX9 168 "GlassRacks$Order" "status" "I") (by decide +kernel)
  have l_171 := hts (.fieldLink RX9 171 "GlassRacks$Order" "source" "I") (by decide +kernel)
  have l_172 := hts (.fieldLink RX9 172 "GlassRacks$Order" "cutDay" "I") (by decide +kernel)
  unfold f9_ordered at hf
  refine lv_aload_n hx hb dX9_ordered_0 rfl (lv_at hl 0 rfl) ?_
  refine g_get hx hb hts in_9 hown hK hR.2.2.2.1 rfl 0 (by decide) l_12 rfl rfl dX9_ordered_1 ?_
  refine g_get hx hb hts in_8 hown hK (hR.1 0 (by decide)).1 rfl 2 (by decide) l_152 rfl rfl dX9_ordered_4 ?_
  refine lv_iload_n hx hb dX9_ordered_7 rfl (lv_at hl 1 rfl) ?_
  obtain ⟨r1, hc2, hf⟩ := g_b1_e hf
  refine g_call (va_runV (As := [.int p1]) (rest := []) ⟨hx, hb, hml, hown, hts⟩ (c4_numbered l G E μ 0 (by decide) _ _ _ hc2) (cwV 1 hts gX9_ordered_X4_numbered rfl rfl rfl (by decide +kernel) ⟨Nat.le_of_ble_eq_true rfl, Nat.le_of_ble_eq_true rfl⟩) (g_preV (ci := 4) (hR.st 0) hK ((hR.1 0 (by decide)).2.2.2.2.1) rfl) rfl rfl hl.1 rfl (lv_room (Nat.le_of_ble_eq_true rfl)) dX9_ordered_8 ⟨by show _ ≤ 0; omega, by show _ ≤ 0; omega⟩) hS (fun w3 H locs hp hR hS => ?_)
  rw [g_setS_self] at hR
  obtain ⟨w4, rfl, hp⟩ := hp
  rcases r1 with _ | v6
  · replace hf := g_ocn hf rfl
    obtain rfl : w4 = .null := hp
    refine lv_astore_nN (lv' := [(3, .null), (0, .ref G.2.2), (1, .int p1), (2, .int p2)]) hx hb dX9_ordered_11 rfl hl (by decide) rfl (fun ls hl => ?_)
    refine lv_aload_nN hx hb dX9_ordered_12 rfl (lv_at hl 0 rfl) ?_
    refine lv_ifnonnullN hx hb dX9_ordered_13 ?_
    refine lv_iconst (v := -1) hx hb dX9_ordered_16 (by decide) ?_
    obtain rfl := g_s1 hf
    exact g_iret hx hb hlocks hr hS hR g_le.rf ⟨rfl, rfl⟩ (by omega) (by omega) dX9_ordered_17
  · replace hf := g_ocs hf rfl
    obtain ⟨a5, rfl, hE_a5⟩ := hp
    refine lv_astore_n (lv' := [(3, .ref a5), (0, .ref G.2.2), (1, .int p1), (2, .int p2)]) hx hb dX9_ordered_11 rfl hl (by decide) rfl (fun ls hl => ?_)
    refine lv_aload_n hx hb dX9_ordered_12 rfl (lv_at hl 0 rfl) ?_
    refine lv_ifnonnull (tgt := 18) hx hb dX9_ordered_13 (by decide) ?_
    refine lv_iload_n hx hb dX9_ordered_18 rfl (lv_at hl 3 rfl) ?_
    by_cases hc2_0 : p2 = (0 : Int32)
    · replace hf := g_it hf hc2_0
      refine lv_tableIn (off := 45) (tgt := 64) hx hb dX9_ordered_19 (by rw [hc2_0]; decide) (by rw [hc2_0]; decide) (by rw [hc2_0]; rfl) (by decide) ?_
      refine lv_aload_n hx hb dX9_ordered_64 rfl (lv_at hl 0 rfl) ?_
      refine g_get hx hb hts in_3 hown hK ((hR.2.2.2.2.2 _ _ hE_a5).2) rfl 1 (by decide) l_162 rfl rfl dX9_ordered_65 ?_
      obtain rfl := g_s1 hf
      exact g_iret hx hb hlocks hr hS hR g_le.rf ⟨rfl, rfl⟩ (by omega) (by omega) dX9_ordered_68
    · replace hf := g_if hf hc2_0
      by_cases hc3_1 : p2 = (1 : Int32)
      · replace hf := g_it hf hc3_1
        refine lv_tableIn (off := 50) (tgt := 69) hx hb dX9_ordered_19 (by rw [hc3_1]; decide) (by rw [hc3_1]; decide) (by rw [hc3_1]; rfl) (by decide) ?_
        refine lv_aload_n hx hb dX9_ordered_69 rfl (lv_at hl 0 rfl) ?_
        refine g_get hx hb hts in_3 hown hK ((hR.2.2.2.2.2 _ _ hE_a5).2) rfl 2 (by decide) l_165 rfl rfl dX9_ordered_70 ?_
        obtain rfl := g_s1 hf
        exact g_iret hx hb hlocks hr hS hR g_le.rf ⟨rfl, rfl⟩ (by omega) (by omega) dX9_ordered_73
      · replace hf := g_if hf hc3_1
        by_cases hc4_2 : p2 = (2 : Int32)
        · replace hf := g_it hf hc4_2
          refine lv_tableIn (off := 55) (tgt := 74) hx hb dX9_ordered_19 (by rw [hc4_2]; decide) (by rw [hc4_2]; decide) (by rw [hc4_2]; rfl) (by decide) ?_
          refine lv_aload_n hx hb dX9_ordered_74 rfl (lv_at hl 0 rfl) ?_
          refine g_get hx hb hts in_3 hown hK ((hR.2.2.2.2.2 _ _ hE_a5).2) rfl 3 (by decide) l_166 rfl rfl dX9_ordered_75 ?_
          obtain rfl := g_s1 hf
          exact g_iret hx hb hlocks hr hS hR g_le.rf ⟨rfl, rfl⟩ (by omega) (by omega) dX9_ordered_78
        · replace hf := g_if hf hc4_2
          by_cases hc5_3 : p2 = (3 : Int32)
          · replace hf := g_it hf hc5_3
            refine lv_tableIn (off := 60) (tgt := 79) hx hb dX9_ordered_19 (by rw [hc5_3]; decide) (by rw [hc5_3]; decide) (by rw [hc5_3]; rfl) (by decide) ?_
            refine lv_aload_n hx hb dX9_ordered_79 rfl (lv_at hl 0 rfl) ?_
            refine g_get hx hb hts in_3 hown hK ((hR.2.2.2.2.2 _ _ hE_a5).2) rfl 4 (by decide) l_167 rfl rfl dX9_ordered_80 ?_
            obtain rfl := g_s1 hf
            exact g_iret hx hb hlocks hr hS hR g_le.rf ⟨rfl, rfl⟩ (by omega) (by omega) dX9_ordered_83
          · replace hf := g_if hf hc5_3
            by_cases hc6_4 : p2 = (4 : Int32)
            · replace hf := g_it hf hc6_4
              refine lv_tableIn (off := 65) (tgt := 84) hx hb dX9_ordered_19 (by rw [hc6_4]; decide) (by rw [hc6_4]; decide) (by rw [hc6_4]; rfl) (by decide) ?_
              refine lv_aload_n hx hb dX9_ordered_84 rfl (lv_at hl 0 rfl) ?_
              refine g_get hx hb hts in_3 hown hK ((hR.2.2.2.2.2 _ _ hE_a5).2) rfl 5 (by decide) l_168 rfl rfl dX9_ordered_85 ?_
              obtain rfl := g_s1 hf
              exact g_iret hx hb hlocks hr hS hR g_le.rf ⟨rfl, rfl⟩ (by omega) (by omega) dX9_ordered_88
            · replace hf := g_if hf hc6_4
              by_cases hc7_5 : p2 = (5 : Int32)
              · replace hf := g_it hf hc7_5
                refine lv_tableIn (off := 70) (tgt := 89) hx hb dX9_ordered_19 (by rw [hc7_5]; decide) (by rw [hc7_5]; decide) (by rw [hc7_5]; rfl) (by decide) ?_
                refine lv_aload_n hx hb dX9_ordered_89 rfl (lv_at hl 0 rfl) ?_
                refine g_get hx hb hts in_3 hown hK ((hR.2.2.2.2.2 _ _ hE_a5).2) rfl 6 (by decide) l_171 rfl rfl dX9_ordered_90 ?_
                obtain rfl := g_s1 hf
                exact g_iret hx hb hlocks hr hS hR g_le.rf ⟨rfl, rfl⟩ (by omega) (by omega) dX9_ordered_93
              · replace hf := g_if hf hc7_5
                by_cases hc8_6 : p2 = (6 : Int32)
                · replace hf := g_it hf hc8_6
                  refine lv_tableIn (off := 75) (tgt := 94) hx hb dX9_ordered_19 (by rw [hc8_6]; decide) (by rw [hc8_6]; decide) (by rw [hc8_6]; rfl) (by decide) ?_
                  refine lv_aload_n hx hb dX9_ordered_94 rfl (lv_at hl 0 rfl) ?_
                  refine g_get hx hb hts in_3 hown hK ((hR.2.2.2.2.2 _ _ hE_a5).2) rfl 7 (by decide) l_172 rfl rfl dX9_ordered_95 ?_
                  obtain rfl := g_s1 hf
                  exact g_iret hx hb hlocks hr hS hR g_le.rf ⟨rfl, rfl⟩ (by omega) (by omega) dX9_ordered_98
                · replace hf := g_if hf hc8_6
                  by_cases hc9_7 : p2 = (7 : Int32)
                  · replace hf := g_it hf hc9_7
                    refine lv_tableIn (off := 80) (tgt := 99) hx hb dX9_ordered_19 (by rw [hc9_7]; decide) (by rw [hc9_7]; decide) (by rw [hc9_7]; rfl) (by decide) ?_
                    refine lv_aload_n hx hb dX9_ordered_99 rfl (lv_at hl 0 rfl) ?_
                    refine lv_aload_n hx hb dX9_ordered_100 rfl (lv_at hl 1 rfl) ?_
                    refine g_get hx hb hts in_9 hown hK hR.2.2.2.1 rfl 0 (by decide) l_12 rfl rfl dX9_ordered_101 ?_
                    refine g_get hx hb hts in_8 hown hK (hR.1 0 (by decide)).1 rfl 4 (by decide) l_107 rfl rfl dX9_ordered_104 ?_
                    obtain ⟨r7, hc8, hf⟩ := g_b1_e hf
                    refine g_call (va_runV (As := [.int ((μ.1 0).1 5)]) (rest := []) ⟨hx, hb, hml, hown, hts⟩ (c3_isLate l G E μ _ _ hE_a5 _ _ hc8) (cwV 1 hts gX9_ordered_X3_isLate rfl rfl rfl (by decide +kernel) ⟨Nat.le_of_ble_eq_true rfl, Nat.le_of_ble_eq_true rfl⟩) (g_preV (ci := 3) hR hK ((hR.2.2.2.2.2 _ _ hE_a5).2) rfl) rfl rfl hl.1 rfl (lv_room (Nat.le_of_ble_eq_true rfl)) dX9_ordered_107 ⟨by show _ ≤ 0; omega, by show _ ≤ 0; omega⟩) hS (fun w9 H locs hp hR hS => ?_)
                    subst hp
                    refine lv_if_eq (tgt := 117) hx hb dX9_ordered_110 (by decide) (fun c10 => ?_) (fun c10 => ?_)
                    · replace hf := g_it hf c10
                      refine lv_iconst (v := 0) hx hb dX9_ordered_117 (by decide) ?_
                      obtain rfl := g_s1 hf
                      exact g_iret hx hb hlocks hr hS hR g_le.rf ⟨rfl, rfl⟩ (by omega) (by omega) dX9_ordered_118
                    · replace hf := g_if hf c10
                      refine lv_iconst (v := 1) hx hb dX9_ordered_113 (by decide) ?_
                      refine lv_goto (tgt := 118) hx hb dX9_ordered_114 (by decide) ?_
                      obtain rfl := g_s1 hf
                      exact g_iret hx hb hlocks hr hS hR g_le.rf ⟨rfl, rfl⟩ (by omega) (by omega) dX9_ordered_118
                  · replace hf := g_if hf hc9_7
                    have hdf : W p l e (headSpec wsX9_ordered ({ frames := 1, cells := 0, slots := 0, locals := 21 } : Room)).room s m ([.ref G.2.2, .int p1, .int p2] : List Value).toArray below meth c H locs 0 0 (MQ below (g_Q G E μ (fun E' v => E' = E ∧ v = some (.int ro))) ([.ref G.2.2, .int p1, .int p2] : List Value).toArray s 0 0 (g_A G)) (F0 m 119 ls []) := by
                      refine lv_bipush (v := -2) hx hb dX9_ordered_119 (by decide) ?_
                      obtain rfl := g_s1 hf
                      exact g_iret hx hb hlocks hr hS hR g_le.rf ⟨rfl, rfl⟩ (by omega) (by omega) dX9_ordered_121
                    have qhc2_0 := lv_neT hc2_0 (a := 0) (by decide)
                    have qhc3_1 := lv_neT hc3_1 (a := 1) (by decide)
                    have qhc4_2 := lv_neT hc4_2 (a := 2) (by decide)
                    have qhc5_3 := lv_neT hc5_3 (a := 3) (by decide)
                    have qhc6_4 := lv_neT hc6_4 (a := 4) (by decide)
                    have qhc7_5 := lv_neT hc7_5 (a := 5) (by decide)
                    have qhc8_6 := lv_neT hc8_6 (a := 6) (by decide)
                    have qhc9_7 := lv_neT hc9_7 (a := 7) (by decide)
                    exact lv_tableOut (tgt := 119) hx hb dX9_ordered_19 (by omega) (by decide) hdf
set_option maxHeartbeats 4000000 in
set_option maxRecDepth 100000 in
theorem c9_pass (l : Launch) (G : gG) (E : gEn) (μ : gMu) (p1 : Int32) (ro : Int32) (zo : gMu) (hf : f9_pass μ p1 = some (ro, zo)) : Met l yX9_pass wsX9_pass ({ frames := 5, cells := 0, slots := 0, locals := 107 } : Room) (g_Pre G E μ [.ref G.2.2, .int p1]) (g_Q G E zo (fun E' v => E' = E ∧ v = some (.int ro))) 0 0 (g_A G) := by
  refine Met.ofW (cc := cX9_pass) (maxL := 2) (ret := some .int) (by decide) rfl ?_
  intro p e s m args below meth c s₁ B hml hv
  obtain ⟨rfl, hR, hK⟩ := hv
  have hx := B.exec
  have hb := B.bytes
  have hr := B.returns
  have hts := atoms_spec (ws := wsX9_pass) B.pre
  have hown : s.vm.findClass RX9 = some m.cls := findClass_of_methodNamed B.named
  have hlocks := B.notSynchronized
  have hS : va_S (g_A G) s.heap s.heap [] := va_S.rf
  have hl := lv_entry ([.ref G.2.2, .int p1]) (n := 2) (Nat.le_of_ble_eq_true rfl)
  rw [lg_entry_eq]
  generalize (lg_sl ([.ref G.2.2, .int p1]) ++ List.replicate (2 - (lg_sl ([.ref G.2.2, .int p1])).length) Slot.unset).toArray = ls at hl ⊢
  have hl : lv_has ls 2 [(0, .ref G.2.2), (1, .int p1)] := hl
  have in_9 : ∀ w ∈ u_ws RX9 TX9 6, w ∈ wsX9_pass := ifX9_pass_9
  have l_12 := hts (.fieldLink RX9 12 "GlassRacks" "now" "LGlassRacks$State;") (by decide +kernel)
  have l_16 := hts (.fieldLink RX9 16 "GlassRacks" "before" "LGlassRacks$State;") (by decide +kernel)
  unfold f9_pass at hf
  refine lv_aload_n hx hb dX9_pass_0 rfl (lv_at hl 0 rfl) ?_
  refine g_get hx hb hts in_9 hown hK hR.2.2.2.1 rfl 1 (by decide) l_16 rfl rfl dX9_pass_1 ?_
  refine lv_aload_n hx hb dX9_pass_4 rfl (lv_at hl 0 rfl) ?_
  refine g_get hx hb hts in_9 hown hK hR.2.2.2.1 rfl 0 (by decide) l_12 rfl rfl dX9_pass_5 ?_
  obtain ⟨z1, hc2, hf⟩ := g_b1_e hf
  refine g_call (va_runV (As := [.ref (g_stA G 0)]) (rest := []) ⟨hx, hb, hml, hown, hts⟩ (c8_copyFrom l G E μ 1 (by decide) _ 0 (by decide) (by decide) _ hc2) (cwV 1 hts gX9_pass_X8_copyFrom rfl rfl rfl (by decide +kernel) ⟨Nat.le_of_ble_eq_true rfl, Nat.le_of_ble_eq_true rfl⟩) (g_preV (ci := 8) (hR.st 1) hK ((hR.1 1 (by decide)).1) rfl) rfl rfl hl.1 rfl (lv_room (Nat.le_of_ble_eq_true rfl)) dX9_pass_8 ⟨by show _ ≤ 0; omega, by show _ ≤ 0; omega⟩) hS (fun w3 H locs hp hR hS => ?_)
  obtain ⟨z4, ez4, hf⟩ := g_let_e hf
  replace hR : g_R G E z4 H := by rw [ez4]; exact hR
  subst hp
  refine lv_aload_n hx hb dX9_pass_11 rfl (lv_at hl 0 rfl) ?_
  refine lv_aload_n hx hb dX9_pass_12 rfl (lv_at hl 0 rfl) ?_
  refine g_get hx hb hts in_9 hown hK hR.2.2.2.1 rfl 0 (by decide) l_12 rfl rfl dX9_pass_13 ?_
  refine lv_iload_n hx hb dX9_pass_16 rfl (lv_at hl 1 rfl) ?_
  obtain ⟨r5, z6, hc7, hf⟩ := g_bd_e hf
  refine g_call (va_runV (As := [.int p1]) (rest := [.ref G.2.2]) ⟨hx, hb, hml, hown, hts⟩ (c8_passDays l G E z4 0 (by decide) _ _ _ _ hc7) (cwV 1 hts gX9_pass_X8_passDays rfl rfl rfl (by decide +kernel) ⟨Nat.le_of_ble_eq_true rfl, Nat.le_of_ble_eq_true rfl⟩) (g_preV (ci := 8) (hR.st 0) hK ((hR.1 0 (by decide)).1) rfl) rfl rfl hl.1 rfl (lv_room (Nat.le_of_ble_eq_true rfl)) dX9_pass_17 ⟨by show _ ≤ 0; omega, by show _ ≤ 0; omega⟩) hS (fun w8 H locs hp hR hS => ?_)
  obtain ⟨z9, ez9, hf⟩ := g_let_e hf
  replace hR : g_R G E z9 H := by rw [ez9]; exact hR
  subst hp
  obtain ⟨r10, z11, hc12, hf⟩ := g_bd_e hf
  refine g_call (va_runV (As := [.int r5]) (rest := []) ⟨hx, hb, hml, hown, hts⟩ (c9_recorded l G E z9 _ _ _ hc12) (cwV 1 hts gX9_pass_X9_recorded rfl rfl rfl (by decide +kernel) ⟨Nat.le_of_ble_eq_true rfl, Nat.le_of_ble_eq_true rfl⟩) (g_preV (ci := 9) hR hK (hR.2.2.2.1) rfl) rfl rfl hl.1 rfl (lv_room (Nat.le_of_ble_eq_true rfl)) dX9_pass_20 ⟨by show _ ≤ 0; omega, by show _ ≤ 0; omega⟩) hS (fun w13 H locs hp hR hS => ?_)
  subst hp
  obtain ⟨rfl, rfl⟩ := g_sp hf
  exact g_iret hx hb hlocks hr hS hR g_le.rf ⟨rfl, rfl⟩ (by omega) (by omega) dX9_pass_23
set_option maxHeartbeats 4000000 in
set_option maxRecDepth 100000 in
theorem c9_runCommand (l : Launch) (G : gG) (E : gEn) (μ : gMu)  (ro : Int32) (zo : gMu) (hf : f9_runCommand μ = some (ro, zo)) : Met l yX9_runCommand wsX9_runCommand ({ frames := 6, cells := 39, slots := 234, locals := 141 } : Room) (g_Pre G E μ [.ref G.2.2]) (g_Q G E zo (fun E' v => v = some (.int ro))) 39 234 (g_A G) := by
  refine Met.ofW (cc := cX9_runCommand) (maxL := 1) (ret := some .int) (by decide) rfl ?_
  intro p e s m args below meth c s₁ B hml hv
  obtain ⟨rfl, hR, hK⟩ := hv
  have hx := B.exec
  have hb := B.bytes
  have hr := B.returns
  have hts := atoms_spec (ws := wsX9_runCommand) B.pre
  have hown : s.vm.findClass RX9 = some m.cls := findClass_of_methodNamed B.named
  have hlocks := B.notSynchronized
  have hS : va_S (g_A G) s.heap s.heap [] := va_S.rf
  have hl := lv_entry ([.ref G.2.2]) (n := 1) (Nat.le_of_ble_eq_true rfl)
  rw [lg_entry_eq]
  generalize (lg_sl ([.ref G.2.2]) ++ List.replicate (1 - (lg_sl ([.ref G.2.2])).length) Slot.unset).toArray = ls at hl ⊢
  have hl : lv_has ls 1 [(0, .ref G.2.2)] := hl
  have in_0 : ∀ w ∈ u_ws RX0 TX0 12, w ∈ wsX9_runCommand := ifX9_runCommand_0
  have in_9 : ∀ w ∈ u_ws RX9 TX9 6, w ∈ wsX9_runCommand := ifX9_runCommand_9
  have l_12 := hts (.fieldLink RX9 12 "GlassRacks" "now" "LGlassRacks$State;") (by decide +kernel)
  have l_264 := hts (.fieldLink RX9 264 "GlassRacks$CommandText" "command" "I") (by decide +kernel)
  have l_267 := hts (.fieldLink RX9 267 "GlassRacks$CommandText" "rack" "I") (by decide +kernel)
  have l_270 := hts (.fieldLink RX9 270 "GlassRacks$CommandText" "sort" "I") (by decide +kernel)
  have l_271 := hts (.fieldLink RX9 271 "GlassRacks$CommandText" "width" "I") (by decide +kernel)
  have l_272 := hts (.fieldLink RX9 272 "GlassRacks$CommandText" "height" "I") (by decide +kernel)
  have l_273 := hts (.fieldLink RX9 273 "GlassRacks$CommandText" "day" "I") (by decide +kernel)
  have l_274 := hts (.fieldLink RX9 274 "GlassRacks$CommandText" "choice" "I") (by decide +kernel)
  have l_277 := hts (.fieldLink RX9 277 "GlassRacks$CommandText" "days" "I") (by decide +kernel)
  have l_36 := hts (.fieldLink RX9 36 "GlassRacks" "text" "LGlassRacks$CommandText;") (by decide +kernel)
  unfold f9_runCommand at hf
  refine lv_aload_n hx hb dX9_runCommand_0 rfl (lv_at hl 0 rfl) ?_
  refine g_get hx hb hts in_9 hown hK hR.2.2.2.1 rfl 5 (by decide) l_36 rfl rfl dX9_runCommand_1 ?_
  refine g_get hx hb hts in_0 hown hK hR.2.2.1.1 rfl 4 (by decide) l_264 rfl rfl dX9_runCommand_4 ?_
  refine lv_topi (fun t1 et1 => ?_)
  replace hf := g_let_at hf et1
  by_cases hc1_111 : t1 = (111 : Int32)
  · replace hf := g_it hf hc1_111
    refine lv_tableIn (off := 69) (tgt := 76) hx hb dX9_runCommand_7 (by rw [hc1_111]; decide) (by rw [hc1_111]; decide) (by rw [hc1_111]; rfl) (by decide) ?_
    refine lv_aload_n hx hb dX9_runCommand_76 rfl (lv_at hl 0 rfl) ?_
    refine g_get hx hb hts in_9 hown hK hR.2.2.2.1 rfl 0 (by decide) l_12 rfl rfl dX9_runCommand_77 ?_
    refine lv_aload_n hx hb dX9_runCommand_80 rfl (lv_at hl 0 rfl) ?_
    refine g_get hx hb hts in_9 hown hK hR.2.2.2.1 rfl 5 (by decide) l_36 rfl rfl dX9_runCommand_81 ?_
    refine g_get hx hb hts in_0 hown hK hR.2.2.1.1 rfl 6 (by decide) l_270 rfl rfl dX9_runCommand_84 ?_
    refine lv_aload_n hx hb dX9_runCommand_87 rfl (lv_at hl 0 rfl) ?_
    refine g_get hx hb hts in_9 hown hK hR.2.2.2.1 rfl 5 (by decide) l_36 rfl rfl dX9_runCommand_88 ?_
    refine g_get hx hb hts in_0 hown hK hR.2.2.1.1 rfl 7 (by decide) l_271 rfl rfl dX9_runCommand_91 ?_
    refine lv_aload_n hx hb dX9_runCommand_94 rfl (lv_at hl 0 rfl) ?_
    refine g_get hx hb hts in_9 hown hK hR.2.2.2.1 rfl 5 (by decide) l_36 rfl rfl dX9_runCommand_95 ?_
    refine g_get hx hb hts in_0 hown hK hR.2.2.1.1 rfl 8 (by decide) l_272 rfl rfl dX9_runCommand_98 ?_
    refine lv_aload_n hx hb dX9_runCommand_101 rfl (lv_at hl 0 rfl) ?_
    refine g_get hx hb hts in_9 hown hK hR.2.2.2.1 rfl 5 (by decide) l_36 rfl rfl dX9_runCommand_102 ?_
    refine g_get hx hb hts in_0 hown hK hR.2.2.1.1 rfl 9 (by decide) l_273 rfl rfl dX9_runCommand_105 ?_
    obtain ⟨r2, z3, hc4, hf⟩ := g_bd_e hf
    refine g_calln (va_runV (As := [.int (μ.2.2.1.2 6), .int (μ.2.2.1.2 7), .int (μ.2.2.1.2 8), .int (μ.2.2.1.2 9)]) (rest := []) ⟨hx, hb, hml, hown, hts⟩ (c8_takeOrder l G E μ 0 (by decide) _ _ _ _ _ _ _ hc4) (cwV 4 hts gX9_runCommand_X8_takeOrder rfl rfl rfl (by decide +kernel) ⟨Nat.le_of_ble_eq_true rfl, Nat.le_of_ble_eq_true rfl⟩) (g_preV (ci := 8) (hR.st 0) hK ((hR.1 0 (by decide)).1) rfl) rfl rfl hl.1 rfl (lv_room (Nat.le_of_ble_eq_true rfl)) dX9_runCommand_108 ⟨by show _ ≤ 39; omega, by show _ ≤ 234; omega⟩) hS (fun w5 E6 H locs hp hle7 hR hS => ?_)
    obtain ⟨z8, ez8, hf⟩ := g_let_e hf
    replace hR : g_R G E6 z8 H := by rw [ez8]; exact hR
    subst hp
    obtain ⟨rfl, rfl⟩ := g_sp hf
    exact g_iret hx hb hlocks hr hS hR ((g_le.rf).tr hle7) rfl (by omega) (by omega) dX9_runCommand_111
  · replace hf := g_if hf hc1_111
    by_cases hc2_112 : t1 = (112 : Int32)
    · replace hf := g_it hf hc2_112
      refine lv_tableIn (off := 105) (tgt := 112) hx hb dX9_runCommand_7 (by rw [hc2_112]; decide) (by rw [hc2_112]; decide) (by rw [hc2_112]; rfl) (by decide) ?_
      refine lv_aload_n hx hb dX9_runCommand_112 rfl (lv_at hl 0 rfl) ?_
      refine g_get hx hb hts in_9 hown hK hR.2.2.2.1 rfl 0 (by decide) l_12 rfl rfl dX9_runCommand_113 ?_
      refine lv_aload_n hx hb dX9_runCommand_116 rfl (lv_at hl 0 rfl) ?_
      refine g_get hx hb hts in_9 hown hK hR.2.2.2.1 rfl 5 (by decide) l_36 rfl rfl dX9_runCommand_117 ?_
      refine g_get hx hb hts in_0 hown hK hR.2.2.1.1 rfl 10 (by decide) l_274 rfl rfl dX9_runCommand_120 ?_
      obtain ⟨r9, z10, hc11, hf⟩ := g_bd_e hf
      refine g_calln (va_runV (As := [.int (μ.2.2.1.2 10)]) (rest := []) ⟨hx, hb, hml, hown, hts⟩ (c8_planDay l G E μ 0 (by decide) _ _ _ _ hc11) (cwV 1 hts gX9_runCommand_X8_planDay rfl rfl rfl (by decide +kernel) ⟨Nat.le_of_ble_eq_true rfl, Nat.le_of_ble_eq_true rfl⟩) (g_preV (ci := 8) (hR.st 0) hK ((hR.1 0 (by decide)).1) rfl) rfl rfl hl.1 rfl (lv_room (Nat.le_of_ble_eq_true rfl)) dX9_runCommand_123 ⟨by show _ ≤ 39; omega, by show _ ≤ 234; omega⟩) hS (fun w12 E13 H locs hp hle14 hR hS => ?_)
      obtain ⟨z15, ez15, hf⟩ := g_let_e hf
      replace hR : g_R G E13 z15 H := by rw [ez15]; exact hR
      subst hp
      obtain ⟨rfl, rfl⟩ := g_sp hf
      exact g_iret hx hb hlocks hr hS hR ((g_le.rf).tr hle14) rfl (by omega) (by omega) dX9_runCommand_126
    · replace hf := g_if hf hc2_112
      by_cases hc3_115 : t1 = (115 : Int32)
      · replace hf := g_it hf hc3_115
        refine lv_tableIn (off := 33) (tgt := 40) hx hb dX9_runCommand_7 (by rw [hc3_115]; decide) (by rw [hc3_115]; decide) (by rw [hc3_115]; rfl) (by decide) ?_
        refine lv_aload_n hx hb dX9_runCommand_40 rfl (lv_at hl 0 rfl) ?_
        refine g_get hx hb hts in_9 hown hK hR.2.2.2.1 rfl 0 (by decide) l_12 rfl rfl dX9_runCommand_41 ?_
        refine lv_aload_n hx hb dX9_runCommand_44 rfl (lv_at hl 0 rfl) ?_
        refine g_get hx hb hts in_9 hown hK hR.2.2.2.1 rfl 5 (by decide) l_36 rfl rfl dX9_runCommand_45 ?_
        refine g_get hx hb hts in_0 hown hK hR.2.2.1.1 rfl 5 (by decide) l_267 rfl rfl dX9_runCommand_48 ?_
        refine lv_aload_n hx hb dX9_runCommand_51 rfl (lv_at hl 0 rfl) ?_
        refine g_get hx hb hts in_9 hown hK hR.2.2.2.1 rfl 5 (by decide) l_36 rfl rfl dX9_runCommand_52 ?_
        refine g_get hx hb hts in_0 hown hK hR.2.2.1.1 rfl 6 (by decide) l_270 rfl rfl dX9_runCommand_55 ?_
        refine lv_aload_n hx hb dX9_runCommand_58 rfl (lv_at hl 0 rfl) ?_
        refine g_get hx hb hts in_9 hown hK hR.2.2.2.1 rfl 5 (by decide) l_36 rfl rfl dX9_runCommand_59 ?_
        refine g_get hx hb hts in_0 hown hK hR.2.2.1.1 rfl 7 (by decide) l_271 rfl rfl dX9_runCommand_62 ?_
        refine lv_aload_n hx hb dX9_runCommand_65 rfl (lv_at hl 0 rfl) ?_
        refine g_get hx hb hts in_9 hown hK hR.2.2.2.1 rfl 5 (by decide) l_36 rfl rfl dX9_runCommand_66 ?_
        refine g_get hx hb hts in_0 hown hK hR.2.2.1.1 rfl 8 (by decide) l_272 rfl rfl dX9_runCommand_69 ?_
        obtain ⟨r16, z17, hc18, hf⟩ := g_bd_e hf
        refine g_calln (va_runV (As := [.int (μ.2.2.1.2 5), .int (μ.2.2.1.2 6), .int (μ.2.2.1.2 7), .int (μ.2.2.1.2 8)]) (rest := []) ⟨hx, hb, hml, hown, hts⟩ (c8_buySheet l G E μ 0 (by decide) _ _ _ _ _ _ _ hc18) (cwV 4 hts gX9_runCommand_X8_buySheet rfl rfl rfl (by decide +kernel) ⟨Nat.le_of_ble_eq_true rfl, Nat.le_of_ble_eq_true rfl⟩) (g_preV (ci := 8) (hR.st 0) hK ((hR.1 0 (by decide)).1) rfl) rfl rfl hl.1 rfl (lv_room (Nat.le_of_ble_eq_true rfl)) dX9_runCommand_72 ⟨by show _ ≤ 39; omega, by show _ ≤ 234; omega⟩) hS (fun w19 E20 H locs hp hle21 hR hS => ?_)
        obtain ⟨z22, ez22, hf⟩ := g_let_e hf
        replace hR : g_R G E20 z22 H := by rw [ez22]; exact hR
        subst hp
        obtain ⟨rfl, rfl⟩ := g_sp hf
        exact g_iret hx hb hlocks hr hS hR ((g_le.rf).tr hle21) rfl (by omega) (by omega) dX9_runCommand_75
      · replace hf := g_if hf hc3_115
        have hdf : W p l e (headSpec wsX9_runCommand ({ frames := 6, cells := 39, slots := 234, locals := 141 } : Room)).room s m ([.ref G.2.2] : List Value).toArray below meth c s.heap [] 0 0 (MQ below (g_Q G E zo (fun E' v => v = some (.int ro))) ([.ref G.2.2] : List Value).toArray s 39 234 (g_A G)) (F0 m 127 ls []) := by
          refine lv_aload_n hx hb dX9_runCommand_127 rfl (lv_at hl 0 rfl) ?_
          refine g_get hx hb hts in_9 hown hK hR.2.2.2.1 rfl 0 (by decide) l_12 rfl rfl dX9_runCommand_128 ?_
          refine lv_aload_n hx hb dX9_runCommand_131 rfl (lv_at hl 0 rfl) ?_
          refine g_get hx hb hts in_9 hown hK hR.2.2.2.1 rfl 5 (by decide) l_36 rfl rfl dX9_runCommand_132 ?_
          refine g_get hx hb hts in_0 hown hK hR.2.2.1.1 rfl 11 (by decide) l_277 rfl rfl dX9_runCommand_135 ?_
          obtain ⟨r23, z24, hc25, hf⟩ := g_bd_e hf
          refine g_call (va_runV (As := [.int (μ.2.2.1.2 11)]) (rest := []) ⟨hx, hb, hml, hown, hts⟩ (c8_passDays l G E μ 0 (by decide) _ _ _ _ hc25) (cwV 1 hts gX9_runCommand_X8_passDays rfl rfl rfl (by decide +kernel) ⟨Nat.le_of_ble_eq_true rfl, Nat.le_of_ble_eq_true rfl⟩) (g_preV (ci := 8) (hR.st 0) hK ((hR.1 0 (by decide)).1) rfl) rfl rfl hl.1 rfl (lv_room (Nat.le_of_ble_eq_true rfl)) dX9_runCommand_138 ⟨by show _ ≤ 39; omega, by show _ ≤ 234; omega⟩) hS (fun w26 H locs hp hR hS => ?_)
          obtain ⟨z27, ez27, hf⟩ := g_let_e hf
          replace hR : g_R G E z27 H := by rw [ez27]; exact hR
          subst hp
          obtain ⟨rfl, rfl⟩ := g_sp hf
          exact g_iret hx hb hlocks hr hS hR g_le.rf rfl (by omega) (by omega) dX9_runCommand_141
        by_cases hgp113 : t1 = (113 : Int32)
        · exact lv_tableIn (off := 120) (tgt := 127) hx hb dX9_runCommand_7 (by rw [hgp113]; decide) (by rw [hgp113]; decide) (by rw [hgp113]; rfl) (by decide) hdf
        by_cases hgp114 : t1 = (114 : Int32)
        · exact lv_tableIn (off := 120) (tgt := 127) hx hb dX9_runCommand_7 (by rw [hgp114]; decide) (by rw [hgp114]; decide) (by rw [hgp114]; rfl) (by decide) hdf
        have qhc1_111 := lv_neT hc1_111 (a := 111) (by decide)
        have qhc2_112 := lv_neT hc2_112 (a := 112) (by decide)
        have qhc3_115 := lv_neT hc3_115 (a := 115) (by decide)
        have qhgp113 := lv_neT hgp113 (a := 113) (by decide)
        have qhgp114 := lv_neT hgp114 (a := 114) (by decide)
        exact lv_tableOut (tgt := 127) hx hb dX9_runCommand_7 (by omega) (by decide) hdf
set_option maxHeartbeats 4000000 in
set_option maxRecDepth 100000 in
theorem c9_perform (l : Launch) (G : gG) (E : gEn) (μ : gMu)  (ro : Int32) (zo : gMu) (hf : f9_perform μ = some (ro, zo)) : Met l yX9_perform wsX9_perform ({ frames := 7, cells := 819, slots := 4914, locals := 161 } : Room) (g_Pre G E μ [.ref G.2.2]) (g_Q G E zo (fun E' v => v = some (.int ro))) 819 4914 (g_A G) := by
  refine Met.ofW (cc := cX9_perform) (maxL := 4) (ret := some .int) (by decide) rfl ?_
  intro p e s m args below meth c s₁ B hml hv
  obtain ⟨rfl, hR, hK⟩ := hv
  have hx := B.exec
  have hb := B.bytes
  have hr := B.returns
  have hts := atoms_spec (ws := wsX9_perform) B.pre
  have hown : s.vm.findClass RX9 = some m.cls := findClass_of_methodNamed B.named
  have hlocks := B.notSynchronized
  have hS : va_S (g_A G) s.heap s.heap [] := va_S.rf
  have hl := lv_entry ([.ref G.2.2]) (n := 4) (Nat.le_of_ble_eq_true rfl)
  rw [lg_entry_eq]
  generalize (lg_sl ([.ref G.2.2]) ++ List.replicate (4 - (lg_sl ([.ref G.2.2])).length) Slot.unset).toArray = ls at hl ⊢
  have hl : lv_has ls 4 [(0, .ref G.2.2)] := hl
  have in_9 : ∀ w ∈ u_ws RX9 TX9 6, w ∈ wsX9_perform := ifX9_perform_9
  have l_12 := hts (.fieldLink RX9 12 "GlassRacks" "now" "LGlassRacks$State;") (by decide +kernel)
  have l_16 := hts (.fieldLink RX9 16 "GlassRacks" "before" "LGlassRacks$State;") (by decide +kernel)
  have l_36 := hts (.fieldLink RX9 36 "GlassRacks" "text" "LGlassRacks$CommandText;") (by decide +kernel)
  have hB34 : ∀ (n : Nat) (E1 : gEn) (hle1 : g_le E E1) (z0 : gMu) (x1 : Int32) (x2 : Int32) (H : Heap) (locs : List Loc) (ls : Array Slot), n ≤ 21 → f9_perform_34 n z0 x1 x2 = some (ro, zo) → g_R G E1 z0 H → va_S (g_A G) s.heap H locs → lv_has ls 4 [(0, .ref G.2.2), (1, .int x1), (2, .int x2)] → W p l e (headSpec wsX9_perform ({ frames := 7, cells := 819, slots := 4914, locals := 161 } : Room)).room s m ([.ref G.2.2] : List Value).toArray below meth c H locs (39 * (21 - n)) (234 * (21 - n)) (MQ below (g_Q G E zo (fun E' v => v = some (.int ro))) ([.ref G.2.2] : List Value).toArray s 819 4914 (g_A G)) (F0 m 34 ls []) := by
    intro n
    induction n with
    | zero =>
      intro E1 hle1 z0 x1 x2 H locs ls hfu hf
      rw [f9_perform_34] at hf
      cases hf
    | succ n ih =>
      intro E1 hle1 z0 x1 x2 H locs ls hfu hf  hR hS hl
      rw [f9_perform_34] at hf
      refine lv_iload_n hx hb dX9_perform_34 rfl (lv_at hl 2 rfl) ?_
      refine lv_iload_n hx hb dX9_perform_35 rfl (lv_at hl 1 rfl) ?_
      refine lv_icmp_ge (tgt := 80) hx hb dX9_perform_36 (by decide) (fun c15 => ?_) (fun c15 => ?_)
      · replace hf := g_it hf c15
        refine lv_aload_n hx hb dX9_perform_80 rfl (lv_at hl 0 rfl) ?_
        refine lv_iload_n hx hb dX9_perform_81 rfl (lv_at hl 1 rfl) ?_
        obtain ⟨r16, z17, hc18, hf⟩ := g_bd_e hf
        refine g_call (va_runV (As := [.int x1]) (rest := []) ⟨hx, hb, hml, hown, hts⟩ (c9_recorded l G E1 z0 _ _ _ hc18) (cwV 1 hts gX9_perform_X9_recorded rfl rfl rfl (by decide +kernel) ⟨Nat.le_of_ble_eq_true rfl, Nat.le_of_ble_eq_true rfl⟩) (g_preV (ci := 9) hR hK (hR.2.2.2.1) rfl) rfl rfl hl.1 rfl (lv_room (Nat.le_of_ble_eq_true rfl)) dX9_perform_82 ⟨by show _ ≤ 819; omega, by show _ ≤ 4914; omega⟩) hS (fun w19 H locs hp hR hS => ?_)
        subst hp
        obtain ⟨rfl, rfl⟩ := g_sp hf
        exact g_iret hx hb hlocks hr hS hR hle1 rfl (by omega) (by omega) dX9_perform_85
      · replace hf := g_if hf c15
        refine lv_aload_n hx hb dX9_perform_39 rfl (lv_at hl 0 rfl) ?_
        refine g_get hx hb hts in_9 hown hK hR.2.2.2.1 rfl 5 (by decide) l_36 rfl rfl dX9_perform_40 ?_
        obtain ⟨z20, hc21, hf⟩ := g_b1_e hf
        refine g_call (va_runV (As := []) (rest := []) ⟨hx, hb, hml, hown, hts⟩ (c0_readCommand l G E1 z0 _ _ hc21) (cwV 0 hts gX9_perform_X0_readCommand rfl rfl rfl (by decide +kernel) ⟨Nat.le_of_ble_eq_true rfl, Nat.le_of_ble_eq_true rfl⟩) (g_preV (ci := 0) hR hK (hR.2.2.1.1) rfl) rfl rfl hl.1 rfl (lv_room (Nat.le_of_ble_eq_true rfl)) dX9_perform_43 ⟨by show _ ≤ 819; omega, by show _ ≤ 4914; omega⟩) hS (fun w22 H locs hp hR hS => ?_)
        obtain ⟨z23, ez23, hf⟩ := g_let_e hf
        replace hR : g_R G E1 z23 H := by rw [ez23]; exact hR
        subst hp
        refine lv_aload_n hx hb dX9_perform_46 rfl (lv_at hl 0 rfl) ?_
        obtain ⟨r24, z25, hc26, hf⟩ := g_bd_e hf
        refine g_calln (va_runV (As := []) (rest := []) ⟨hx, hb, hml, hown, hts⟩ (c9_runCommand l G E1 z23  _ _ hc26) (cwV 0 hts gX9_perform_X9_runCommand rfl rfl rfl (by decide +kernel) ⟨Nat.le_of_ble_eq_true rfl, Nat.le_of_ble_eq_true rfl⟩) (g_preV (ci := 9) hR hK (hR.2.2.2.1) rfl) rfl rfl hl.1 rfl (lv_room (Nat.le_of_ble_eq_true rfl)) dX9_perform_47 ⟨by show _ ≤ 819; omega, by show _ ≤ 4914; omega⟩) hS (fun w27 E28 H locs hp hle29 hR hS => ?_)
        subst hp
        refine lv_istore_n (lv' := [(3, .int r24), (0, .ref G.2.2), (1, .int x1), (2, .int x2)]) hx hb dX9_perform_50 rfl hl (by decide) rfl (fun ls hl => ?_)
        refine lv_iload_n hx hb dX9_perform_51 rfl (lv_at hl 0 rfl) ?_
        refine lv_if_ge (tgt := 74) hx hb dX9_perform_52 (by decide) (fun c30 => ?_) (fun c30 => ?_)
        · replace hf := g_it hf c30
          refine lv_iinc (v := x2 + 1) (lv' := [(2, .int (x2 + 1)), (3, .int r24), (0, .ref G.2.2), (1, .int x1)]) hx hb dX9_perform_74 hl (k := 3) rfl rfl (by decide) rfl (fun ls hl => ?_)
          refine lv_goto (tgt := 34) hx hb dX9_perform_77 (by decide) ?_
          refine W.widen (k := 39 * (21 - n)) (n := 234 * (21 - n)) (by omega) (by omega) ?_
          exact ih _ ((hle1).tr hle29) _ _ _ _ _ _ (by omega) hf  hR hS (lv_sub hl [2, 3, 0] rfl)
        · replace hf := g_if hf c30
          refine lv_iload_n hx hb dX9_perform_55 rfl (lv_at hl 0 rfl) ?_
          refine lv_bipush (v := -5) hx hb dX9_perform_56 (by decide) ?_
          refine lv_icmp_eq (tgt := 74) hx hb dX9_perform_58 (by decide) (fun c31 => ?_) (fun c31 => ?_)
          · replace hf := g_it hf c31
            refine lv_iinc (v := x2 + 1) (lv' := [(2, .int (x2 + 1)), (3, .int r24), (0, .ref G.2.2), (1, .int x1)]) hx hb dX9_perform_74 hl (k := 3) rfl rfl (by decide) rfl (fun ls hl => ?_)
            refine lv_goto (tgt := 34) hx hb dX9_perform_77 (by decide) ?_
            refine W.widen (k := 39 * (21 - n)) (n := 234 * (21 - n)) (by omega) (by omega) ?_
            exact ih _ ((hle1).tr hle29) _ _ _ _ _ _ (by omega) hf  hR hS (lv_sub hl [2, 3, 0] rfl)
          · replace hf := g_if hf c31
            refine lv_aload_n hx hb dX9_perform_61 rfl (lv_at hl 1 rfl) ?_
            refine g_get hx hb hts in_9 hown hK hR.2.2.2.1 rfl 0 (by decide) l_12 rfl rfl dX9_perform_62 ?_
            refine lv_aload_n hx hb dX9_perform_65 rfl (lv_at hl 1 rfl) ?_
            refine g_get hx hb hts in_9 hown hK hR.2.2.2.1 rfl 1 (by decide) l_16 rfl rfl dX9_perform_66 ?_
            obtain ⟨z32, hc33, hf⟩ := g_b1_e hf
            refine g_call (va_runV (As := [.ref (g_stA G 1)]) (rest := []) ⟨hx, hb, hml, hown, hts⟩ (c8_copyFrom l G E28 z25 0 (by decide) _ 1 (by decide) (by decide) _ hc33) (cwV 1 hts gX9_perform_X8_copyFrom rfl rfl rfl (by decide +kernel) ⟨Nat.le_of_ble_eq_true rfl, Nat.le_of_ble_eq_true rfl⟩) (g_preV (ci := 8) (hR.st 0) hK ((hR.1 0 (by decide)).1) rfl) rfl rfl hl.1 rfl (lv_room (Nat.le_of_ble_eq_true rfl)) dX9_perform_69 ⟨by show _ ≤ 819; omega, by show _ ≤ 4914; omega⟩) hS (fun w34 H locs hp hR hS => ?_)
            obtain ⟨z35, ez35, hf⟩ := g_let_e hf
            replace hR : g_R G E28 z35 H := by rw [ez35]; exact hR
            subst hp
            refine lv_iload_n hx hb dX9_perform_72 rfl (lv_at hl 0 rfl) ?_
            obtain ⟨rfl, rfl⟩ := g_sp hf
            exact g_iret hx hb hlocks hr hS hR ((hle1).tr hle29) rfl (by omega) (by omega) dX9_perform_73
  unfold f9_perform at hf
  refine lv_aload_n hx hb dX9_perform_0 rfl (lv_at hl 0 rfl) ?_
  refine g_get hx hb hts in_9 hown hK hR.2.2.2.1 rfl 5 (by decide) l_36 rfl rfl dX9_perform_1 ?_
  obtain ⟨r1, z2, hc3, hf⟩ := g_bd_e hf
  refine g_call (va_runV (As := []) (rest := []) ⟨hx, hb, hml, hown, hts⟩ (c0_commandsOrFault l G E μ _ _ _ hc3) (cwV 0 hts gX9_perform_X0_commandsOrFault rfl rfl rfl (by decide +kernel) ⟨Nat.le_of_ble_eq_true rfl, Nat.le_of_ble_eq_true rfl⟩) (g_preV (ci := 0) hR hK (hR.2.2.1.1) rfl) rfl rfl hl.1 rfl (lv_room (Nat.le_of_ble_eq_true rfl)) dX9_perform_4 ⟨by show _ ≤ 819; omega, by show _ ≤ 4914; omega⟩) hS (fun w4 H locs hp hR hS => ?_)
  obtain ⟨z5, ez5, hf⟩ := g_let_e hf
  replace hR : g_R G E z5 H := by rw [ez5]; exact hR
  subst hp
  refine lv_istore_n (lv' := [(1, .int r1), (0, .ref G.2.2)]) hx hb dX9_perform_7 rfl hl (by decide) rfl (fun ls hl => ?_)
  refine lv_iload_n hx hb dX9_perform_8 rfl (lv_at hl 0 rfl) ?_
  refine lv_if_ge (tgt := 14) hx hb dX9_perform_9 (by decide) (fun c6 => ?_) (fun c6 => ?_)
  · replace hf := g_it hf c6
    refine lv_aload_n hx hb dX9_perform_14 rfl (lv_at hl 1 rfl) ?_
    refine g_get hx hb hts in_9 hown hK hR.2.2.2.1 rfl 1 (by decide) l_16 rfl rfl dX9_perform_15 ?_
    refine lv_aload_n hx hb dX9_perform_18 rfl (lv_at hl 1 rfl) ?_
    refine g_get hx hb hts in_9 hown hK hR.2.2.2.1 rfl 0 (by decide) l_12 rfl rfl dX9_perform_19 ?_
    obtain ⟨z7, hc8, hf⟩ := g_b1_e hf
    refine g_call (va_runV (As := [.ref (g_stA G 0)]) (rest := []) ⟨hx, hb, hml, hown, hts⟩ (c8_copyFrom l G E z5 1 (by decide) _ 0 (by decide) (by decide) _ hc8) (cwV 1 hts gX9_perform_X8_copyFrom rfl rfl rfl (by decide +kernel) ⟨Nat.le_of_ble_eq_true rfl, Nat.le_of_ble_eq_true rfl⟩) (g_preV (ci := 8) (hR.st 1) hK ((hR.1 1 (by decide)).1) rfl) rfl rfl hl.1 rfl (lv_room (Nat.le_of_ble_eq_true rfl)) dX9_perform_22 ⟨by show _ ≤ 819; omega, by show _ ≤ 4914; omega⟩) hS (fun w9 H locs hp hR hS => ?_)
    obtain ⟨z10, ez10, hf⟩ := g_let_e hf
    replace hR : g_R G E z10 H := by rw [ez10]; exact hR
    subst hp
    refine lv_aload_n hx hb dX9_perform_25 rfl (lv_at hl 1 rfl) ?_
    refine g_get hx hb hts in_9 hown hK hR.2.2.2.1 rfl 5 (by decide) l_36 rfl rfl dX9_perform_26 ?_
    obtain ⟨z11, hc12, hf⟩ := g_b1_e hf
    refine g_call (va_runV (As := []) (rest := []) ⟨hx, hb, hml, hown, hts⟩ (c0_rewind l G E z10 _ _ hc12) (cwV 0 hts gX9_perform_X0_rewind rfl rfl rfl (by decide +kernel) ⟨Nat.le_of_ble_eq_true rfl, Nat.le_of_ble_eq_true rfl⟩) (g_preV (ci := 0) hR hK (hR.2.2.1.1) rfl) rfl rfl hl.1 rfl (lv_room (Nat.le_of_ble_eq_true rfl)) dX9_perform_29 ⟨by show _ ≤ 819; omega, by show _ ≤ 4914; omega⟩) hS (fun w13 H locs hp hR hS => ?_)
    obtain ⟨z14, ez14, hf⟩ := g_let_e hf
    replace hR : g_R G E z14 H := by rw [ez14]; exact hR
    subst hp
    refine lv_iconst (v := 0) hx hb dX9_perform_32 (by decide) ?_
    refine lv_istore_n (lv' := [(2, .int (0 : Int32)), (1, .int r1), (0, .ref G.2.2)]) hx hb dX9_perform_33 rfl hl (by decide) rfl (fun ls hl => ?_)
    exact hB34 21 _ g_le.rf _ _ _ _ _ _ (Nat.le_refl _) hf  hR hS (lv_sub hl [2, 1, 0] rfl)
  · replace hf := g_if hf c6
    refine lv_iload_n hx hb dX9_perform_12 rfl (lv_at hl 0 rfl) ?_
    obtain ⟨rfl, rfl⟩ := g_sp hf
    exact g_iret hx hb hlocks hr hS hR g_le.rf rfl (by omega) (by omega) dX9_perform_13
set_option maxHeartbeats 4000000 in
set_option maxRecDepth 100000 in
theorem c9_plan (l : Launch) (G : gG) (E : gEn) (μ : gMu) (p1 : Int32) (ro : Int32) (zo : gMu) (hf : f9_plan μ p1 = some (ro, zo)) : Met l yX9_plan wsX9_plan ({ frames := 6, cells := 39, slots := 234, locals := 141 } : Room) (g_Pre G E μ [.ref G.2.2, .int p1]) (g_Q G E zo (fun E' v => v = some (.int ro))) 39 234 (g_A G) := by
  refine Met.ofW (cc := cX9_plan) (maxL := 2) (ret := some .int) (by decide) rfl ?_
  intro p e s m args below meth c s₁ B hml hv
  obtain ⟨rfl, hR, hK⟩ := hv
  have hx := B.exec
  have hb := B.bytes
  have hr := B.returns
  have hts := atoms_spec (ws := wsX9_plan) B.pre
  have hown : s.vm.findClass RX9 = some m.cls := findClass_of_methodNamed B.named
  have hlocks := B.notSynchronized
  have hS : va_S (g_A G) s.heap s.heap [] := va_S.rf
  have hl := lv_entry ([.ref G.2.2, .int p1]) (n := 2) (Nat.le_of_ble_eq_true rfl)
  rw [lg_entry_eq]
  generalize (lg_sl ([.ref G.2.2, .int p1]) ++ List.replicate (2 - (lg_sl ([.ref G.2.2, .int p1])).length) Slot.unset).toArray = ls at hl ⊢
  have hl : lv_has ls 2 [(0, .ref G.2.2), (1, .int p1)] := hl
  have in_9 : ∀ w ∈ u_ws RX9 TX9 6, w ∈ wsX9_plan := ifX9_plan_9
  have l_12 := hts (.fieldLink RX9 12 "GlassRacks" "now" "LGlassRacks$State;") (by decide +kernel)
  have l_16 := hts (.fieldLink RX9 16 "GlassRacks" "before" "LGlassRacks$State;") (by decide +kernel)
  unfold f9_plan at hf
  refine lv_aload_n hx hb dX9_plan_0 rfl (lv_at hl 0 rfl) ?_
  refine g_get hx hb hts in_9 hown hK hR.2.2.2.1 rfl 1 (by decide) l_16 rfl rfl dX9_plan_1 ?_
  refine lv_aload_n hx hb dX9_plan_4 rfl (lv_at hl 0 rfl) ?_
  refine g_get hx hb hts in_9 hown hK hR.2.2.2.1 rfl 0 (by decide) l_12 rfl rfl dX9_plan_5 ?_
  obtain ⟨z1, hc2, hf⟩ := g_b1_e hf
  refine g_call (va_runV (As := [.ref (g_stA G 0)]) (rest := []) ⟨hx, hb, hml, hown, hts⟩ (c8_copyFrom l G E μ 1 (by decide) _ 0 (by decide) (by decide) _ hc2) (cwV 1 hts gX9_plan_X8_copyFrom rfl rfl rfl (by decide +kernel) ⟨Nat.le_of_ble_eq_true rfl, Nat.le_of_ble_eq_true rfl⟩) (g_preV (ci := 8) (hR.st 1) hK ((hR.1 1 (by decide)).1) rfl) rfl rfl hl.1 rfl (lv_room (Nat.le_of_ble_eq_true rfl)) dX9_plan_8 ⟨by show _ ≤ 39; omega, by show _ ≤ 234; omega⟩) hS (fun w3 H locs hp hR hS => ?_)
  obtain ⟨z4, ez4, hf⟩ := g_let_e hf
  replace hR : g_R G E z4 H := by rw [ez4]; exact hR
  subst hp
  refine lv_aload_n hx hb dX9_plan_11 rfl (lv_at hl 0 rfl) ?_
  refine lv_aload_n hx hb dX9_plan_12 rfl (lv_at hl 0 rfl) ?_
  refine g_get hx hb hts in_9 hown hK hR.2.2.2.1 rfl 0 (by decide) l_12 rfl rfl dX9_plan_13 ?_
  refine lv_iload_n hx hb dX9_plan_16 rfl (lv_at hl 1 rfl) ?_
  obtain ⟨r5, z6, hc7, hf⟩ := g_bd_e hf
  refine g_calln (va_runV (As := [.int p1]) (rest := [.ref G.2.2]) ⟨hx, hb, hml, hown, hts⟩ (c8_planDay l G E z4 0 (by decide) _ _ _ _ hc7) (cwV 1 hts gX9_plan_X8_planDay rfl rfl rfl (by decide +kernel) ⟨Nat.le_of_ble_eq_true rfl, Nat.le_of_ble_eq_true rfl⟩) (g_preV (ci := 8) (hR.st 0) hK ((hR.1 0 (by decide)).1) rfl) rfl rfl hl.1 rfl (lv_room (Nat.le_of_ble_eq_true rfl)) dX9_plan_17 ⟨by show _ ≤ 39; omega, by show _ ≤ 234; omega⟩) hS (fun w8 E9 H locs hp hle10 hR hS => ?_)
  obtain ⟨z11, ez11, hf⟩ := g_let_e hf
  replace hR : g_R G E9 z11 H := by rw [ez11]; exact hR
  subst hp
  obtain ⟨r12, z13, hc14, hf⟩ := g_bd_e hf
  refine g_call (va_runV (As := [.int r5]) (rest := []) ⟨hx, hb, hml, hown, hts⟩ (c9_recorded l G E9 z11 _ _ _ hc14) (cwV 1 hts gX9_plan_X9_recorded rfl rfl rfl (by decide +kernel) ⟨Nat.le_of_ble_eq_true rfl, Nat.le_of_ble_eq_true rfl⟩) (g_preV (ci := 9) hR hK (hR.2.2.2.1) rfl) rfl rfl hl.1 rfl (lv_room (Nat.le_of_ble_eq_true rfl)) dX9_plan_20 ⟨by show _ ≤ 39; omega, by show _ ≤ 234; omega⟩) hS (fun w15 H locs hp hR hS => ?_)
  subst hp
  obtain ⟨rfl, rfl⟩ := g_sp hf
  exact g_iret hx hb hlocks hr hS hR ((g_le.rf).tr hle10) rfl (by omega) (by omega) dX9_plan_23
set_option maxHeartbeats 4000000 in
set_option maxRecDepth 100000 in
theorem c9_restore (l : Launch) (G : gG) (E : gEn) (μ : gMu)  (ro : Int32) (zo : gMu) (hf : f9_restore μ = some (ro, zo)) : Met l yX9_restore wsX9_restore ({ frames := 5, cells := 0, slots := 0, locals := 107 } : Room) (g_Pre G E μ [.ref G.2.2]) (g_Q G E zo (fun E' v => E' = E ∧ v = some (.int ro))) 0 0 (g_A G) := by
  refine Met.ofW (cc := cX9_restore) (maxL := 1) (ret := some .int) (by decide) rfl ?_
  intro p e s m args below meth c s₁ B hml hv
  obtain ⟨rfl, hR, hK⟩ := hv
  have hx := B.exec
  have hb := B.bytes
  have hr := B.returns
  have hts := atoms_spec (ws := wsX9_restore) B.pre
  have hown : s.vm.findClass RX9 = some m.cls := findClass_of_methodNamed B.named
  have hlocks := B.notSynchronized
  have hS : va_S (g_A G) s.heap s.heap [] := va_S.rf
  have hl := lv_entry ([.ref G.2.2]) (n := 1) (Nat.le_of_ble_eq_true rfl)
  rw [lg_entry_eq]
  generalize (lg_sl ([.ref G.2.2]) ++ List.replicate (1 - (lg_sl ([.ref G.2.2])).length) Slot.unset).toArray = ls at hl ⊢
  have hl : lv_has ls 1 [(0, .ref G.2.2)] := hl
  have in_8 : ∀ w ∈ u_ws RX8 TX8 11, w ∈ wsX9_restore := ifX9_restore_8
  have in_9 : ∀ w ∈ u_ws RX9 TX9 6, w ∈ wsX9_restore := ifX9_restore_9
  have l_107 := hts (.fieldLink RX9 107 "GlassRacks$State" "day" "I") (by decide +kernel)
  have l_12 := hts (.fieldLink RX9 12 "GlassRacks" "now" "LGlassRacks$State;") (by decide +kernel)
  have l_16 := hts (.fieldLink RX9 16 "GlassRacks" "before" "LGlassRacks$State;") (by decide +kernel)
  have l_19 := hts (.fieldLink RX9 19 "GlassRacks" "snapshot" "LGlassRacks$State;") (by decide +kernel)
  have l_22 := hts (.fieldLink RX9 22 "GlassRacks" "snapshotTaken" "Z") (by decide +kernel)
  unfold f9_restore at hf
  refine lv_aload_n hx hb dX9_restore_0 rfl (lv_at hl 0 rfl) ?_
  refine g_get hx hb hts in_9 hown hK hR.2.2.2.1 rfl 3 (by decide) l_22 rfl rfl dX9_restore_1 ?_
  refine lv_if_ne (tgt := 10) hx hb dX9_restore_4 (by decide) (fun c1 => ?_) (fun c1 => ?_)
  · replace hf := g_it hf c1
    refine lv_aload_n hx hb dX9_restore_10 rfl (lv_at hl 0 rfl) ?_
    refine g_get hx hb hts in_9 hown hK hR.2.2.2.1 rfl 1 (by decide) l_16 rfl rfl dX9_restore_11 ?_
    refine lv_aload_n hx hb dX9_restore_14 rfl (lv_at hl 0 rfl) ?_
    refine g_get hx hb hts in_9 hown hK hR.2.2.2.1 rfl 0 (by decide) l_12 rfl rfl dX9_restore_15 ?_
    obtain ⟨z2, hc3, hf⟩ := g_b1_e hf
    refine g_call (va_runV (As := [.ref (g_stA G 0)]) (rest := []) ⟨hx, hb, hml, hown, hts⟩ (c8_copyFrom l G E μ 1 (by decide) _ 0 (by decide) (by decide) _ hc3) (cwV 1 hts gX9_restore_X8_copyFrom rfl rfl rfl (by decide +kernel) ⟨Nat.le_of_ble_eq_true rfl, Nat.le_of_ble_eq_true rfl⟩) (g_preV (ci := 8) (hR.st 1) hK ((hR.1 1 (by decide)).1) rfl) rfl rfl hl.1 rfl (lv_room (Nat.le_of_ble_eq_true rfl)) dX9_restore_18 ⟨by show _ ≤ 0; omega, by show _ ≤ 0; omega⟩) hS (fun w4 H locs hp hR hS => ?_)
    obtain ⟨z5, ez5, hf⟩ := g_let_e hf
    replace hR : g_R G E z5 H := by rw [ez5]; exact hR
    subst hp
    refine lv_aload_n hx hb dX9_restore_21 rfl (lv_at hl 0 rfl) ?_
    refine g_get hx hb hts in_9 hown hK hR.2.2.2.1 rfl 0 (by decide) l_12 rfl rfl dX9_restore_22 ?_
    refine lv_aload_n hx hb dX9_restore_25 rfl (lv_at hl 0 rfl) ?_
    refine g_get hx hb hts in_9 hown hK hR.2.2.2.1 rfl 2 (by decide) l_19 rfl rfl dX9_restore_26 ?_
    obtain ⟨z6, hc7, hf⟩ := g_b1_e hf
    refine g_call (va_runV (As := [.ref (g_stA G 2)]) (rest := []) ⟨hx, hb, hml, hown, hts⟩ (c8_copyFrom l G E z5 0 (by decide) _ 2 (by decide) (by decide) _ hc7) (cwV 1 hts gX9_restore_X8_copyFrom rfl rfl rfl (by decide +kernel) ⟨Nat.le_of_ble_eq_true rfl, Nat.le_of_ble_eq_true rfl⟩) (g_preV (ci := 8) (hR.st 0) hK ((hR.1 0 (by decide)).1) rfl) rfl rfl hl.1 rfl (lv_room (Nat.le_of_ble_eq_true rfl)) dX9_restore_29 ⟨by show _ ≤ 0; omega, by show _ ≤ 0; omega⟩) hS (fun w8 H locs hp hR hS => ?_)
    obtain ⟨z9, ez9, hf⟩ := g_let_e hf
    replace hR : g_R G E z9 H := by rw [ez9]; exact hR
    subst hp
    refine lv_aload_n hx hb dX9_restore_32 rfl (lv_at hl 0 rfl) ?_
    refine lv_aload_n hx hb dX9_restore_33 rfl (lv_at hl 0 rfl) ?_
    refine g_get hx hb hts in_9 hown hK hR.2.2.2.1 rfl 0 (by decide) l_12 rfl rfl dX9_restore_34 ?_
    refine g_get hx hb hts in_8 hown hK (hR.1 0 (by decide)).1 rfl 4 (by decide) l_107 rfl rfl dX9_restore_37 ?_
    obtain ⟨r10, z11, hc12, hf⟩ := g_bd_e hf
    refine g_call (va_runV (As := [.int ((z9.1 0).1 5)]) (rest := []) ⟨hx, hb, hml, hown, hts⟩ (c9_recorded l G E z9 _ _ _ hc12) (cwV 1 hts gX9_restore_X9_recorded rfl rfl rfl (by decide +kernel) ⟨Nat.le_of_ble_eq_true rfl, Nat.le_of_ble_eq_true rfl⟩) (g_preV (ci := 9) hR hK (hR.2.2.2.1) rfl) rfl rfl hl.1 rfl (lv_room (Nat.le_of_ble_eq_true rfl)) dX9_restore_40 ⟨by show _ ≤ 0; omega, by show _ ≤ 0; omega⟩) hS (fun w13 H locs hp hR hS => ?_)
    subst hp
    obtain ⟨rfl, rfl⟩ := g_sp hf
    exact g_iret hx hb hlocks hr hS hR g_le.rf ⟨rfl, rfl⟩ (by omega) (by omega) dX9_restore_43
  · replace hf := g_if hf (fun q => q c1)
    refine lv_bipush (v := -5) hx hb dX9_restore_7 (by decide) ?_
    obtain ⟨rfl, rfl⟩ := g_sp hf
    exact g_iret hx hb hlocks hr hS hR g_le.rf ⟨rfl, rfl⟩ (by omega) (by omega) dX9_restore_9
set_option maxHeartbeats 4000000 in
set_option maxRecDepth 100000 in
theorem c9_scrap (l : Launch) (G : gG) (E : gEn) (μ : gMu) (p1 : Int32) (ro : Int32) (zo : gMu) (hf : f9_scrap μ p1 = some (ro, zo)) : Met l yX9_scrap wsX9_scrap ({ frames := 5, cells := 0, slots := 0, locals := 107 } : Room) (g_Pre G E μ [.ref G.2.2, .int p1]) (g_Q G E zo (fun E' v => E' = E ∧ v = some (.int ro))) 0 0 (g_A G) := by
  refine Met.ofW (cc := cX9_scrap) (maxL := 2) (ret := some .int) (by decide) rfl ?_
  intro p e s m args below meth c s₁ B hml hv
  obtain ⟨rfl, hR, hK⟩ := hv
  have hx := B.exec
  have hb := B.bytes
  have hr := B.returns
  have hts := atoms_spec (ws := wsX9_scrap) B.pre
  have hown : s.vm.findClass RX9 = some m.cls := findClass_of_methodNamed B.named
  have hlocks := B.notSynchronized
  have hS : va_S (g_A G) s.heap s.heap [] := va_S.rf
  have hl := lv_entry ([.ref G.2.2, .int p1]) (n := 2) (Nat.le_of_ble_eq_true rfl)
  rw [lg_entry_eq]
  generalize (lg_sl ([.ref G.2.2, .int p1]) ++ List.replicate (2 - (lg_sl ([.ref G.2.2, .int p1])).length) Slot.unset).toArray = ls at hl ⊢
  have hl : lv_has ls 2 [(0, .ref G.2.2), (1, .int p1)] := hl
  have in_9 : ∀ w ∈ u_ws RX9 TX9 6, w ∈ wsX9_scrap := ifX9_scrap_9
  have l_12 := hts (.fieldLink RX9 12 "GlassRacks" "now" "LGlassRacks$State;") (by decide +kernel)
  have l_16 := hts (.fieldLink RX9 16 "GlassRacks" "before" "LGlassRacks$State;") (by decide +kernel)
  unfold f9_scrap at hf
  refine lv_aload_n hx hb dX9_scrap_0 rfl (lv_at hl 0 rfl) ?_
  refine g_get hx hb hts in_9 hown hK hR.2.2.2.1 rfl 1 (by decide) l_16 rfl rfl dX9_scrap_1 ?_
  refine lv_aload_n hx hb dX9_scrap_4 rfl (lv_at hl 0 rfl) ?_
  refine g_get hx hb hts in_9 hown hK hR.2.2.2.1 rfl 0 (by decide) l_12 rfl rfl dX9_scrap_5 ?_
  obtain ⟨z1, hc2, hf⟩ := g_b1_e hf
  refine g_call (va_runV (As := [.ref (g_stA G 0)]) (rest := []) ⟨hx, hb, hml, hown, hts⟩ (c8_copyFrom l G E μ 1 (by decide) _ 0 (by decide) (by decide) _ hc2) (cwV 1 hts gX9_scrap_X8_copyFrom rfl rfl rfl (by decide +kernel) ⟨Nat.le_of_ble_eq_true rfl, Nat.le_of_ble_eq_true rfl⟩) (g_preV (ci := 8) (hR.st 1) hK ((hR.1 1 (by decide)).1) rfl) rfl rfl hl.1 rfl (lv_room (Nat.le_of_ble_eq_true rfl)) dX9_scrap_8 ⟨by show _ ≤ 0; omega, by show _ ≤ 0; omega⟩) hS (fun w3 H locs hp hR hS => ?_)
  obtain ⟨z4, ez4, hf⟩ := g_let_e hf
  replace hR : g_R G E z4 H := by rw [ez4]; exact hR
  subst hp
  refine lv_aload_n hx hb dX9_scrap_11 rfl (lv_at hl 0 rfl) ?_
  refine lv_aload_n hx hb dX9_scrap_12 rfl (lv_at hl 0 rfl) ?_
  refine g_get hx hb hts in_9 hown hK hR.2.2.2.1 rfl 0 (by decide) l_12 rfl rfl dX9_scrap_13 ?_
  refine lv_iload_n hx hb dX9_scrap_16 rfl (lv_at hl 1 rfl) ?_
  obtain ⟨r5, z6, hc7, hf⟩ := g_bd_e hf
  refine g_call (va_runV (As := [.int p1]) (rest := [.ref G.2.2]) ⟨hx, hb, hml, hown, hts⟩ (c8_scrapSheet l G E z4 0 (by decide) _ _ _ _ hc7) (cwV 1 hts gX9_scrap_X8_scrapSheet rfl rfl rfl (by decide +kernel) ⟨Nat.le_of_ble_eq_true rfl, Nat.le_of_ble_eq_true rfl⟩) (g_preV (ci := 8) (hR.st 0) hK ((hR.1 0 (by decide)).1) rfl) rfl rfl hl.1 rfl (lv_room (Nat.le_of_ble_eq_true rfl)) dX9_scrap_17 ⟨by show _ ≤ 0; omega, by show _ ≤ 0; omega⟩) hS (fun w8 H locs hp hR hS => ?_)
  obtain ⟨z9, ez9, hf⟩ := g_let_e hf
  replace hR : g_R G E z9 H := by rw [ez9]; exact hR
  subst hp
  obtain ⟨r10, z11, hc12, hf⟩ := g_bd_e hf
  refine g_call (va_runV (As := [.int r5]) (rest := []) ⟨hx, hb, hml, hown, hts⟩ (c9_recorded l G E z9 _ _ _ hc12) (cwV 1 hts gX9_scrap_X9_recorded rfl rfl rfl (by decide +kernel) ⟨Nat.le_of_ble_eq_true rfl, Nat.le_of_ble_eq_true rfl⟩) (g_preV (ci := 9) hR hK (hR.2.2.2.1) rfl) rfl rfl hl.1 rfl (lv_room (Nat.le_of_ble_eq_true rfl)) dX9_scrap_20 ⟨by show _ ≤ 0; omega, by show _ ≤ 0; omega⟩) hS (fun w13 H locs hp hR hS => ?_)
  subst hp
  obtain ⟨rfl, rfl⟩ := g_sp hf
  exact g_iret hx hb hlocks hr hS hR g_le.rf ⟨rfl, rfl⟩ (by omega) (by omega) dX9_scrap_23
set_option maxHeartbeats 4000000 in
set_option maxRecDepth 100000 in
theorem c9_set (l : Launch) (G : gG) (E : gEn) (μ : gMu) (p1 : Int32) (p2 : Int32) (ro : Int32) (zo : gMu) (hf : f9_set μ p1 p2 = some (ro, zo)) : Met l yX9_set wsX9_set ({ frames := 5, cells := 0, slots := 0, locals := 107 } : Room) (g_Pre G E μ [.ref G.2.2, .int p1, .int p2]) (g_Q G E zo (fun E' v => E' = E ∧ v = some (.int ro))) 0 0 (g_A G) := by
  refine Met.ofW (cc := cX9_set) (maxL := 3) (ret := some .int) (by decide) rfl ?_
  intro p e s m args below meth c s₁ B hml hv
  obtain ⟨rfl, hR, hK⟩ := hv
  have hx := B.exec
  have hb := B.bytes
  have hr := B.returns
  have hts := atoms_spec (ws := wsX9_set) B.pre
  have hown : s.vm.findClass RX9 = some m.cls := findClass_of_methodNamed B.named
  have hlocks := B.notSynchronized
  have hS : va_S (g_A G) s.heap s.heap [] := va_S.rf
  have hl := lv_entry ([.ref G.2.2, .int p1, .int p2]) (n := 3) (Nat.le_of_ble_eq_true rfl)
  rw [lg_entry_eq]
  generalize (lg_sl ([.ref G.2.2, .int p1, .int p2]) ++ List.replicate (3 - (lg_sl ([.ref G.2.2, .int p1, .int p2])).length) Slot.unset).toArray = ls at hl ⊢
  have hl : lv_has ls 3 [(0, .ref G.2.2), (1, .int p1), (2, .int p2)] := hl
  have in_8 : ∀ w ∈ u_ws RX8 TX8 11, w ∈ wsX9_set := ifX9_set_8
  have in_9 : ∀ w ∈ u_ws RX9 TX9 6, w ∈ wsX9_set := ifX9_set_9
  have l_12 := hts (.fieldLink RX9 12 "GlassRacks" "now" "LGlassRacks$State;") (by decide +kernel)
  have l_16 := hts (.fieldLink RX9 16 "GlassRacks" "before" "LGlassRacks$State;") (by decide +kernel)
  have l_44 := hts (.fieldLink RX9 44 "GlassRacks$State" "settings" "LGlassRacks$Settings;") (by decide +kernel)
  unfold f9_set at hf
  refine lv_aload_n hx hb dX9_set_0 rfl (lv_at hl 0 rfl) ?_
  refine g_get hx hb hts in_9 hown hK hR.2.2.2.1 rfl 1 (by decide) l_16 rfl rfl dX9_set_1 ?_
  refine lv_aload_n hx hb dX9_set_4 rfl (lv_at hl 0 rfl) ?_
  refine g_get hx hb hts in_9 hown hK hR.2.2.2.1 rfl 0 (by decide) l_12 rfl rfl dX9_set_5 ?_
  obtain ⟨z1, hc2, hf⟩ := g_b1_e hf
  refine g_call (va_runV (As := [.ref (g_stA G 0)]) (rest := []) ⟨hx, hb, hml, hown, hts⟩ (c8_copyFrom l G E μ 1 (by decide) _ 0 (by decide) (by decide) _ hc2) (cwV 1 hts gX9_set_X8_copyFrom rfl rfl rfl (by decide +kernel) ⟨Nat.le_of_ble_eq_true rfl, Nat.le_of_ble_eq_true rfl⟩) (g_preV (ci := 8) (hR.st 1) hK ((hR.1 1 (by decide)).1) rfl) rfl rfl hl.1 rfl (lv_room (Nat.le_of_ble_eq_true rfl)) dX9_set_8 ⟨by show _ ≤ 0; omega, by show _ ≤ 0; omega⟩) hS (fun w3 H locs hp hR hS => ?_)
  obtain ⟨z4, ez4, hf⟩ := g_let_e hf
  replace hR : g_R G E z4 H := by rw [ez4]; exact hR
  subst hp
  refine lv_aload_n hx hb dX9_set_11 rfl (lv_at hl 0 rfl) ?_
  refine lv_aload_n hx hb dX9_set_12 rfl (lv_at hl 0 rfl) ?_
  refine g_get hx hb hts in_9 hown hK hR.2.2.2.1 rfl 0 (by decide) l_12 rfl rfl dX9_set_13 ?_
  refine g_get hx hb hts in_8 hown hK (hR.1 0 (by decide)).1 rfl 0 (by decide) l_44 rfl rfl dX9_set_16 ?_
  refine lv_iload_n hx hb dX9_set_19 rfl (lv_at hl 1 rfl) ?_
  refine lv_iload_n hx hb dX9_set_20 rfl (lv_at hl 2 rfl) ?_
  obtain ⟨r5, z6, hc7, hf⟩ := g_bd_e hf
  refine g_call (va_runV (As := [.int p1, .int p2]) (rest := [.ref G.2.2]) ⟨hx, hb, hml, hown, hts⟩ (c6_change l G E z4 0 (by decide) _ _ _ _ _ hc7) (cwV 2 hts gX9_set_X6_change rfl rfl rfl (by decide +kernel) ⟨Nat.le_of_ble_eq_true rfl, Nat.le_of_ble_eq_true rfl⟩) (g_preV (ci := 6) (hR.st 0) hK ((hR.1 0 (by decide)).2.1) rfl) rfl rfl hl.1 rfl (lv_room (Nat.le_of_ble_eq_true rfl)) dX9_set_21 ⟨by show _ ≤ 0; omega, by show _ ≤ 0; omega⟩) hS (fun w8 H locs hp hR hS => ?_)
  obtain ⟨z9, ez9, hf⟩ := g_let_e hf
  replace hR : g_R G E z9 H := by rw [ez9]; exact hR
  subst hp
  obtain ⟨r10, z11, hc12, hf⟩ := g_bd_e hf
  refine g_call (va_runV (As := [.int r5]) (rest := []) ⟨hx, hb, hml, hown, hts⟩ (c9_recorded l G E z9 _ _ _ hc12) (cwV 1 hts gX9_set_X9_recorded rfl rfl rfl (by decide +kernel) ⟨Nat.le_of_ble_eq_true rfl, Nat.le_of_ble_eq_true rfl⟩) (g_preV (ci := 9) hR hK (hR.2.2.2.1) rfl) rfl rfl hl.1 rfl (lv_room (Nat.le_of_ble_eq_true rfl)) dX9_set_24 ⟨by show _ ≤ 0; omega, by show _ ≤ 0; omega⟩) hS (fun w13 H locs hp hR hS => ?_)
  subst hp
  obtain ⟨rfl, rfl⟩ := g_sp hf
  exact g_iret hx hb hlocks hr hS hR g_le.rf ⟨rfl, rfl⟩ (by omega) (by omega) dX9_set_27
set_option maxHeartbeats 4000000 in
set_option maxRecDepth 100000 in
theorem c9_sheet (l : Launch) (G : gG) (E : gEn) (μ : gMu) (p1 : Int32) (p2 : Int32) (ro : Int32) (hf : f9_sheet μ p1 p2 = some ro) : Met l yX9_sheet wsX9_sheet ({ frames := 2, cells := 0, slots := 0, locals := 44 } : Room) (g_Pre G E μ [.ref G.2.2, .int p1, .int p2]) (g_Q G E μ (fun E' v => E' = E ∧ v = some (.int ro))) 0 0 (g_A G) := by
  refine Met.ofW (cc := cX9_sheet) (maxL := 5) (ret := some .int) (by decide) rfl ?_
  intro p e s m args below meth c s₁ B hml hv
  obtain ⟨rfl, hR, hK⟩ := hv
  have hx := B.exec
  have hb := B.bytes
  have hr := B.returns
  have hts := atoms_spec (ws := wsX9_sheet) B.pre
  have hown : s.vm.findClass RX9 = some m.cls := findClass_of_methodNamed B.named
  have hlocks := B.notSynchronized
  have hS : va_S (g_A G) s.heap s.heap [] := va_S.rf
  have hl := lv_entry ([.ref G.2.2, .int p1, .int p2]) (n := 5) (Nat.le_of_ble_eq_true rfl)
  rw [lg_entry_eq]
  generalize (lg_sl ([.ref G.2.2, .int p1, .int p2]) ++ List.replicate (5 - (lg_sl ([.ref G.2.2, .int p1, .int p2])).length) Slot.unset).toArray = ls at hl ⊢
  have hl : lv_has ls 5 [(0, .ref G.2.2), (1, .int p1), (2, .int p2)] := hl
  have in_7 : ∀ w ∈ u_ws RX7 TX7 5, w ∈ wsX9_sheet := ifX9_sheet_7
  have in_8 : ∀ w ∈ u_ws RX8 TX8 11, w ∈ wsX9_sheet := ifX9_sheet_8
  have in_9 : ∀ w ∈ u_ws RX9 TX9 6, w ∈ wsX9_sheet := ifX9_sheet_9
  have l_111 := hts (.fieldLink RX9 111 "GlassRacks$State" "racks" "LGlassRacks$Racks;") (by decide +kernel)
  have l_12 := hts (.fieldLink RX9 12 "GlassRacks" "now" "LGlassRacks$State;") (by decide +kernel)
  have l_124 := hts (.fieldLink RX9 124 "GlassRacks$Sheet" "sort" "I") (by decide +kernel)
  have l_129 := hts (.fieldLink RX9 129 "GlassRacks$Sheet" "width" "I") (by decide +kernel)
  have l_132 := hts (.fieldLink RX9 132 "GlassRacks$Sheet" "height" "I") (by decide +kernel)
  have l_138 := hts (.fieldLink RX9 138 "GlassRacks$Sheet" "source" "I") (by decide +kernel)
  unfold f9_sheet at hf
  refine lv_aload_n hx hb dX9_sheet_0 rfl (lv_at hl 0 rfl) ?_
  refine g_get hx hb hts in_9 hown hK hR.2.2.2.1 rfl 0 (by decide) l_12 rfl rfl dX9_sheet_1 ?_
  refine g_get hx hb hts in_8 hown hK (hR.1 0 (by decide)).1 rfl 1 (by decide) l_111 rfl rfl dX9_sheet_4 ?_
  refine lv_iload_n hx hb dX9_sheet_7 rfl (lv_at hl 1 rfl) ?_
  obtain ⟨r1, hc2, hf⟩ := g_b1_e hf
  refine g_call (va_runV (As := [.int p1]) (rest := []) ⟨hx, hb, hml, hown, hts⟩ (c5_slotOf l G E μ 0 (by decide) _ _ _ hc2) (cwV 1 hts gX9_sheet_X5_slotOf rfl rfl rfl (by decide +kernel) ⟨Nat.le_of_ble_eq_true rfl, Nat.le_of_ble_eq_true rfl⟩) (g_preV (ci := 5) (hR.st 0) hK ((hR.1 0 (by decide)).2.2.1) rfl) rfl rfl hl.1 rfl (lv_room (Nat.le_of_ble_eq_true rfl)) dX9_sheet_8 ⟨by show _ ≤ 0; omega, by show _ ≤ 0; omega⟩) hS (fun w3 H locs hp hR hS => ?_)
  rw [g_setS_self] at hR
  subst hp
  refine lv_istore_n (lv' := [(3, .int r1), (0, .ref G.2.2), (1, .int p1), (2, .int p2)]) hx hb dX9_sheet_11 rfl hl (by decide) rfl (fun ls hl => ?_)
  refine lv_aload_n hx hb dX9_sheet_12 rfl (lv_at hl 1 rfl) ?_
  refine g_get hx hb hts in_9 hown hK hR.2.2.2.1 rfl 0 (by decide) l_12 rfl rfl dX9_sheet_13 ?_
  refine g_get hx hb hts in_8 hown hK (hR.1 0 (by decide)).1 rfl 1 (by decide) l_111 rfl rfl dX9_sheet_16 ?_
  refine lv_iload_n hx hb dX9_sheet_19 rfl (lv_at hl 0 rfl) ?_
  obtain ⟨r4, hc5, hf⟩ := g_b1_e hf
  refine g_call (va_runV (As := [.int r1]) (rest := []) ⟨hx, hb, hml, hown, hts⟩ (c5_inSlot l G E μ 0 (by decide) _ _ _ hc5) (cwV 1 hts gX9_sheet_X5_inSlot rfl rfl rfl (by decide +kernel) ⟨Nat.le_of_ble_eq_true rfl, Nat.le_of_ble_eq_true rfl⟩) (g_preV (ci := 5) (hR.st 0) hK ((hR.1 0 (by decide)).2.2.1) rfl) rfl rfl hl.1 rfl (lv_room (Nat.le_of_ble_eq_true rfl)) dX9_sheet_20 ⟨by show _ ≤ 0; omega, by show _ ≤ 0; omega⟩) hS (fun w6 H locs hp hR hS => ?_)
  rw [g_setS_self] at hR
  obtain ⟨w7, rfl, hp⟩ := hp
  rcases r4 with _ | v9
  · replace hf := g_ocn hf rfl
    obtain rfl : w7 = .null := hp
    refine lv_astoreN (lv' := [(4, .null), (3, .int r1), (0, .ref G.2.2), (1, .int p1), (2, .int p2)]) hx hb dX9_sheet_23 hl (by decide) rfl (fun ls hl => ?_)
    refine lv_aloadN hx hb dX9_sheet_25 (lv_at hl 0 rfl) ?_
    refine lv_ifnonnullN hx hb dX9_sheet_27 ?_
    refine lv_iconst (v := -1) hx hb dX9_sheet_30 (by decide) ?_
    obtain rfl := g_s1 hf
    exact g_iret hx hb hlocks hr hS hR g_le.rf ⟨rfl, rfl⟩ (by omega) (by omega) dX9_sheet_31
  · replace hf := g_ocs hf rfl
    obtain ⟨a8, rfl, hE_a8⟩ := hp
    refine lv_astore (lv' := [(4, .ref a8), (3, .int r1), (0, .ref G.2.2), (1, .int p1), (2, .int p2)]) hx hb dX9_sheet_23 hl (by decide) rfl (fun ls hl => ?_)
    refine lv_aload hx hb dX9_sheet_25 (lv_at hl 0 rfl) ?_
    refine lv_ifnonnull (tgt := 32) hx hb dX9_sheet_27 (by decide) ?_
    refine lv_iload_n hx hb dX9_sheet_32 rfl (lv_at hl 4 rfl) ?_
    by_cases hc2_0 : p2 = (0 : Int32)
    · replace hf := g_it hf hc2_0
      refine lv_tableIn (off := 39) (tgt := 72) hx hb dX9_sheet_33 (by rw [hc2_0]; decide) (by rw [hc2_0]; decide) (by rw [hc2_0]; rfl) (by decide) ?_
      refine lv_aload hx hb dX9_sheet_72 (lv_at hl 0 rfl) ?_
      refine g_get hx hb hts in_7 hown hK ((hR.2.2.2.2.2 _ _ hE_a8).2) rfl 1 (by decide) l_124 rfl rfl dX9_sheet_74 ?_
      obtain rfl := g_s1 hf
      exact g_iret hx hb hlocks hr hS hR g_le.rf ⟨rfl, rfl⟩ (by omega) (by omega) dX9_sheet_77
    · replace hf := g_if hf hc2_0
      by_cases hc3_1 : p2 = (1 : Int32)
      · replace hf := g_it hf hc3_1
        refine lv_tableIn (off := 45) (tgt := 78) hx hb dX9_sheet_33 (by rw [hc3_1]; decide) (by rw [hc3_1]; decide) (by rw [hc3_1]; rfl) (by decide) ?_
        refine lv_aload hx hb dX9_sheet_78 (lv_at hl 0 rfl) ?_
        refine g_get hx hb hts in_7 hown hK ((hR.2.2.2.2.2 _ _ hE_a8).2) rfl 2 (by decide) l_129 rfl rfl dX9_sheet_80 ?_
        obtain rfl := g_s1 hf
        exact g_iret hx hb hlocks hr hS hR g_le.rf ⟨rfl, rfl⟩ (by omega) (by omega) dX9_sheet_83
      · replace hf := g_if hf hc3_1
        by_cases hc4_2 : p2 = (2 : Int32)
        · replace hf := g_it hf hc4_2
          refine lv_tableIn (off := 51) (tgt := 84) hx hb dX9_sheet_33 (by rw [hc4_2]; decide) (by rw [hc4_2]; decide) (by rw [hc4_2]; rfl) (by decide) ?_
          refine lv_aload hx hb dX9_sheet_84 (lv_at hl 0 rfl) ?_
          refine g_get hx hb hts in_7 hown hK ((hR.2.2.2.2.2 _ _ hE_a8).2) rfl 3 (by decide) l_132 rfl rfl dX9_sheet_86 ?_
          obtain rfl := g_s1 hf
          exact g_iret hx hb hlocks hr hS hR g_le.rf ⟨rfl, rfl⟩ (by omega) (by omega) dX9_sheet_89
        · replace hf := g_if hf hc4_2
          by_cases hc5_3 : p2 = (3 : Int32)
          · replace hf := g_it hf hc5_3
            refine lv_tableIn (off := 57) (tgt := 90) hx hb dX9_sheet_33 (by rw [hc5_3]; decide) (by rw [hc5_3]; decide) (by rw [hc5_3]; rfl) (by decide) ?_
            refine lv_iload_n hx hb dX9_sheet_90 rfl (lv_at hl 1 rfl) ?_
            refine lv_bipush (v := 8) hx hb dX9_sheet_91 (by decide) ?_
            refine lv_idiv hx hb dX9_sheet_93 (by decide) ?_
            obtain rfl := g_s1 hf
            exact g_iret hx hb hlocks hr hS hR g_le.rf ⟨rfl, rfl⟩ (by omega) (by omega) dX9_sheet_94
          · replace hf := g_if hf hc5_3
            by_cases hc6_4 : p2 = (4 : Int32)
            · replace hf := g_it hf hc6_4
              refine lv_tableIn (off := 62) (tgt := 95) hx hb dX9_sheet_33 (by rw [hc6_4]; decide) (by rw [hc6_4]; decide) (by rw [hc6_4]; rfl) (by decide) ?_
              refine lv_aload_n hx hb dX9_sheet_95 rfl (lv_at hl 2 rfl) ?_
              refine g_get hx hb hts in_9 hown hK hR.2.2.2.1 rfl 0 (by decide) l_12 rfl rfl dX9_sheet_96 ?_
              refine g_get hx hb hts in_8 hown hK (hR.1 0 (by decide)).1 rfl 1 (by decide) l_111 rfl rfl dX9_sheet_99 ?_
              refine lv_iload_n hx hb dX9_sheet_102 rfl (lv_at hl 1 rfl) ?_
              obtain ⟨r10, hc11, hf⟩ := g_b1_e hf
              refine g_call (va_runV (As := [.int r1]) (rest := []) ⟨hx, hb, hml, hown, hts⟩ (c5_sheetsBefore l G E μ 0 (by decide) _ _ _ hc11) (cwV 1 hts gX9_sheet_X5_sheetsBefore rfl rfl rfl (by decide +kernel) ⟨Nat.le_of_ble_eq_true rfl, Nat.le_of_ble_eq_true rfl⟩) (g_preV (ci := 5) (hR.st 0) hK ((hR.1 0 (by decide)).2.2.1) rfl) rfl rfl hl.1 rfl (lv_room (Nat.le_of_ble_eq_true rfl)) dX9_sheet_103 ⟨by show _ ≤ 0; omega, by show _ ≤ 0; omega⟩) hS (fun w12 H locs hp hR hS => ?_)
              rw [g_setS_self] at hR
              subst hp
              obtain rfl := g_s1 hf
              exact g_iret hx hb hlocks hr hS hR g_le.rf ⟨rfl, rfl⟩ (by omega) (by omega) dX9_sheet_106
            · replace hf := g_if hf hc6_4
              by_cases hc7_5 : p2 = (5 : Int32)
              · replace hf := g_it hf hc7_5
                refine lv_tableIn (off := 74) (tgt := 107) hx hb dX9_sheet_33 (by rw [hc7_5]; decide) (by rw [hc7_5]; decide) (by rw [hc7_5]; rfl) (by decide) ?_
                refine lv_aload hx hb dX9_sheet_107 (lv_at hl 0 rfl) ?_
                refine g_get hx hb hts in_7 hown hK ((hR.2.2.2.2.2 _ _ hE_a8).2) rfl 4 (by decide) l_138 rfl rfl dX9_sheet_109 ?_
                obtain rfl := g_s1 hf
                exact g_iret hx hb hlocks hr hS hR g_le.rf ⟨rfl, rfl⟩ (by omega) (by omega) dX9_sheet_112
              · replace hf := g_if hf hc7_5
                have hdf : W p l e (headSpec wsX9_sheet ({ frames := 2, cells := 0, slots := 0, locals := 44 } : Room)).room s m ([.ref G.2.2, .int p1, .int p2] : List Value).toArray below meth c H locs 0 0 (MQ below (g_Q G E μ (fun E' v => E' = E ∧ v = some (.int ro))) ([.ref G.2.2, .int p1, .int p2] : List Value).toArray s 0 0 (g_A G)) (F0 m 113 ls []) := by
                  refine lv_bipush (v := -2) hx hb dX9_sheet_113 (by decide) ?_
                  obtain rfl := g_s1 hf
                  exact g_iret hx hb hlocks hr hS hR g_le.rf ⟨rfl, rfl⟩ (by omega) (by omega) dX9_sheet_115
                have qhc2_0 := lv_neT hc2_0 (a := 0) (by decide)
                have qhc3_1 := lv_neT hc3_1 (a := 1) (by decide)
                have qhc4_2 := lv_neT hc4_2 (a := 2) (by decide)
                have qhc5_3 := lv_neT hc5_3 (a := 3) (by decide)
                have qhc6_4 := lv_neT hc6_4 (a := 4) (by decide)
                have qhc7_5 := lv_neT hc7_5 (a := 5) (by decide)
                exact lv_tableOut (tgt := 113) hx hb dX9_sheet_33 (by omega) (by decide) hdf
set_option maxHeartbeats 4000000 in
set_option maxRecDepth 100000 in
theorem c9_undo (l : Launch) (G : gG) (E : gEn) (μ : gMu)  (ro : Int32) (zo : gMu) (hf : f9_undo μ = some (ro, zo)) : Met l yX9_undo wsX9_undo ({ frames := 4, cells := 0, slots := 0, locals := 86 } : Room) (g_Pre G E μ [.ref G.2.2]) (g_Q G E zo (fun E' v => E' = E ∧ v = some (.int ro))) 0 0 (g_A G) := by
  refine Met.ofW (cc := cX9_undo) (maxL := 1) (ret := some .int) (by decide) rfl ?_
  intro p e s m args below meth c s₁ B hml hv
  obtain ⟨rfl, hR, hK⟩ := hv
  have hx := B.exec
  have hb := B.bytes
  have hr := B.returns
  have hts := atoms_spec (ws := wsX9_undo) B.pre
  have hown : s.vm.findClass RX9 = some m.cls := findClass_of_methodNamed B.named
  have hlocks := B.notSynchronized
  have hS : va_S (g_A G) s.heap s.heap [] := va_S.rf
  have hl := lv_entry ([.ref G.2.2]) (n := 1) (Nat.le_of_ble_eq_true rfl)
  rw [lg_entry_eq]
  generalize (lg_sl ([.ref G.2.2]) ++ List.replicate (1 - (lg_sl ([.ref G.2.2])).length) Slot.unset).toArray = ls at hl ⊢
  have hl : lv_has ls 1 [(0, .ref G.2.2)] := hl
  have in_9 : ∀ w ∈ u_ws RX9 TX9 6, w ∈ wsX9_undo := ifX9_undo_9
  have l_12 := hts (.fieldLink RX9 12 "GlassRacks" "now" "LGlassRacks$State;") (by decide +kernel)
  have l_29 := hts (.fieldLink RX9 29 "GlassRacks" "history" "LGlassRacks$History;") (by decide +kernel)
  unfold f9_undo at hf
  refine lv_aload_n hx hb dX9_undo_0 rfl (lv_at hl 0 rfl) ?_
  refine g_get hx hb hts in_9 hown hK hR.2.2.2.1 rfl 4 (by decide) l_29 rfl rfl dX9_undo_1 ?_
  refine lv_aload_n hx hb dX9_undo_4 rfl (lv_at hl 0 rfl) ?_
  refine g_get hx hb hts in_9 hown hK hR.2.2.2.1 rfl 0 (by decide) l_12 rfl rfl dX9_undo_5 ?_
  obtain ⟨r1, z2, hc3, hf⟩ := g_bd_e hf
  refine g_call (va_runV (As := [.ref (g_stA G 0)]) (rest := []) ⟨hx, hb, hml, hown, hts⟩ (c2_takeBack l G E μ 0 (by decide) _ _ hc3) (cwV 1 hts gX9_undo_X2_takeBack rfl rfl rfl (by decide +kernel) ⟨Nat.le_of_ble_eq_true rfl, Nat.le_of_ble_eq_true rfl⟩) (g_preV (ci := 2) hR hK (hR.2.1.2.1) rfl) rfl rfl hl.1 rfl (lv_room (Nat.le_of_ble_eq_true rfl)) dX9_undo_8 ⟨by show _ ≤ 0; omega, by show _ ≤ 0; omega⟩) hS (fun w4 H locs hp hR hS => ?_)
  subst hp
  obtain ⟨rfl, rfl⟩ := g_sp hf
  exact g_iret hx hb hlocks hr hS hR g_le.rf ⟨rfl, rfl⟩ (by omega) (by omega) dX9_undo_11
set_option maxHeartbeats 4000000 in
set_option maxRecDepth 100000 in
theorem c9_would (l : Launch) (G : gG) (E : gEn) (μ : gMu) (p1 : Int32) (p2 : Int32) (p3 : Int32) (ro : Int32) (zo : gMu) (hf : f9_would μ p1 p2 p3 = some (ro, zo)) : Met l yX9_would wsX9_would ({ frames := 3, cells := 0, slots := 0, locals := 67 } : Room) (g_Pre G E μ [.ref G.2.2, .int p1, .int p2, .int p3]) (g_Q G E zo (fun E' v => E' = E ∧ v = some (.int ro))) 0 0 (g_A G) := by
  refine Met.ofW (cc := cX9_would) (maxL := 8) (ret := some .int) (by decide) rfl ?_
  intro p e s m args below meth c s₁ B hml hv
  obtain ⟨rfl, hR, hK⟩ := hv
  have hx := B.exec
  have hb := B.bytes
  have hr := B.returns
  have hts := atoms_spec (ws := wsX9_would) B.pre
  have hown : s.vm.findClass RX9 = some m.cls := findClass_of_methodNamed B.named
  have hlocks := B.notSynchronized
  have hS : va_S (g_A G) s.heap s.heap [] := va_S.rf
  have hl := lv_entry ([.ref G.2.2, .int p1, .int p2, .int p3]) (n := 8) (Nat.le_of_ble_eq_true rfl)
  rw [lg_entry_eq]
  generalize (lg_sl ([.ref G.2.2, .int p1, .int p2, .int p3]) ++ List.replicate (8 - (lg_sl ([.ref G.2.2, .int p1, .int p2, .int p3])).length) Slot.unset).toArray = ls at hl ⊢
  have hl : lv_has ls 8 [(0, .ref G.2.2), (1, .int p1), (2, .int p2), (3, .int p3)] := hl
  have in_1 : ∀ w ∈ u_ws RX1 TX1 10, w ∈ wsX9_would := ifX9_would_1
  have in_8 : ∀ w ∈ u_ws RX8 TX8 11, w ∈ wsX9_would := ifX9_would_8
  have in_9 : ∀ w ∈ u_ws RX9 TX9 6, w ∈ wsX9_would := ifX9_would_9
  have l_111 := hts (.fieldLink RX9 111 "GlassRacks$State" "racks" "LGlassRacks$Racks;") (by decide +kernel)
  have l_12 := hts (.fieldLink RX9 12 "GlassRacks" "now" "LGlassRacks$State;") (by decide +kernel)
  have l_152 := hts (.fieldLink RX9 152 "GlassRacks$State" "orders" "LGlassRacks$Orders;") (by decide +kernel)
  have l_178 := hts (.fieldLink RX9 178 "GlassRacks$State" "cutting" "LGlassRacks$Cutting;") (by decide +kernel)
  have l_188 := hts (.fieldLink RX9 188 "GlassRacks$Cutting" "turned" "Z") (by decide +kernel)
  have l_191 := hts (.fieldLink RX9 191 "GlassRacks$Cutting" "besideArea" "I") (by decide +kernel)
  have l_194 := hts (.fieldLink RX9 194 "GlassRacks$Cutting" "aboveArea" "I") (by decide +kernel)
  have l_197 := hts (.fieldLink RX9 197 "GlassRacks$Cutting" "keptArea" "I") (by decide +kernel)
  have l_200 := hts (.fieldLink RX9 200 "GlassRacks$Cutting" "scrapArea" "I") (by decide +kernel)
  have l_203 := hts (.fieldLink RX9 203 "GlassRacks$Cutting" "lostArea" "I") (by decide +kernel)
  have l_44 := hts (.fieldLink RX9 44 "GlassRacks$State" "settings" "LGlassRacks$Settings;") (by decide +kernel)
  unfold f9_would at hf
  refine lv_aload_n hx hb dX9_would_0 rfl (lv_at hl 0 rfl) ?_
  refine g_get hx hb hts in_9 hown hK hR.2.2.2.1 rfl 0 (by decide) l_12 rfl rfl dX9_would_1 ?_
  refine g_get hx hb hts in_8 hown hK (hR.1 0 (by decide)).1 rfl 2 (by decide) l_152 rfl rfl dX9_would_4 ?_
  refine lv_iload_n hx hb dX9_would_7 rfl (lv_at hl 1 rfl) ?_
  obtain ⟨r1, hc2, hf⟩ := g_b1_e hf
  refine g_call (va_runV (As := [.int p1]) (rest := []) ⟨hx, hb, hml, hown, hts⟩ (c4_numbered l G E μ 0 (by decide) _ _ _ hc2) (cwV 1 hts gX9_would_X4_numbered rfl rfl rfl (by decide +kernel) ⟨Nat.le_of_ble_eq_true rfl, Nat.le_of_ble_eq_true rfl⟩) (g_preV (ci := 4) (hR.st 0) hK ((hR.1 0 (by decide)).2.2.2.2.1) rfl) rfl rfl hl.1 rfl (lv_room (Nat.le_of_ble_eq_true rfl)) dX9_would_8 ⟨by show _ ≤ 0; omega, by show _ ≤ 0; omega⟩) hS (fun w3 H locs hp hR hS => ?_)
  rw [g_setS_self] at hR
  obtain ⟨w4, rfl, hp⟩ := hp
  rcases r1 with _ | v6
  · replace hf := g_ocn hf rfl
    obtain rfl : w4 = .null := hp
    refine lv_astoreN (lv' := [(4, .null), (0, .ref G.2.2), (1, .int p1), (2, .int p2), (3, .int p3)]) hx hb dX9_would_11 hl (by decide) rfl (fun ls hl => ?_)
    refine lv_aload_n hx hb dX9_would_13 rfl (lv_at hl 1 rfl) ?_
    refine g_get hx hb hts in_9 hown hK hR.2.2.2.1 rfl 0 (by decide) l_12 rfl rfl dX9_would_14 ?_
    refine g_get hx hb hts in_8 hown hK (hR.1 0 (by decide)).1 rfl 1 (by decide) l_111 rfl rfl dX9_would_17 ?_
    refine lv_iload_n hx hb dX9_would_20 rfl (lv_at hl 3 rfl) ?_
    obtain ⟨r7, hc8, hf⟩ := g_b1_e hf
    refine g_call (va_runV (As := [.int p2]) (rest := []) ⟨hx, hb, hml, hown, hts⟩ (c5_slotOf l G E μ 0 (by decide) _ _ _ hc8) (cwV 1 hts gX9_would_X5_slotOf rfl rfl rfl (by decide +kernel) ⟨Nat.le_of_ble_eq_true rfl, Nat.le_of_ble_eq_true rfl⟩) (g_preV (ci := 5) (hR.st 0) hK ((hR.1 0 (by decide)).2.2.1) rfl) rfl rfl hl.1 rfl (lv_room (Nat.le_of_ble_eq_true rfl)) dX9_would_21 ⟨by show _ ≤ 0; omega, by show _ ≤ 0; omega⟩) hS (fun w9 H locs hp hR hS => ?_)
    rw [g_setS_self] at hR
    subst hp
    refine lv_istore (lv' := [(5, .int r7), (4, .null), (0, .ref G.2.2), (1, .int p1), (2, .int p2), (3, .int p3)]) hx hb dX9_would_24 hl (by decide) rfl (fun ls hl => ?_)
    refine lv_aload_n hx hb dX9_would_26 rfl (lv_at hl 2 rfl) ?_
    refine g_get hx hb hts in_9 hown hK hR.2.2.2.1 rfl 0 (by decide) l_12 rfl rfl dX9_would_27 ?_
    refine g_get hx hb hts in_8 hown hK (hR.1 0 (by decide)).1 rfl 1 (by decide) l_111 rfl rfl dX9_would_30 ?_
    refine lv_iload hx hb dX9_would_33 (lv_at hl 0 rfl) ?_
    obtain ⟨r10, hc11, hf⟩ := g_b1_e hf
    refine g_call (va_runV (As := [.int r7]) (rest := []) ⟨hx, hb, hml, hown, hts⟩ (c5_inSlot l G E μ 0 (by decide) _ _ _ hc11) (cwV 1 hts gX9_would_X5_inSlot rfl rfl rfl (by decide +kernel) ⟨Nat.le_of_ble_eq_true rfl, Nat.le_of_ble_eq_true rfl⟩) (g_preV (ci := 5) (hR.st 0) hK ((hR.1 0 (by decide)).2.2.1) rfl) rfl rfl hl.1 rfl (lv_room (Nat.le_of_ble_eq_true rfl)) dX9_would_35 ⟨by show _ ≤ 0; omega, by show _ ≤ 0; omega⟩) hS (fun w12 H locs hp hR hS => ?_)
    rw [g_setS_self] at hR
    obtain ⟨w13, rfl, hp⟩ := hp
    rcases r10 with _ | v15
    · replace hf := g_ocn hf rfl
      obtain rfl : w13 = .null := hp
      refine lv_astoreN (lv' := [(6, .null), (5, .int r7), (4, .null), (0, .ref G.2.2), (1, .int p1), (2, .int p2), (3, .int p3)]) hx hb dX9_would_38 hl (by decide) rfl (fun ls hl => ?_)
      refine lv_aloadN hx hb dX9_would_40 (lv_at hl 2 rfl) ?_
      refine lv_ifnullN (tgt := 50) hx hb dX9_would_42 (by decide) ?_
      refine lv_iconst (v := -1) hx hb dX9_would_50 (by decide) ?_
      obtain ⟨rfl, rfl⟩ := g_sp hf
      exact g_iret hx hb hlocks hr hS hR g_le.rf ⟨rfl, rfl⟩ (by omega) (by omega) dX9_would_51
    · replace hf := g_ocs hf rfl
      obtain ⟨a14, rfl, hE_a14⟩ := hp
      refine lv_astore (lv' := [(6, .ref a14), (5, .int r7), (4, .null), (0, .ref G.2.2), (1, .int p1), (2, .int p2), (3, .int p3)]) hx hb dX9_would_38 hl (by decide) rfl (fun ls hl => ?_)
      refine lv_aloadN hx hb dX9_would_40 (lv_at hl 2 rfl) ?_
      refine lv_ifnullN (tgt := 50) hx hb dX9_would_42 (by decide) ?_
      refine lv_iconst (v := -1) hx hb dX9_would_50 (by decide) ?_
      obtain ⟨rfl, rfl⟩ := g_sp hf
      exact g_iret hx hb hlocks hr hS hR g_le.rf ⟨rfl, rfl⟩ (by omega) (by omega) dX9_would_51
  · replace hf := g_ocs hf rfl
    obtain ⟨a5, rfl, hE_a5⟩ := hp
    refine lv_astore (lv' := [(4, .ref a5), (0, .ref G.2.2), (1, .int p1), (2, .int p2), (3, .int p3)]) hx hb dX9_would_11 hl (by decide) rfl (fun ls hl => ?_)
    refine lv_aload_n hx hb dX9_would_13 rfl (lv_at hl 1 rfl) ?_
    refine g_get hx hb hts in_9 hown hK hR.2.2.2.1 rfl 0 (by decide) l_12 rfl rfl dX9_would_14 ?_
    refine g_get hx hb hts in_8 hown hK (hR.1 0 (by decide)).1 rfl 1 (by decide) l_111 rfl rfl dX9_would_17 ?_
    refine lv_iload_n hx hb dX9_would_20 rfl (lv_at hl 3 rfl) ?_
    obtain ⟨r16, hc17, hf⟩ := g_b1_e hf
    refine g_call (va_runV (As := [.int p2]) (rest := []) ⟨hx, hb, hml, hown, hts⟩ (c5_slotOf l G E μ 0 (by decide) _ _ _ hc17) (cwV 1 hts gX9_would_X5_slotOf rfl rfl rfl (by decide +kernel) ⟨Nat.le_of_ble_eq_true rfl, Nat.le_of_ble_eq_true rfl⟩) (g_preV (ci := 5) (hR.st 0) hK ((hR.1 0 (by decide)).2.2.1) rfl) rfl rfl hl.1 rfl (lv_room (Nat.le_of_ble_eq_true rfl)) dX9_would_21 ⟨by show _ ≤ 0; omega, by show _ ≤ 0; omega⟩) hS (fun w18 H locs hp hR hS => ?_)
    rw [g_setS_self] at hR
    subst hp
    refine lv_istore (lv' := [(5, .int r16), (4, .ref a5), (0, .ref G.2.2), (1, .int p1), (2, .int p2), (3, .int p3)]) hx hb dX9_would_24 hl (by decide) rfl (fun ls hl => ?_)
    refine lv_aload_n hx hb dX9_would_26 rfl (lv_at hl 2 rfl) ?_
    refine g_get hx hb hts in_9 hown hK hR.2.2.2.1 rfl 0 (by decide) l_12 rfl rfl dX9_would_27 ?_
    refine g_get hx hb hts in_8 hown hK (hR.1 0 (by decide)).1 rfl 1 (by decide) l_111 rfl rfl dX9_would_30 ?_
    refine lv_iload hx hb dX9_would_33 (lv_at hl 0 rfl) ?_
    obtain ⟨r19, hc20, hf⟩ := g_b1_e hf
    refine g_call (va_runV (As := [.int r16]) (rest := []) ⟨hx, hb, hml, hown, hts⟩ (c5_inSlot l G E μ 0 (by decide) _ _ _ hc20) (cwV 1 hts gX9_would_X5_inSlot rfl rfl rfl (by decide +kernel) ⟨Nat.le_of_ble_eq_true rfl, Nat.le_of_ble_eq_true rfl⟩) (g_preV (ci := 5) (hR.st 0) hK ((hR.1 0 (by decide)).2.2.1) rfl) rfl rfl hl.1 rfl (lv_room (Nat.le_of_ble_eq_true rfl)) dX9_would_35 ⟨by show _ ≤ 0; omega, by show _ ≤ 0; omega⟩) hS (fun w21 H locs hp hR hS => ?_)
    rw [g_setS_self] at hR
    obtain ⟨w22, rfl, hp⟩ := hp
    rcases r19 with _ | v24
    · replace hf := g_ocn hf rfl
      obtain rfl : w22 = .null := hp
      refine lv_astoreN (lv' := [(6, .null), (5, .int r16), (4, .ref a5), (0, .ref G.2.2), (1, .int p1), (2, .int p2), (3, .int p3)]) hx hb dX9_would_38 hl (by decide) rfl (fun ls hl => ?_)
      refine lv_aload hx hb dX9_would_40 (lv_at hl 2 rfl) ?_
      refine lv_ifnull hx hb dX9_would_42 ?_
      refine lv_aloadN hx hb dX9_would_45 (lv_at hl 0 rfl) ?_
      refine lv_ifnonnullN hx hb dX9_would_47 ?_
      refine lv_iconst (v := -1) hx hb dX9_would_50 (by decide) ?_
      obtain ⟨rfl, rfl⟩ := g_sp hf
      exact g_iret hx hb hlocks hr hS hR g_le.rf ⟨rfl, rfl⟩ (by omega) (by omega) dX9_would_51
    · replace hf := g_ocs hf rfl
      obtain ⟨a23, rfl, hE_a23⟩ := hp
      refine lv_astore (lv' := [(6, .ref a23), (5, .int r16), (4, .ref a5), (0, .ref G.2.2), (1, .int p1), (2, .int p2), (3, .int p3)]) hx hb dX9_would_38 hl (by decide) rfl (fun ls hl => ?_)
      refine lv_aload hx hb dX9_would_40 (lv_at hl 2 rfl) ?_
      refine lv_ifnull hx hb dX9_would_42 ?_
      refine lv_aload hx hb dX9_would_45 (lv_at hl 0 rfl) ?_
      refine lv_ifnonnull (tgt := 52) hx hb dX9_would_47 (by decide) ?_
      refine lv_iload_n hx hb dX9_would_52 rfl (lv_at hl 6 rfl) ?_
      refine lv_if_lt (tgt := 62) hx hb dX9_would_53 (by decide) (fun c25 => ?_) (fun c25 => ?_)
      · replace hf := g_it hf c25
        refine lv_bipush (v := -2) hx hb dX9_would_62 (by decide) ?_
        obtain ⟨rfl, rfl⟩ := g_sp hf
        exact g_iret hx hb hlocks hr hS hR g_le.rf ⟨rfl, rfl⟩ (by omega) (by omega) dX9_would_64
      · replace hf := g_if hf c25
        refine lv_iload_n hx hb dX9_would_56 rfl (lv_at hl 6 rfl) ?_
        refine lv_bipush (v := 6) hx hb dX9_would_57 (by decide) ?_
        refine lv_icmp_le (tgt := 65) hx hb dX9_would_59 (by decide) (fun c26 => ?_) (fun c26 => ?_)
        · replace hf := g_it hf c26
          refine lv_aload_n hx hb dX9_would_65 rfl (lv_at hl 3 rfl) ?_
          refine g_get hx hb hts in_9 hown hK hR.2.2.2.1 rfl 0 (by decide) l_12 rfl rfl dX9_would_66 ?_
          refine g_get hx hb hts in_8 hown hK (hR.1 0 (by decide)).1 rfl 3 (by decide) l_178 rfl rfl dX9_would_69 ?_
          refine lv_astore (lv' := [(7, .ref (g_stA G 0 + 6)), (6, .ref a23), (5, .int r16), (4, .ref a5), (0, .ref G.2.2), (1, .int p1), (2, .int p2), (3, .int p3)]) hx hb dX9_would_72 hl (by decide) rfl (fun ls hl => ?_)
          refine lv_aload hx hb dX9_would_74 (lv_at hl 0 rfl) ?_
          refine lv_aload hx hb dX9_would_76 (lv_at hl 3 rfl) ?_
          refine lv_aload hx hb dX9_would_78 (lv_at hl 1 rfl) ?_
          refine lv_aload_n hx hb dX9_would_80 rfl (lv_at hl 4 rfl) ?_
          refine g_get hx hb hts in_9 hown hK hR.2.2.2.1 rfl 0 (by decide) l_12 rfl rfl dX9_would_81 ?_
          refine g_get hx hb hts in_8 hown hK (hR.1 0 (by decide)).1 rfl 0 (by decide) l_44 rfl rfl dX9_would_84 ?_
          obtain ⟨r27, z28, hc29, hf⟩ := g_bd_e hf
          refine g_call (va_runV (As := [.ref a5, .ref a23, .ref (g_stA G 0 + 1)]) (rest := []) ⟨hx, hb, hml, hown, hts⟩ (c1_layOut l G E μ 0 (by decide) _ _ _ hE_a5 _ _ hE_a23 _ _ hc29) (cwV 3 hts gX9_would_X1_layOut rfl rfl rfl (by decide +kernel) ⟨Nat.le_of_ble_eq_true rfl, Nat.le_of_ble_eq_true rfl⟩) (g_preV (ci := 1) (hR.st 0) hK ((hR.1 0 (by decide)).2.2.2.2.2.2) rfl) rfl rfl hl.1 rfl (lv_room (Nat.le_of_ble_eq_true rfl)) dX9_would_87 ⟨by show _ ≤ 0; omega, by show _ ≤ 0; omega⟩) hS (fun w30 H locs hp hR hS => ?_)
          obtain ⟨z31, ez31, hf⟩ := g_let_e hf
          replace hR : g_R G E z31 H := by rw [ez31]; exact hR
          subst hp
          refine lv_if_ne (tgt := 96) hx hb dX9_would_90 (by decide) (fun c32 => ?_) (fun c32 => ?_)
          · replace hf := g_it hf c32
            refine lv_iload_n hx hb dX9_would_96 rfl (lv_at hl 7 rfl) ?_
            by_cases hc6_0 : p3 = (0 : Int32)
            · replace hf := g_it hf hc6_0
              refine lv_tableIn (off := 39) (tgt := 136) hx hb dX9_would_97 (by rw [hc6_0]; decide) (by rw [hc6_0]; decide) (by rw [hc6_0]; rfl) (by decide) ?_
              refine lv_aload hx hb dX9_would_136 (lv_at hl 0 rfl) ?_
              refine g_get hx hb hts in_1 hown hK (hR.1 0 (by decide)).2.2.2.2.2.2 rfl 0 (by decide) l_188 rfl rfl dX9_would_138 ?_
              refine lv_if_eq (tgt := 148) hx hb dX9_would_141 (by decide) (fun c33 => ?_) (fun c33 => ?_)
              · replace hf := g_it hf c33
                refine lv_iconst (v := 0) hx hb dX9_would_148 (by decide) ?_
                obtain ⟨rfl, rfl⟩ := g_sp hf
                exact g_iret hx hb hlocks hr hS hR g_le.rf ⟨rfl, rfl⟩ (by omega) (by omega) dX9_would_149
              · replace hf := g_if hf c33
                refine lv_iconst (v := 1) hx hb dX9_would_144 (by decide) ?_
                refine lv_goto (tgt := 149) hx hb dX9_would_145 (by decide) ?_
                obtain ⟨rfl, rfl⟩ := g_sp hf
                exact g_iret hx hb hlocks hr hS hR g_le.rf ⟨rfl, rfl⟩ (by omega) (by omega) dX9_would_149
            · replace hf := g_if hf hc6_0
              by_cases hc7_1 : p3 = (1 : Int32)
              · replace hf := g_it hf hc7_1
                refine lv_tableIn (off := 53) (tgt := 150) hx hb dX9_would_97 (by rw [hc7_1]; decide) (by rw [hc7_1]; decide) (by rw [hc7_1]; rfl) (by decide) ?_
                refine lv_aload hx hb dX9_would_150 (lv_at hl 0 rfl) ?_
                refine g_get hx hb hts in_1 hown hK (hR.1 0 (by decide)).2.2.2.2.2.2 rfl 3 (by decide) l_191 rfl rfl dX9_would_152 ?_
                obtain ⟨rfl, rfl⟩ := g_sp hf
                exact g_iret hx hb hlocks hr hS hR g_le.rf ⟨rfl, rfl⟩ (by omega) (by omega) dX9_would_155
              · replace hf := g_if hf hc7_1
                by_cases hc8_2 : p3 = (2 : Int32)
                · replace hf := g_it hf hc8_2
                  refine lv_tableIn (off := 59) (tgt := 156) hx hb dX9_would_97 (by rw [hc8_2]; decide) (by rw [hc8_2]; decide) (by rw [hc8_2]; rfl) (by decide) ?_
                  refine lv_aload hx hb dX9_would_156 (lv_at hl 0 rfl) ?_
                  refine g_get hx hb hts in_1 hown hK (hR.1 0 (by decide)).2.2.2.2.2.2 rfl 6 (by decide) l_194 rfl rfl dX9_would_158 ?_
                  obtain ⟨rfl, rfl⟩ := g_sp hf
                  exact g_iret hx hb hlocks hr hS hR g_le.rf ⟨rfl, rfl⟩ (by omega) (by omega) dX9_would_161
                · replace hf := g_if hf hc8_2
                  by_cases hc9_3 : p3 = (3 : Int32)
                  · replace hf := g_it hf hc9_3
                    refine lv_tableIn (off := 65) (tgt := 162) hx hb dX9_would_97 (by rw [hc9_3]; decide) (by rw [hc9_3]; decide) (by rw [hc9_3]; rfl) (by decide) ?_
                    refine lv_aload hx hb dX9_would_162 (lv_at hl 0 rfl) ?_
                    refine g_get hx hb hts in_1 hown hK (hR.1 0 (by decide)).2.2.2.2.2.2 rfl 7 (by decide) l_197 rfl rfl dX9_would_164 ?_
                    obtain ⟨rfl, rfl⟩ := g_sp hf
                    exact g_iret hx hb hlocks hr hS hR g_le.rf ⟨rfl, rfl⟩ (by omega) (by omega) dX9_would_167
                  · replace hf := g_if hf hc9_3
                    by_cases hc10_4 : p3 = (4 : Int32)
                    · replace hf := g_it hf hc10_4
                      refine lv_tableIn (off := 71) (tgt := 168) hx hb dX9_would_97 (by rw [hc10_4]; decide) (by rw [hc10_4]; decide) (by rw [hc10_4]; rfl) (by decide) ?_
                      refine lv_aload hx hb dX9_would_168 (lv_at hl 0 rfl) ?_
                      refine g_get hx hb hts in_1 hown hK (hR.1 0 (by decide)).2.2.2.2.2.2 rfl 8 (by decide) l_200 rfl rfl dX9_would_170 ?_
                      obtain ⟨rfl, rfl⟩ := g_sp hf
                      exact g_iret hx hb hlocks hr hS hR g_le.rf ⟨rfl, rfl⟩ (by omega) (by omega) dX9_would_173
                    · replace hf := g_if hf hc10_4
                      by_cases hc11_5 : p3 = (5 : Int32)
                      · replace hf := g_it hf hc11_5
                        refine lv_tableIn (off := 77) (tgt := 174) hx hb dX9_would_97 (by rw [hc11_5]; decide) (by rw [hc11_5]; decide) (by rw [hc11_5]; rfl) (by decide) ?_
                        refine lv_aload hx hb dX9_would_174 (lv_at hl 0 rfl) ?_
                        refine g_get hx hb hts in_1 hown hK (hR.1 0 (by decide)).2.2.2.2.2.2 rfl 9 (by decide) l_203 rfl rfl dX9_would_176 ?_
                        obtain ⟨rfl, rfl⟩ := g_sp hf
                        exact g_iret hx hb hlocks hr hS hR g_le.rf ⟨rfl, rfl⟩ (by omega) (by omega) dX9_would_179
                      · replace hf := g_if hf hc11_5
                        have hdf : W p l e (headSpec wsX9_would ({ frames := 3, cells := 0, slots := 0, locals := 67 } : Room)).room s m ([.ref G.2.2, .int p1, .int p2, .int p3] : List Value).toArray below meth c H locs 0 0 (MQ below (g_Q G E zo (fun E' v => E' = E ∧ v = some (.int ro))) ([.ref G.2.2, .int p1, .int p2, .int p3] : List Value).toArray s 0 0 (g_A G)) (F0 m 180 ls []) := by
                          refine lv_aload_n hx hb dX9_would_180 rfl (lv_at hl 4 rfl) ?_
                          refine g_get hx hb hts in_9 hown hK hR.2.2.2.1 rfl 0 (by decide) l_12 rfl rfl dX9_would_181 ?_
                          refine g_get hx hb hts in_8 hown hK (hR.1 0 (by decide)).1 rfl 1 (by decide) l_111 rfl rfl dX9_would_184 ?_
                          refine lv_iload hx hb dX9_would_187 (lv_at hl 2 rfl) ?_
                          obtain ⟨r34, hc35, hf⟩ := g_b1_e hf
                          refine g_call (va_runV (As := [.int r16]) (rest := []) ⟨hx, hb, hml, hown, hts⟩ (c5_sheetsBefore l G E z31 0 (by decide) _ _ _ hc35) (cwV 1 hts gX9_would_X5_sheetsBefore rfl rfl rfl (by decide +kernel) ⟨Nat.le_of_ble_eq_true rfl, Nat.le_of_ble_eq_true rfl⟩) (g_preV (ci := 5) (hR.st 0) hK ((hR.1 0 (by decide)).2.2.1) rfl) rfl rfl hl.1 rfl (lv_room (Nat.le_of_ble_eq_true rfl)) dX9_would_189 ⟨by show _ ≤ 0; omega, by show _ ≤ 0; omega⟩) hS (fun w36 H locs hp hR hS => ?_)
                          rw [g_setS_self] at hR
                          subst hp
                          refine lv_iconst (v := 1) hx hb dX9_would_192 (by decide) ?_
                          refine lv_iadd hx hb dX9_would_193 ?_
                          obtain ⟨rfl, rfl⟩ := g_sp hf
                          exact g_iret hx hb hlocks hr hS hR g_le.rf ⟨rfl, rfl⟩ (by omega) (by omega) dX9_would_194
                        have qhc6_0 := lv_neT hc6_0 (a := 0) (by decide)
                        have qhc7_1 := lv_neT hc7_1 (a := 1) (by decide)
                        have qhc8_2 := lv_neT hc8_2 (a := 2) (by decide)
                        have qhc9_3 := lv_neT hc9_3 (a := 3) (by decide)
                        have qhc10_4 := lv_neT hc10_4 (a := 4) (by decide)
                        have qhc11_5 := lv_neT hc11_5 (a := 5) (by decide)
                        exact lv_tableOut (tgt := 180) hx hb dX9_would_97 (by omega) (by decide) hdf
          · replace hf := g_if hf (fun q => q c32)
            refine lv_bipush (v := -5) hx hb dX9_would_93 (by decide) ?_
            obtain ⟨rfl, rfl⟩ := g_sp hf
            exact g_iret hx hb hlocks hr hS hR g_le.rf ⟨rfl, rfl⟩ (by omega) (by omega) dX9_would_95
        · replace hf := g_if hf c26
          refine lv_bipush (v := -2) hx hb dX9_would_62 (by decide) ?_
          obtain ⟨rfl, rfl⟩ := g_sp hf
          exact g_iret hx hb hlocks hr hS hR g_le.rf ⟨rfl, rfl⟩ (by omega) (by omega) dX9_would_64
set_option maxHeartbeats 4000000 in
set_option maxRecDepth 100000 in
theorem c9_wouldPlan (l : Launch) (G : gG) (E : gEn) (μ : gMu) (p1 : Int32) (p2 : Int32) (ro : Int32) (zo : gMu) (hf : f9_wouldPlan μ p1 p2 = some (ro, zo)) : Met l yX9_wouldPlan wsX9_wouldPlan ({ frames := 6, cells := 39, slots := 234, locals := 141 } : Room) (g_Pre G E μ [.ref G.2.2, .int p1, .int p2]) (g_Q G E zo (fun E' v => v = some (.int ro))) 39 234 (g_A G) := by
  refine Met.ofW (cc := cX9_wouldPlan) (maxL := 5) (ret := some .int) (by decide) rfl ?_
  intro p e s m args below meth c s₁ B hml hv
  obtain ⟨rfl, hR, hK⟩ := hv
  have hx := B.exec
  have hb := B.bytes
  have hr := B.returns
  have hts := atoms_spec (ws := wsX9_wouldPlan) B.pre
  have hown : s.vm.findClass RX9 = some m.cls := findClass_of_methodNamed B.named
  have hlocks := B.notSynchronized
  have hS : va_S (g_A G) s.heap s.heap [] := va_S.rf
  have hl := lv_entry ([.ref G.2.2, .int p1, .int p2]) (n := 5) (Nat.le_of_ble_eq_true rfl)
  rw [lg_entry_eq]
  generalize (lg_sl ([.ref G.2.2, .int p1, .int p2]) ++ List.replicate (5 - (lg_sl ([.ref G.2.2, .int p1, .int p2])).length) Slot.unset).toArray = ls at hl ⊢
  have hl : lv_has ls 5 [(0, .ref G.2.2), (1, .int p1), (2, .int p2)] := hl
  have in_8 : ∀ w ∈ u_ws RX8 TX8 11, w ∈ wsX9_wouldPlan := ifX9_wouldPlan_8
  have in_9 : ∀ w ∈ u_ws RX9 TX9 6, w ∈ wsX9_wouldPlan := ifX9_wouldPlan_9
  have l_12 := hts (.fieldLink RX9 12 "GlassRacks" "now" "LGlassRacks$State;") (by decide +kernel)
  have l_16 := hts (.fieldLink RX9 16 "GlassRacks" "before" "LGlassRacks$State;") (by decide +kernel)
  have l_221 := hts (.fieldLink RX9 221 "GlassRacks$State" "scrapArea" "I") (by decide +kernel)
  have l_222 := hts (.fieldLink RX9 222 "GlassRacks$State" "liftings" "I") (by decide +kernel)
  have l_225 := hts (.fieldLink RX9 225 "GlassRacks$State" "brokenArea" "I") (by decide +kernel)
  unfold f9_wouldPlan at hf
  refine lv_iload_n hx hb dX9_wouldPlan_0 rfl (lv_at hl 1 rfl) ?_
  obtain ⟨r1, hc2, hf⟩ := g_b1_e hf
  refine g_call (va_runS (As := [.int p1]) (rest := []) ⟨hx, hb, hml, hown, hts⟩ (c9_isChoice l G E μ _ _ hc2) (cwS 1 hts gX9_wouldPlan_X9_isChoice rfl rfl rfl (by decide +kernel) ⟨Nat.le_of_ble_eq_true rfl, Nat.le_of_ble_eq_true rfl⟩) (g_pre hR hK) rfl rfl hl.1 rfl (lv_room (Nat.le_of_ble_eq_true rfl)) dX9_wouldPlan_1 ⟨by show _ ≤ 39; omega, by show _ ≤ 234; omega⟩) hS (fun w3 H locs hp hR hS => ?_)
  subst hp
  refine lv_if_eq (tgt := 16) hx hb dX9_wouldPlan_4 (by decide) (fun c4 => ?_) (fun c4 => ?_)
  · replace hf := g_it hf c4
    refine lv_bipush (v := -2) hx hb dX9_wouldPlan_16 (by decide) ?_
    obtain ⟨rfl, rfl⟩ := g_sp hf
    exact g_iret hx hb hlocks hr hS hR g_le.rf rfl (by omega) (by omega) dX9_wouldPlan_18
  · replace hf := g_if hf c4
    refine lv_iload_n hx hb dX9_wouldPlan_7 rfl (lv_at hl 2 rfl) ?_
    refine lv_if_lt (tgt := 16) hx hb dX9_wouldPlan_8 (by decide) (fun c5 => ?_) (fun c5 => ?_)
    · replace hf := g_it hf c5
      refine lv_bipush (v := -2) hx hb dX9_wouldPlan_16 (by decide) ?_
      obtain ⟨rfl, rfl⟩ := g_sp hf
      exact g_iret hx hb hlocks hr hS hR g_le.rf rfl (by omega) (by omega) dX9_wouldPlan_18
    · replace hf := g_if hf c5
      refine lv_iload_n hx hb dX9_wouldPlan_11 rfl (lv_at hl 2 rfl) ?_
      refine lv_iconst (v := 3) hx hb dX9_wouldPlan_12 (by decide) ?_
      refine lv_icmp_le (tgt := 19) hx hb dX9_wouldPlan_13 (by decide) (fun c6 => ?_) (fun c6 => ?_)
      · replace hf := g_it hf c6
        refine lv_aload_n hx hb dX9_wouldPlan_19 rfl (lv_at hl 0 rfl) ?_
        refine g_get hx hb hts in_9 hown hK hR.2.2.2.1 rfl 1 (by decide) l_16 rfl rfl dX9_wouldPlan_20 ?_
        refine lv_astore_n (lv' := [(3, .ref (g_stA G 1)), (0, .ref G.2.2), (1, .int p1), (2, .int p2)]) hx hb dX9_wouldPlan_23 rfl hl (by decide) rfl (fun ls hl => ?_)
        refine lv_aload_n hx hb dX9_wouldPlan_24 rfl (lv_at hl 0 rfl) ?_
        refine lv_aload_n hx hb dX9_wouldPlan_25 rfl (lv_at hl 1 rfl) ?_
        refine g_get hx hb hts in_9 hown hK hR.2.2.2.1 rfl 0 (by decide) l_12 rfl rfl dX9_wouldPlan_26 ?_
        obtain ⟨z7, hc8, hf⟩ := g_b1_e hf
        refine g_call (va_runV (As := [.ref (g_stA G 0)]) (rest := []) ⟨hx, hb, hml, hown, hts⟩ (c8_copyFrom l G E μ 1 (by decide) _ 0 (by decide) (by decide) _ hc8) (cwV 1 hts gX9_wouldPlan_X8_copyFrom rfl rfl rfl (by decide +kernel) ⟨Nat.le_of_ble_eq_true rfl, Nat.le_of_ble_eq_true rfl⟩) (g_preV (ci := 8) (hR.st 1) hK ((hR.1 1 (by decide)).1) rfl) rfl rfl hl.1 rfl (lv_room (Nat.le_of_ble_eq_true rfl)) dX9_wouldPlan_29 ⟨by show _ ≤ 39; omega, by show _ ≤ 234; omega⟩) hS (fun w9 H locs hp hR hS => ?_)
        obtain ⟨z10, ez10, hf⟩ := g_let_e hf
        replace hR : g_R G E z10 H := by rw [ez10]; exact hR
        subst hp
        refine lv_aload_n hx hb dX9_wouldPlan_32 rfl (lv_at hl 0 rfl) ?_
        refine lv_iload_n hx hb dX9_wouldPlan_33 rfl (lv_at hl 2 rfl) ?_
        obtain ⟨r11, z12, hc13, hf⟩ := g_bd_e hf
        refine g_calln (va_runV (As := [.int p1]) (rest := []) ⟨hx, hb, hml, hown, hts⟩ (c8_planDay l G E z10 1 (by decide) _ _ _ _ hc13) (cwV 1 hts gX9_wouldPlan_X8_planDay rfl rfl rfl (by decide +kernel) ⟨Nat.le_of_ble_eq_true rfl, Nat.le_of_ble_eq_true rfl⟩) (g_preV (ci := 8) (hR.st 1) hK ((hR.1 1 (by decide)).1) rfl) rfl rfl hl.1 rfl (lv_room (Nat.le_of_ble_eq_true rfl)) dX9_wouldPlan_34 ⟨by show _ ≤ 39; omega, by show _ ≤ 234; omega⟩) hS (fun w14 E15 H locs hp hle16 hR hS => ?_)
        obtain ⟨z17, ez17, hf⟩ := g_let_e hf
        replace hR : g_R G E15 z17 H := by rw [ez17]; exact hR
        subst hp
        refine lv_istore (lv' := [(4, .int r11), (3, .ref (g_stA G 1)), (0, .ref G.2.2), (1, .int p1), (2, .int p2)]) hx hb dX9_wouldPlan_37 hl (by decide) rfl (fun ls hl => ?_)
        refine lv_iload_n hx hb dX9_wouldPlan_39 rfl (lv_at hl 4 rfl) ?_
        refine W.widen (k := 39) (n := 234) (by omega) (by omega) ?_
        by_cases hc4_0 : p2 = (0 : Int32)
        · replace hf := g_it hf hc4_0
          refine lv_tableIn (off := 28) (tgt := 68) hx hb dX9_wouldPlan_40 (by rw [hc4_0]; decide) (by rw [hc4_0]; decide) (by rw [hc4_0]; rfl) (by decide) ?_
          refine lv_iload hx hb dX9_wouldPlan_68 (lv_at hl 0 rfl) ?_
          refine lv_if_ge (tgt := 77) hx hb dX9_wouldPlan_70 (by decide) (fun c18 => ?_) (fun c18 => ?_)
          · replace hf := g_it hf c18
            refine lv_iload hx hb dX9_wouldPlan_77 (lv_at hl 0 rfl) ?_
            obtain ⟨rfl, rfl⟩ := g_sp hf
            exact g_iret hx hb hlocks hr hS hR ((g_le.rf).tr hle16) rfl (by omega) (by omega) dX9_wouldPlan_79
          · replace hf := g_if hf c18
            refine lv_iconst (v := 0) hx hb dX9_wouldPlan_73 (by decide) ?_
            refine lv_goto (tgt := 79) hx hb dX9_wouldPlan_74 (by decide) ?_
            obtain ⟨rfl, rfl⟩ := g_sp hf
            exact g_iret hx hb hlocks hr hS hR ((g_le.rf).tr hle16) rfl (by omega) (by omega) dX9_wouldPlan_79
        · replace hf := g_if hf hc4_0
          by_cases hc5_1 : p2 = (1 : Int32)
          · replace hf := g_it hf hc5_1
            refine lv_tableIn (off := 40) (tgt := 80) hx hb dX9_wouldPlan_40 (by rw [hc5_1]; decide) (by rw [hc5_1]; decide) (by rw [hc5_1]; rfl) (by decide) ?_
            refine lv_aload_n hx hb dX9_wouldPlan_80 rfl (lv_at hl 1 rfl) ?_
            refine g_get hx hb hts in_8 hown hK (hR.1 1 (by decide)).1 rfl 7 (by decide) l_221 rfl rfl dX9_wouldPlan_81 ?_
            refine lv_aload_n hx hb dX9_wouldPlan_84 rfl (lv_at hl 2 rfl) ?_
            refine g_get hx hb hts in_9 hown hK hR.2.2.2.1 rfl 0 (by decide) l_12 rfl rfl dX9_wouldPlan_85 ?_
            refine g_get hx hb hts in_8 hown hK (hR.1 0 (by decide)).1 rfl 7 (by decide) l_221 rfl rfl dX9_wouldPlan_88 ?_
            refine lv_isub hx hb dX9_wouldPlan_91 ?_
            obtain ⟨rfl, rfl⟩ := g_sp hf
            exact g_iret hx hb hlocks hr hS hR ((g_le.rf).tr hle16) rfl (by omega) (by omega) dX9_wouldPlan_92
          · replace hf := g_if hf hc5_1
            by_cases hc6_2 : p2 = (2 : Int32)
            · replace hf := g_it hf hc6_2
              refine lv_tableIn (off := 53) (tgt := 93) hx hb dX9_wouldPlan_40 (by rw [hc6_2]; decide) (by rw [hc6_2]; decide) (by rw [hc6_2]; rfl) (by decide) ?_
              refine lv_aload_n hx hb dX9_wouldPlan_93 rfl (lv_at hl 1 rfl) ?_
              refine g_get hx hb hts in_8 hown hK (hR.1 1 (by decide)).1 rfl 10 (by decide) l_222 rfl rfl dX9_wouldPlan_94 ?_
              refine lv_aload_n hx hb dX9_wouldPlan_97 rfl (lv_at hl 2 rfl) ?_
              refine g_get hx hb hts in_9 hown hK hR.2.2.2.1 rfl 0 (by decide) l_12 rfl rfl dX9_wouldPlan_98 ?_
              refine g_get hx hb hts in_8 hown hK (hR.1 0 (by decide)).1 rfl 10 (by decide) l_222 rfl rfl dX9_wouldPlan_101 ?_
              refine lv_isub hx hb dX9_wouldPlan_104 ?_
              obtain ⟨rfl, rfl⟩ := g_sp hf
              exact g_iret hx hb hlocks hr hS hR ((g_le.rf).tr hle16) rfl (by omega) (by omega) dX9_wouldPlan_105
            · replace hf := g_if hf hc6_2
              have hdf : W p l e (headSpec wsX9_wouldPlan ({ frames := 6, cells := 39, slots := 234, locals := 141 } : Room)).room s m ([.ref G.2.2, .int p1, .int p2] : List Value).toArray below meth c H locs 39 234 (MQ below (g_Q G E zo (fun E' v => v = some (.int ro))) ([.ref G.2.2, .int p1, .int p2] : List Value).toArray s 39 234 (g_A G)) (F0 m 106 ls []) := by
                refine lv_aload_n hx hb dX9_wouldPlan_106 rfl (lv_at hl 1 rfl) ?_
                refine g_get hx hb hts in_8 hown hK (hR.1 1 (by decide)).1 rfl 8 (by decide) l_225 rfl rfl dX9_wouldPlan_107 ?_
                refine lv_aload_n hx hb dX9_wouldPlan_110 rfl (lv_at hl 2 rfl) ?_
                refine g_get hx hb hts in_9 hown hK hR.2.2.2.1 rfl 0 (by decide) l_12 rfl rfl dX9_wouldPlan_111 ?_
                refine g_get hx hb hts in_8 hown hK (hR.1 0 (by decide)).1 rfl 8 (by decide) l_225 rfl rfl dX9_wouldPlan_114 ?_
                refine lv_isub hx hb dX9_wouldPlan_117 ?_
                obtain ⟨rfl, rfl⟩ := g_sp hf
                exact g_iret hx hb hlocks hr hS hR ((g_le.rf).tr hle16) rfl (by omega) (by omega) dX9_wouldPlan_118
              have qhc4_0 := lv_neT hc4_0 (a := 0) (by decide)
              have qhc5_1 := lv_neT hc5_1 (a := 1) (by decide)
              have qhc6_2 := lv_neT hc6_2 (a := 2) (by decide)
              exact lv_tableOut (tgt := 106) hx hb dX9_wouldPlan_40 (by omega) (by decide) hdf
      · replace hf := g_if hf c6
        refine lv_bipush (v := -2) hx hb dX9_wouldPlan_16 (by decide) ?_
        obtain ⟨rfl, rfl⟩ := g_sp hf
        exact g_iret hx hb hlocks hr hS hR g_le.rf rfl (by omega) (by omega) dX9_wouldPlan_18
