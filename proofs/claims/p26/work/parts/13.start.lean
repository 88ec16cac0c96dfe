set_option maxHeartbeats 8000000 in
set_option maxRecDepth 100000 in
/-- what the tables say, for the class's kinds -/
theorem g_known {s : State} {b : Nat} (hts : ∀ w ∈ lw_tbl, w.before #[Value.ref b] s = true) : ∃ G : gG, G.2.2 = s.heap.size ∧ g_KC G s := by
  obtain ⟨c0, i0, k0⟩ := u_known (C := RX0) (T := TX0) (N := 12) (n := 12) hts inX0 (hts (.instantiable RX0 12) (by decide +kernel))
  obtain ⟨c1, i1, k1⟩ := u_known (C := RX1) (T := TX1) (N := 10) (n := 10) hts inX1 (hts (.instantiable RX1 10) (by decide +kernel))
  obtain ⟨c2, i2, k2⟩ := u_known (C := RX2) (T := TX2) (N := 2) (n := 2) hts inX2 (hts (.instantiable RX2 2) (by decide +kernel))
  obtain ⟨c3, i3, k3⟩ := u_known (C := RX3) (T := TX3) (N := 8) (n := 8) hts inX3 (hts (.instantiable RX3 8) (by decide +kernel))
  obtain ⟨c4, i4, k4⟩ := u_known (C := RX4) (T := TX4) (N := 2) (n := 2) hts inX4 (hts (.instantiable RX4 2) (by decide +kernel))
  obtain ⟨c5, i5, k5⟩ := u_known (C := RX5) (T := TX5) (N := 2) (n := 2) hts inX5 (hts (.instantiable RX5 2) (by decide +kernel))
  obtain ⟨c6, i6, k6⟩ := u_known (C := RX6) (T := TX6) (N := 5) (n := 5) hts inX6 (hts (.instantiable RX6 5) (by decide +kernel))
  obtain ⟨c7, i7, k7⟩ := u_known (C := RX7) (T := TX7) (N := 5) (n := 5) hts inX7 (hts (.instantiable RX7 5) (by decide +kernel))
  obtain ⟨c8, i8, k8⟩ := u_known (C := RX8) (T := TX8) (N := 11) (n := 11) hts inX8 (hts (.instantiable RX8 11) (by decide +kernel))
  obtain ⟨c9, i9, k9⟩ := u_known (C := RX9) (T := TX9) (N := 6) (n := 6) hts inX9 (hts (.instantiable RX9 6) (by decide +kernel))
  obtain ⟨aC, kC, pC, eC1, eC2, eC3⟩ := Cond.arrayClass_spec (hts (.arrayClass .char) (by decide +kernel))
  have ovS := hts (.arrayOver (.object "GlassRacks$Sheet")) (by decide +kernel)
  obtain ⟨pS, aS, kS, eS1, -, eS2, eS3, eS4⟩ := Cond.arrayOver_spec ovS
  have ovO := hts (.arrayOver (.object "GlassRacks$Order")) (by decide +kernel)
  obtain ⟨pO, aO, kO, eO1, -, eO2, eO3, eO4⟩ := Cond.arrayOver_spec ovO
  have ovT := hts (.arrayOver (.object "GlassRacks$State")) (by decide +kernel)
  obtain ⟨pT, aT, kT, eT1, -, eT2, eT3, eT4⟩ := Cond.arrayOver_spec ovT
  have hn : ∀ w ∈ g_nest, Cond.methodLinkNest w.1 w.2.1 w.2.2 "GlassRacks" ∈ lw_tbl := by decide +kernel
  refine ⟨((fun k => match k with | 0 => c0 | 1 => c1 | 2 => c2 | 3 => c3 | 4 => c4 | 5 => c5 | 6 => c6 | 7 => c7 | 8 => c8 | _ => c9, fun k => match k with | 0 => i0 | 1 => i1 | 2 => i2 | 3 => i3 | 4 => i4 | 5 => i5 | 6 => i6 | 7 => i7 | 8 => i8 | _ => i9), fun k => match k with | 0 => aC | 1 => aC | 2 => aS | 3 => aO | _ => aT, s.heap.size), rfl, ⟨⟨fun k q hq => ?_, fun k q hq => ?_⟩, fun w hw => va_Nw.of rfl (hts _ (hn w hw))⟩, va_AO.of ovS, va_AO.of ovO, va_AO.of ovT⟩
  · match k, hq with
    | 0, hq => cases hq; exact k0
    | 1, hq => cases hq; exact k1
    | 2, hq => cases hq; exact k2
    | 3, hq => cases hq; exact k3
    | 4, hq => cases hq; exact k4
    | 5, hq => cases hq; exact k5
    | 6, hq => cases hq; exact k6
    | 7, hq => cases hq; exact k7
    | 8, hq => cases hq; exact k8
    | 9, hq => cases hq; exact k9
    | k + 10, hq => simp [vwCl] at hq
  · match k, hq with
    | 0, hq => cases hq; exact ⟨fun n z => ⟨fun k h => (by cases h), kC, eC2, pC, eC3⟩, eC1⟩
    | 1, hq => cases hq; exact ⟨fun n z => ⟨fun k h => (by cases h), kC, eC2, pC, eC3⟩, eC1⟩
    | 2, hq => cases hq; exact ⟨fun n z => ⟨fun k h => (by cases h), kS, eS2, pS, eS3⟩, kS, pS, eS2, eS3, eS1, eS4⟩
    | 3, hq => cases hq; exact ⟨fun n z => ⟨fun k h => (by cases h), kO, eO2, pO, eO3⟩, kO, pO, eO2, eO3, eO1, eO4⟩
    | 4, hq => cases hq; exact ⟨fun n z => ⟨fun k h => (by cases h), kT, eT2, pT, eT3⟩, kT, pT, eT2, eT3, eT1, eT4⟩
    | k + 5, hq => simp at hq
set_option maxHeartbeats 8000000 in
set_option maxRecDepth 100000 in
/-- from the law's entry to its checks -/
theorem whole_start0 {p : Program} {e : Env} {s : State} {m : MethodId} {below : List Frame} {meth : Method} {c : Code} (l : Launch) {b L : Nat} {xs : Nat → Int32} (C0 : lw_At p s m meth c b L xs) (hpure : fL_law8 xs L g_mu0 = some 1) : W p l e room_1 s m #[Value.ref b] below meth c s.heap [] 0 0 (lw_Z below #[Value.ref b] s) (entryFrame m ([Value.ref b] : List Value).toArray 10) := by
  obtain ⟨hx, hb, hr, hml, hown, hts0, hX, hbl, hlocks, hgv⟩ := id C0
  obtain ⟨G, hG, hK⟩ := g_known hts0
  have hts := hts0
  have hown : s.vm.findClass RL = some m.cls := hown
  have hS : va_S (g_A G) s.heap s.heap [] := va_S.rf
  have hz : s.heap.size = G.2.2 := hG.symm
  have hl := lv_entry ([.ref b]) (n := 10) (Nat.le_of_ble_eq_true rfl)
  rw [lg_entry_eq]
  generalize (lg_sl ([.ref b]) ++ List.replicate (10 - (lg_sl ([.ref b])).length) Slot.unset).toArray = ls at hl ⊢
  have hl : lv_has ls 10 [(0, .ref b)] := hl
  have in9 : ∀ w ∈ u_ws RX9 TX9 6, w ∈ lw_tbl := inX9
  refine g_newC (n := G.2.2) (ci := 9) (fs := [.null, .null, .null, .int 0, .null, .null]) hx hb hts in9 tyX9_ok hown (hts (.classLink RL 14 RX9) (by decide +kernel)) (hts (.instantiable RX9 6) (by decide +kernel)) (hts (.initialized RX9) (by decide +kernel)) hK hz hS rfl (fun j hj => by rcases (show j = 0 ∨ j = 1 ∨ j = 2 ∨ j = 3 ∨ j = 4 ∨ j = 5 by omega) with rfl | rfl | rfl | rfl | rfl | rfl <;> rfl) (by show _ ≤ 696159; omega) (by show _ ≤ 7013772; omega) dL_law_0 (fun H h1 hz oq hS => ?_)
  clear oq
  refine lv_dup hx hb dL_law_3 rfl ?_
  refine g_callC (va_runI (As := []) (rest := [.ref G.2.2]) ⟨hx, hb, hml, hown, hts⟩ (c9_init l G) (cwI 0 hts gL_law_X9_init rfl rfl rfl (hts (.initialized RX9) (by decide +kernel)) (hts (.methodLink RL 97 yX9_init) (by decide +kernel)) (hts (.instanceMethod yX9_init) (by decide +kernel)) rfl (by decide +kernel) ⟨Nat.le_of_ble_eq_true rfl, Nat.le_of_ble_eq_true rfl⟩) (g_preC hz h1 hK) rfl rfl hl.1 rfl (lv_room (Nat.le_of_ble_eq_true rfl)) dL_law_4 ⟨by show _ ≤ 696159; omega, by show _ ≤ 7013772; omega⟩) hz (Nat.le_refl _) (by omega) (by omega) hS (fun w H locs hv hp hz oq hS => ?_)
  subst hv
  clear oq h1
  obtain ⟨q1, q2, q3, q4⟩ := hp
  refine lv_astore_n (lv' := [(1, .ref G.2.2), (0, .ref b)]) hx hb dL_law_7 rfl hl (by decide) rfl (fun ls hl => ?_)
  have hR : g_R G g_E0 g_mu0 H := ⟨q1, q2, q3, q4, trivial, fun a o h => by cases h⟩
  refine W.widen (k := 54) (n := 602) (by omega) (by omega) ?_
  exact law_from G hG hK.1 C0 g_mu0 H _ _ hpure hR hS hl
