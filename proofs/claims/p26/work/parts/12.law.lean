/-! THE CLAIM OUT OF ONE WALK OF THE LAW'S BODY. Your part is whole_start (and what it stands on); all else here is the same for every law, but numbers. -/
def R_law : String := "GlassRacksLaw"
def lw_P (b : Addr) (xs : List Int32) (args : Array Value) (s : State) : Prop := args = #[.ref b] ∧ s.IntsAt b xs ∧ xs.length ≤ 260 ∧ (Jvm.Cond.and given_1 narrow_1).before args s = true
def lw_Q (_ : Array Value) (s : State) (o : Outcome) (t : State) : Prop := o = .returned (some (.int 1)) ∧ Framed s o t [] 696159 7013772
def lw_Z (below : List Frame) (a : Array Value) (s : State) : State → Prop := fun t => ∃ o, t.status = .running ∧ Ended t below o ∧ lw_Q a s o t
/-- the law's own end, with 1 on the stack, nothing written that was there before, its room as the claim has it -/
theorem lw_ret {p : Program} {l : Launch} {e : Env} {s : State} {m : MethodId} {below : List Frame} {meth : Method} {c : Code} {b : Nat} (hx : p.tables.exec = Jvm.exec) (hb : c.code = code) (hr : meth.sig.returnType = ret) (hlocks : meth.locks = false) {pc : Nat} {H : Heap} {ls : Array Slot} (hdg : decode code pc = .ok (.ireturn, 1)) : W p l e room_1 s m #[Value.ref b] below meth c H [] 696159 7013772 (lw_Z below #[Value.ref b] s) (F0 m pc ls [.int 1]) := by
  intro T hT X
  obtain ⟨fs, hret, hrun, hended, hW, hframe⟩ := X.leave (v := some (.int 1)) (hlocks := hlocks) (fun h => by rw [hr] at h; cases h)
  have hmeth' : T.vm.method? m = some meth := X.method'
  refine ⟨T.setFrames fs, ?_, .returned (some (.int 1)), hrun, hended, rfl, ⟨_, rfl⟩, hW, hframe⟩
  jvm_step X.here [X.here.top, hx, hb, hdg, hmeth', hr, ret, narrow_b1]
  (try refine ⟨rfl, ?_⟩); (try refine ⟨rfl, ?_⟩)
  first | (intro acts; rw [hret _ acts rfl rfl rfl]) | rw [hret _ _ rfl rfl rfl]
  exact Steps.refl _
/-- what holds at the law's entry: the machine, the code, the tables' words (any of lw_tbl by 'hts w (by decide +kernel)'), the script of L ints xs at the cell b, what the Statement gives of the start (any of its parts by flat_of_before) -/
def lw_At (p : Program) (s : State) (m : MethodId) (meth : Method) (c : Code) (b L : Nat) (xs : Nat → Int32) : Prop :=
  p.tables.exec = Jvm.exec ∧ c.code = code ∧ meth.sig.returnType = ret ∧ c.maxLocals = 10 ∧ s.vm.findClass R_law = some m.cls ∧ (∀ w ∈ lw_tbl, w.before #[Value.ref b] s = true) ∧ va_X b L xs s s.heap ∧ b < s.heap.size ∧ meth.locks = false ∧ (Jvm.Cond.and given_1 narrow_1).before #[Value.ref b] s = true
set_option maxHeartbeats 16000000 in
set_option maxRecDepth 100000 in
/-- THE LAW'S LOOP: where its function says 1, the law ends with true -/
theorem law_loop {p : Program} {l : Launch} {e : Env} {s : State} {m : MethodId} {below : List Frame} {meth : Method} {c : Code} {b L : Nat} {xs : Nat → Int32} (G : gG) (hG : G.2.2 = s.heap.size) (hK : g_K G s) (C0 : lw_At p s m meth c b L xs) : ∀ (n : Nat) (E1 : gEn) (hle1 : g_le g_E0 E1) (z0 : gMu) (x2 : Int32) (H : Heap) (locs : List Loc) (ls : Array Slot), n ≤ 25 → fL_lawl xs L n z0 x2 = some 1 → g_R G E1 z0 H → va_S (g_A G) s.heap H locs → lv_has ls 10 [(0, .ref b), (1, .ref G.2.2), (2, .int x2)] → W p l e room_1 s m #[Value.ref b] below meth c H locs (915 + 201 * (25 - n)) (5768 + 1209 * (25 - n)) (lw_Z below #[Value.ref b] s) (F0 m 100 ls []) := by
  obtain ⟨hx, hb, hr, hml, hown, hts, hX, hbl, hlocks, hgv⟩ := C0
  have hown : s.vm.findClass RL = some m.cls := hown
  have hbA : ¬ g_A G b := fun q => by
    have q : G.2.2 ≤ b := q
    omega
  have ld_115 := hts (.constant RL 115 (196608)) (by decide +kernel)
  intro n
  induction n with
  | zero =>
    intro E1 hle1 z0 x2 H locs ls hfu hf
    rw [fL_lawl] at hf
    cases hf
  | succ n ih =>
    intro E1 hle1 z0 x2 H locs ls hfu hf  hR hS hl
    rw [fL_lawl] at hf
    refine lv_iload_n hx hb dL_law_100 rfl (lv_at hl 2 rfl) ?_
    refine lv_bipush (v := 24) hx hb dL_law_101 (by decide) ?_
    refine lv_icmp_ge (tgt := 271) hx hb dL_law_103 (by decide) (fun c1 => ?_) (fun c1 => ?_)
    · replace hf := g_it hf c1
      refine lv_iconst (v := 1) hx hb dL_law_271 (by decide) ?_
      refine va_forget (fun q hq => by rw [← hG]; exact hS.2.2 q hq) ?_
      refine W.widen (k := 696159) (n := 7013772) (by omega) (by omega) ?_
      exact lw_ret hx hb hr hlocks dL_law_272
    · replace hf := g_if hf c1
      refine lv_aload_n hx hb dL_law_106 rfl (lv_at hl 0 rfl) ?_
      refine lv_iconst (v := 2) hx hb dL_law_107 (by decide) ?_
      refine lv_iload_n hx hb dL_law_108 rfl (lv_at hl 2 rfl) ?_
      refine lv_imul hx hb dL_law_109 ?_
      obtain ⟨r2, hc3, hf⟩ := g_b1_e hf
      refine g_call (va_runS (As := [.ref b, .int ((2 : Int32) * x2)]) (rest := []) ⟨hx, hb, hml, hown, hts⟩ (mL_cell l G E1 z0 b xs L _ _ hc3) (cwS 2 hts gL_law_L_cell rfl rfl rfl (by decide +kernel) ⟨Nat.le_of_ble_eq_true rfl, Nat.le_of_ble_eq_true rfl⟩) (g_preX hR hK (hX.kept (hS.2.1 b hbl hbA)) (Nat.lt_of_lt_of_le hbl hS.1) hbA) rfl rfl hl.1 rfl (lv_room (Nat.le_of_ble_eq_true rfl)) dL_law_110 ⟨by show _ ≤ 696159; omega, by show _ ≤ 7013772; omega⟩) hS (fun w4 H locs hp hR hS => ?_)
      subst hp
      refine lv_istore_n (lv' := [(3, .int r2), (0, .ref b), (1, .ref G.2.2), (2, .int x2)]) hx hb dL_law_113 rfl hl (by decide) rfl (fun ls hl => ?_)
      refine lv_aload_n hx hb dL_law_114 rfl (lv_at hl 1 rfl) ?_
      refine lv_iconst (v := 2) hx hb dL_law_115 (by decide) ?_
      refine lv_iload_n hx hb dL_law_116 rfl (lv_at hl 3 rfl) ?_
      refine lv_imul hx hb dL_law_117 ?_
      refine lv_iconst (v := 1) hx hb dL_law_118 (by decide) ?_
      refine lv_iadd hx hb dL_law_119 ?_
      obtain ⟨r5, hc6, hf⟩ := g_b1_e hf
      refine g_call (va_runS (As := [.ref b, .int (((2 : Int32) * x2) + (1 : Int32))]) (rest := []) ⟨hx, hb, hml, hown, hts⟩ (mL_cell l G E1 z0 b xs L _ _ hc6) (cwS 2 hts gL_law_L_cell rfl rfl rfl (by decide +kernel) ⟨Nat.le_of_ble_eq_true rfl, Nat.le_of_ble_eq_true rfl⟩) (g_preX hR hK (hX.kept (hS.2.1 b hbl hbA)) (Nat.lt_of_lt_of_le hbl hS.1) hbA) rfl rfl hl.1 rfl (lv_room (Nat.le_of_ble_eq_true rfl)) dL_law_120 ⟨by show _ ≤ 696159; omega, by show _ ≤ 7013772; omega⟩) hS (fun w7 H locs hp hR hS => ?_)
      subst hp
      refine lv_istore (lv' := [(4, .int r5), (3, .int r2), (0, .ref b), (1, .ref G.2.2), (2, .int x2)]) hx hb dL_law_123 hl (by decide) rfl (fun ls hl => ?_)
      refine lv_iload_n hx hb dL_law_125 rfl (lv_at hl 1 rfl) ?_
      refine lv_bipush (v := 12) hx hb dL_law_126 (by decide) ?_
      refine lv_ishr hx hb dL_law_128 ?_
      refine lv_bipush (v := 14) hx hb dL_law_129 (by decide) ?_
      obtain ⟨r8, hc9, hf⟩ := g_b1_e hf
      refine g_call (va_runS (As := [.int (r2 >>> ((12 : Int32) &&& 31)), .int (14 : Int32)]) (rest := []) ⟨hx, hb, hml, hown, hts⟩ (mL_low l G E1 z0 _ _ _ hc9) (cwS 2 hts gL_law_L_low rfl rfl rfl (by decide +kernel) ⟨Nat.le_of_ble_eq_true rfl, Nat.le_of_ble_eq_true rfl⟩) (g_pre hR hK) rfl rfl hl.1 rfl (lv_room (Nat.le_of_ble_eq_true rfl)) dL_law_131 ⟨by show _ ≤ 696159; omega, by show _ ≤ 7013772; omega⟩) hS (fun w10 H locs hp hR hS => ?_)
      subst hp
      refine lv_istore (lv' := [(5, .int r8), (4, .int r5), (3, .int r2), (0, .ref b), (1, .ref G.2.2), (2, .int x2)]) hx hb dL_law_134 hl (by decide) rfl (fun ls hl => ?_)
      refine lv_aload_n hx hb dL_law_136 rfl (lv_at hl 4 rfl) ?_
      refine lv_bipush (v := 13) hx hb dL_law_137 (by decide) ?_
      obtain ⟨r11, hc12, hf⟩ := g_b1_e hf
      refine g_call (va_runV (As := [.int (13 : Int32)]) (rest := []) ⟨hx, hb, hml, hown, hts⟩ (c9_count l G E1 z0 _ _ hc12) (cwV 1 hts gL_law_X9_count rfl rfl rfl (by decide +kernel) ⟨Nat.le_of_ble_eq_true rfl, Nat.le_of_ble_eq_true rfl⟩) (g_preV (ci := 9) hR hK (hR.2.2.2.1) rfl) rfl rfl hl.1 rfl (lv_room (Nat.le_of_ble_eq_true rfl)) dL_law_139 ⟨by show _ ≤ 696159; omega, by show _ ≤ 7013772; omega⟩) hS (fun w13 H locs hp hR hS => ?_)
      subst hp
      refine lv_istore (lv' := [(6, .int r11), (5, .int r8), (4, .int r5), (3, .int r2), (0, .ref b), (1, .ref G.2.2), (2, .int x2)]) hx hb dL_law_142 hl (by decide) rfl (fun ls hl => ?_)
      refine lv_iload hx hb dL_law_144 (lv_at hl 2 rfl) ?_
      refine lv_ldc hx hb hown ld_115 dL_law_146 ?_
      refine lv_iand hx hb dL_law_148 ?_
      refine lv_if_ne (tgt := 162) hx hb dL_law_149 (by decide) (fun c14 => ?_) (fun c14 => ?_)
      · replace hf := g_it hf c14
        refine lv_iconst (v := 0) hx hb dL_law_162 (by decide) ?_
        refine lv_istore (lv' := [(7, .int (0 : Int32)), (6, .int r11), (5, .int r8), (4, .int r5), (3, .int r2), (0, .ref b), (1, .ref G.2.2), (2, .int x2)]) hx hb dL_law_163 hl (by decide) rfl (fun ls hl => ?_)
        refine lv_iload hx hb dL_law_165 (lv_at hl 0 rfl) ?_
        refine lv_if_eq (tgt := 177) hx hb dL_law_167 (by decide) (fun _ => ?_) (fun c15 => absurd (by decide) c15)
        refine lv_lconst (v := 0) hx hb dL_law_177 (by decide) ?_
        refine lv_topl (fun t16 et16 => ?_)
        replace hf := g_let_at hf et16
        refine lv_lstore (lv' := [(8, .long t16), (7, .int (0 : Int32)), (6, .int r11), (5, .int r8), (4, .int r5), (3, .int r2), (0, .ref b), (1, .ref G.2.2), (2, .int x2)]) hx hb dL_law_178 hl (by decide) rfl (fun ls hl => ?_)
        refine lv_aload_n hx hb dL_law_180 rfl (lv_at hl 7 rfl) ?_
        refine lv_iload hx hb dL_law_181 (lv_at hl 3 rfl) ?_
        refine lv_iload_n hx hb dL_law_183 rfl (lv_at hl 5 rfl) ?_
        refine lv_iload hx hb dL_law_184 (lv_at hl 4 rfl) ?_
        obtain ⟨r17, z18, hc19, hf⟩ := g_bd_e hf
        refine g_calln (va_runS (As := [.ref G.2.2, .int r8, .int r2, .int r5]) (rest := []) ⟨hx, hb, hml, hown, hts⟩ (mL_does l G E1 z0 _ _ _ _ _ hc19) (cwS 4 hts gL_law_L_does rfl rfl rfl (by decide +kernel) ⟨Nat.le_of_ble_eq_true rfl, Nat.le_of_ble_eq_true rfl⟩) (g_pre hR hK) rfl rfl hl.1 rfl (lv_room (Nat.le_of_ble_eq_true rfl)) dL_law_186 ⟨by show _ ≤ 696159; omega, by show _ ≤ 7013772; omega⟩) hS (fun w20 E21 H locs hp hle22 hR hS => ?_)
        subst hp
        refine lv_if_eq (tgt := 226) hx hb dL_law_189 (by decide) (fun c23 => ?_) (fun c23 => ?_)
        · replace hf := g_it hf c23
          refine lv_iconst (v := 0) hx hb dL_law_226 (by decide) ?_
          exact absurd (g_s1 hf) (by decide)
        · replace hf := g_if hf c23
          refine lv_aload_n hx hb dL_law_192 rfl (lv_at hl 7 rfl) ?_
          obtain ⟨r24, hc25, hf⟩ := g_b1_e hf
          refine g_call (va_runS (As := [.ref G.2.2]) (rest := []) ⟨hx, hb, hml, hown, hts⟩ (mL_racks l G E21 z18  _ hc25) (cwS 1 hts gL_law_L_racks rfl rfl rfl (by decide +kernel) ⟨Nat.le_of_ble_eq_true rfl, Nat.le_of_ble_eq_true rfl⟩) (g_pre hR hK) rfl rfl hl.1 rfl (lv_room (Nat.le_of_ble_eq_true rfl)) dL_law_193 ⟨by show _ ≤ 696159; omega, by show _ ≤ 7013772; omega⟩) hS (fun w26 H locs hp hR hS => ?_)
          subst hp
          refine lv_if_eq (tgt := 226) hx hb dL_law_196 (by decide) (fun c27 => ?_) (fun c27 => ?_)
          · replace hf := g_it hf c27
            refine lv_iconst (v := 0) hx hb dL_law_226 (by decide) ?_
            exact absurd (g_s1 hf) (by decide)
          · replace hf := g_if hf c27
            refine lv_aload_n hx hb dL_law_199 rfl (lv_at hl 7 rfl) ?_
            obtain ⟨r28, hc29, hf⟩ := g_b1_e hf
            refine g_call (va_runS (As := [.ref G.2.2]) (rest := []) ⟨hx, hb, hml, hown, hts⟩ (mL_orders l G E21 z18  _ hc29) (cwS 1 hts gL_law_L_orders rfl rfl rfl (by decide +kernel) ⟨Nat.le_of_ble_eq_true rfl, Nat.le_of_ble_eq_true rfl⟩) (g_pre hR hK) rfl rfl hl.1 rfl (lv_room (Nat.le_of_ble_eq_true rfl)) dL_law_200 ⟨by show _ ≤ 696159; omega, by show _ ≤ 7013772; omega⟩) hS (fun w30 H locs hp hR hS => ?_)
            subst hp
            refine lv_if_eq (tgt := 226) hx hb dL_law_203 (by decide) (fun c31 => ?_) (fun c31 => ?_)
            · replace hf := g_it hf c31
              refine lv_iconst (v := 0) hx hb dL_law_226 (by decide) ?_
              exact absurd (g_s1 hf) (by decide)
            · replace hf := g_if hf c31
              refine lv_aload_n hx hb dL_law_206 rfl (lv_at hl 7 rfl) ?_
              refine lv_bipush (v := 9) hx hb dL_law_207 (by decide) ?_
              obtain ⟨r32, hc33, hf⟩ := g_b1_e hf
              refine g_call (va_runV (As := [.int (9 : Int32)]) (rest := []) ⟨hx, hb, hml, hown, hts⟩ (c9_count l G E21 z18 _ _ hc33) (cwV 1 hts gL_law_X9_count rfl rfl rfl (by decide +kernel) ⟨Nat.le_of_ble_eq_true rfl, Nat.le_of_ble_eq_true rfl⟩) (g_preV (ci := 9) hR hK (hR.2.2.2.1) rfl) rfl rfl hl.1 rfl (lv_room (Nat.le_of_ble_eq_true rfl)) dL_law_209 ⟨by show _ ≤ 696159; omega, by show _ ≤ 7013772; omega⟩) hS (fun w34 H locs hp hR hS => ?_)
              subst hp
              refine lv_if_le (tgt := 228) hx hb dL_law_212 (by decide) (fun c35 => ?_) (fun c35 => ?_)
              · replace hf := g_it hf c35
                refine lv_iload hx hb dL_law_228 (lv_at hl 1 rfl) ?_
                refine lv_if_eq (tgt := 265) hx hb dL_law_230 (by decide) (fun _ => ?_) (fun c36 => absurd (by decide) c36)
                refine lv_iinc (v := x2 + 1) (lv' := [(2, .int (x2 + 1)), (8, .long t16), (7, .int (0 : Int32)), (6, .int r11), (5, .int r8), (4, .int r5), (3, .int r2), (0, .ref b), (1, .ref G.2.2)]) hx hb dL_law_265 hl (k := 8) rfl rfl (by decide) rfl (fun ls hl => ?_)
                refine lv_goto (tgt := 100) hx hb dL_law_268 (by decide) ?_
                refine W.widen (k := 915 + 201 * (25 - n)) (n := 5768 + 1209 * (25 - n)) (by omega) (by omega) ?_
                exact ih _ ((hle1).tr hle22) _ _ _ _ _ (by omega) hf  hR hS (lv_sub hl [7, 8, 0] rfl)
              · replace hf := g_if hf c35
                refine lv_aload_n hx hb dL_law_215 rfl (lv_at hl 7 rfl) ?_
                refine lv_iload hx hb dL_law_216 (lv_at hl 4 rfl) ?_
                refine lv_iconst (v := 2) hx hb dL_law_218 (by decide) ?_
                refine lv_ishr hx hb dL_law_219 ?_
                obtain ⟨r37, z38, hc39, hf⟩ := g_bd_e hf
                refine g_call (va_runS (As := [.ref G.2.2, .int (r5 >>> ((2 : Int32) &&& 31))]) (rest := []) ⟨hx, hb, hml, hown, hts⟩ (mL_choices l G E21 z18 _ _ _ hc39) (cwS 2 hts gL_law_L_choices rfl rfl rfl (by decide +kernel) ⟨Nat.le_of_ble_eq_true rfl, Nat.le_of_ble_eq_true rfl⟩) (g_pre hR hK) rfl rfl hl.1 rfl (lv_room (Nat.le_of_ble_eq_true rfl)) dL_law_220 ⟨by show _ ≤ 696159; omega, by show _ ≤ 7013772; omega⟩) hS (fun w40 H locs hp hR hS => ?_)
                subst hp
                refine lv_if_ne (tgt := 228) hx hb dL_law_223 (by decide) (fun c41 => ?_) (fun c41 => ?_)
                · replace hf := g_it hf c41
                  refine lv_iload hx hb dL_law_228 (lv_at hl 1 rfl) ?_
                  refine lv_if_eq (tgt := 265) hx hb dL_law_230 (by decide) (fun _ => ?_) (fun c42 => absurd (by decide) c42)
                  refine lv_iinc (v := x2 + 1) (lv' := [(2, .int (x2 + 1)), (8, .long t16), (7, .int (0 : Int32)), (6, .int r11), (5, .int r8), (4, .int r5), (3, .int r2), (0, .ref b), (1, .ref G.2.2)]) hx hb dL_law_265 hl (k := 8) rfl rfl (by decide) rfl (fun ls hl => ?_)
                  refine lv_goto (tgt := 100) hx hb dL_law_268 (by decide) ?_
                  refine W.widen (k := 915 + 201 * (25 - n)) (n := 5768 + 1209 * (25 - n)) (by omega) (by omega) ?_
                  exact ih _ ((hle1).tr hle22) _ _ _ _ _ (by omega) hf  hR hS (lv_sub hl [7, 8, 0] rfl)
                · replace hf := g_if hf (fun q => q c41)
                  refine lv_iconst (v := 0) hx hb dL_law_226 (by decide) ?_
                  exact absurd (g_s1 hf) (by decide)
      · replace hf := g_if hf (fun q => q c14)
        refine lv_iload hx hb dL_law_152 (lv_at hl 0 rfl) ?_
        refine lv_iconst (v := 4) hx hb dL_law_154 (by decide) ?_
        refine lv_icmp_ge (tgt := 162) hx hb dL_law_155 (by decide) (fun c43 => ?_) (fun c43 => ?_)
        · replace hf := g_it hf c43
          refine lv_iconst (v := 0) hx hb dL_law_162 (by decide) ?_
          refine lv_istore (lv' := [(7, .int (0 : Int32)), (6, .int r11), (5, .int r8), (4, .int r5), (3, .int r2), (0, .ref b), (1, .ref G.2.2), (2, .int x2)]) hx hb dL_law_163 hl (by decide) rfl (fun ls hl => ?_)
          refine lv_iload hx hb dL_law_165 (lv_at hl 0 rfl) ?_
          refine lv_if_eq (tgt := 177) hx hb dL_law_167 (by decide) (fun _ => ?_) (fun c44 => absurd (by decide) c44)
          refine lv_lconst (v := 0) hx hb dL_law_177 (by decide) ?_
          refine lv_topl (fun t45 et45 => ?_)
          replace hf := g_let_at hf et45
          refine lv_lstore (lv' := [(8, .long t45), (7, .int (0 : Int32)), (6, .int r11), (5, .int r8), (4, .int r5), (3, .int r2), (0, .ref b), (1, .ref G.2.2), (2, .int x2)]) hx hb dL_law_178 hl (by decide) rfl (fun ls hl => ?_)
          refine lv_aload_n hx hb dL_law_180 rfl (lv_at hl 7 rfl) ?_
          refine lv_iload hx hb dL_law_181 (lv_at hl 3 rfl) ?_
          refine lv_iload_n hx hb dL_law_183 rfl (lv_at hl 5 rfl) ?_
          refine lv_iload hx hb dL_law_184 (lv_at hl 4 rfl) ?_
          obtain ⟨r46, z47, hc48, hf⟩ := g_bd_e hf
          refine g_calln (va_runS (As := [.ref G.2.2, .int r8, .int r2, .int r5]) (rest := []) ⟨hx, hb, hml, hown, hts⟩ (mL_does l G E1 z0 _ _ _ _ _ hc48) (cwS 4 hts gL_law_L_does rfl rfl rfl (by decide +kernel) ⟨Nat.le_of_ble_eq_true rfl, Nat.le_of_ble_eq_true rfl⟩) (g_pre hR hK) rfl rfl hl.1 rfl (lv_room (Nat.le_of_ble_eq_true rfl)) dL_law_186 ⟨by show _ ≤ 696159; omega, by show _ ≤ 7013772; omega⟩) hS (fun w49 E50 H locs hp hle51 hR hS => ?_)
          subst hp
          refine lv_if_eq (tgt := 226) hx hb dL_law_189 (by decide) (fun c52 => ?_) (fun c52 => ?_)
          · replace hf := g_it hf c52
            refine lv_iconst (v := 0) hx hb dL_law_226 (by decide) ?_
            exact absurd (g_s1 hf) (by decide)
          · replace hf := g_if hf c52
            refine lv_aload_n hx hb dL_law_192 rfl (lv_at hl 7 rfl) ?_
            obtain ⟨r53, hc54, hf⟩ := g_b1_e hf
            refine g_call (va_runS (As := [.ref G.2.2]) (rest := []) ⟨hx, hb, hml, hown, hts⟩ (mL_racks l G E50 z47  _ hc54) (cwS 1 hts gL_law_L_racks rfl rfl rfl (by decide +kernel) ⟨Nat.le_of_ble_eq_true rfl, Nat.le_of_ble_eq_true rfl⟩) (g_pre hR hK) rfl rfl hl.1 rfl (lv_room (Nat.le_of_ble_eq_true rfl)) dL_law_193 ⟨by show _ ≤ 696159; omega, by show _ ≤ 7013772; omega⟩) hS (fun w55 H locs hp hR hS => ?_)
            subst hp
            refine lv_if_eq (tgt := 226) hx hb dL_law_196 (by decide) (fun c56 => ?_) (fun c56 => ?_)
            · replace hf := g_it hf c56
              refine lv_iconst (v := 0) hx hb dL_law_226 (by decide) ?_
              exact absurd (g_s1 hf) (by decide)
            · replace hf := g_if hf c56
              refine lv_aload_n hx hb dL_law_199 rfl (lv_at hl 7 rfl) ?_
              obtain ⟨r57, hc58, hf⟩ := g_b1_e hf
              refine g_call (va_runS (As := [.ref G.2.2]) (rest := []) ⟨hx, hb, hml, hown, hts⟩ (mL_orders l G E50 z47  _ hc58) (cwS 1 hts gL_law_L_orders rfl rfl rfl (by decide +kernel) ⟨Nat.le_of_ble_eq_true rfl, Nat.le_of_ble_eq_true rfl⟩) (g_pre hR hK) rfl rfl hl.1 rfl (lv_room (Nat.le_of_ble_eq_true rfl)) dL_law_200 ⟨by show _ ≤ 696159; omega, by show _ ≤ 7013772; omega⟩) hS (fun w59 H locs hp hR hS => ?_)
              subst hp
              refine lv_if_eq (tgt := 226) hx hb dL_law_203 (by decide) (fun c60 => ?_) (fun c60 => ?_)
              · replace hf := g_it hf c60
                refine lv_iconst (v := 0) hx hb dL_law_226 (by decide) ?_
                exact absurd (g_s1 hf) (by decide)
              · replace hf := g_if hf c60
                refine lv_aload_n hx hb dL_law_206 rfl (lv_at hl 7 rfl) ?_
                refine lv_bipush (v := 9) hx hb dL_law_207 (by decide) ?_
                obtain ⟨r61, hc62, hf⟩ := g_b1_e hf
                refine g_call (va_runV (As := [.int (9 : Int32)]) (rest := []) ⟨hx, hb, hml, hown, hts⟩ (c9_count l G E50 z47 _ _ hc62) (cwV 1 hts gL_law_X9_count rfl rfl rfl (by decide +kernel) ⟨Nat.le_of_ble_eq_true rfl, Nat.le_of_ble_eq_true rfl⟩) (g_preV (ci := 9) hR hK (hR.2.2.2.1) rfl) rfl rfl hl.1 rfl (lv_room (Nat.le_of_ble_eq_true rfl)) dL_law_209 ⟨by show _ ≤ 696159; omega, by show _ ≤ 7013772; omega⟩) hS (fun w63 H locs hp hR hS => ?_)
                subst hp
                refine lv_if_le (tgt := 228) hx hb dL_law_212 (by decide) (fun c64 => ?_) (fun c64 => ?_)
                · replace hf := g_it hf c64
                  refine lv_iload hx hb dL_law_228 (lv_at hl 1 rfl) ?_
                  refine lv_if_eq (tgt := 265) hx hb dL_law_230 (by decide) (fun _ => ?_) (fun c65 => absurd (by decide) c65)
                  refine lv_iinc (v := x2 + 1) (lv' := [(2, .int (x2 + 1)), (8, .long t45), (7, .int (0 : Int32)), (6, .int r11), (5, .int r8), (4, .int r5), (3, .int r2), (0, .ref b), (1, .ref G.2.2)]) hx hb dL_law_265 hl (k := 8) rfl rfl (by decide) rfl (fun ls hl => ?_)
                  refine lv_goto (tgt := 100) hx hb dL_law_268 (by decide) ?_
                  refine W.widen (k := 915 + 201 * (25 - n)) (n := 5768 + 1209 * (25 - n)) (by omega) (by omega) ?_
                  exact ih _ ((hle1).tr hle51) _ _ _ _ _ (by omega) hf  hR hS (lv_sub hl [7, 8, 0] rfl)
                · replace hf := g_if hf c64
                  refine lv_aload_n hx hb dL_law_215 rfl (lv_at hl 7 rfl) ?_
                  refine lv_iload hx hb dL_law_216 (lv_at hl 4 rfl) ?_
                  refine lv_iconst (v := 2) hx hb dL_law_218 (by decide) ?_
                  refine lv_ishr hx hb dL_law_219 ?_
                  obtain ⟨r66, z67, hc68, hf⟩ := g_bd_e hf
                  refine g_call (va_runS (As := [.ref G.2.2, .int (r5 >>> ((2 : Int32) &&& 31))]) (rest := []) ⟨hx, hb, hml, hown, hts⟩ (mL_choices l G E50 z47 _ _ _ hc68) (cwS 2 hts gL_law_L_choices rfl rfl rfl (by decide +kernel) ⟨Nat.le_of_ble_eq_true rfl, Nat.le_of_ble_eq_true rfl⟩) (g_pre hR hK) rfl rfl hl.1 rfl (lv_room (Nat.le_of_ble_eq_true rfl)) dL_law_220 ⟨by show _ ≤ 696159; omega, by show _ ≤ 7013772; omega⟩) hS (fun w69 H locs hp hR hS => ?_)
                  subst hp
                  refine lv_if_ne (tgt := 228) hx hb dL_law_223 (by decide) (fun c70 => ?_) (fun c70 => ?_)
                  · replace hf := g_it hf c70
                    refine lv_iload hx hb dL_law_228 (lv_at hl 1 rfl) ?_
                    refine lv_if_eq (tgt := 265) hx hb dL_law_230 (by decide) (fun _ => ?_) (fun c71 => absurd (by decide) c71)
                    refine lv_iinc (v := x2 + 1) (lv' := [(2, .int (x2 + 1)), (8, .long t45), (7, .int (0 : Int32)), (6, .int r11), (5, .int r8), (4, .int r5), (3, .int r2), (0, .ref b), (1, .ref G.2.2)]) hx hb dL_law_265 hl (k := 8) rfl rfl (by decide) rfl (fun ls hl => ?_)
                    refine lv_goto (tgt := 100) hx hb dL_law_268 (by decide) ?_
                    refine W.widen (k := 915 + 201 * (25 - n)) (n := 5768 + 1209 * (25 - n)) (by omega) (by omega) ?_
                    exact ih _ ((hle1).tr hle51) _ _ _ _ _ (by omega) hf  hR hS (lv_sub hl [7, 8, 0] rfl)
                  · replace hf := g_if hf (fun q => q c70)
                    refine lv_iconst (v := 0) hx hb dL_law_226 (by decide) ?_
                    exact absurd (g_s1 hf) (by decide)
        · replace hf := g_if hf c43
          refine lv_iconst (v := 1) hx hb dL_law_158 (by decide) ?_
          refine lv_goto (tgt := 163) hx hb dL_law_159 (by decide) ?_
          refine lv_istore (lv' := [(7, .int (1 : Int32)), (6, .int r11), (5, .int r8), (4, .int r5), (3, .int r2), (0, .ref b), (1, .ref G.2.2), (2, .int x2)]) hx hb dL_law_163 hl (by decide) rfl (fun ls hl => ?_)
          refine lv_iload hx hb dL_law_165 (lv_at hl 0 rfl) ?_
          refine lv_if_eq (tgt := 177) hx hb dL_law_167 (by decide) (fun c72 => absurd c72 (by decide)) (fun _ => ?_)
          refine lv_aload_n hx hb dL_law_170 rfl (lv_at hl 6 rfl) ?_
          obtain ⟨r73, hc74, hf⟩ := g_b1_e hf
          refine g_call (va_runS (As := [.ref G.2.2]) (rest := []) ⟨hx, hb, hml, hown, hts⟩ (mL_digest l G E1 z0  _ hc74) (cwS 1 hts gL_law_L_digest rfl rfl rfl (by decide +kernel) ⟨Nat.le_of_ble_eq_true rfl, Nat.le_of_ble_eq_true rfl⟩) (g_pre hR hK) rfl rfl hl.1 rfl (lv_room (Nat.le_of_ble_eq_true rfl)) dL_law_171 ⟨by show _ ≤ 696159; omega, by show _ ≤ 7013772; omega⟩) hS (fun w75 H locs hp hR hS => ?_)
          subst hp
          refine lv_goto (tgt := 178) hx hb dL_law_174 (by decide) ?_
          refine lv_lstore (lv' := [(8, .long r73), (7, .int (1 : Int32)), (6, .int r11), (5, .int r8), (4, .int r5), (3, .int r2), (0, .ref b), (1, .ref G.2.2), (2, .int x2)]) hx hb dL_law_178 hl (by decide) rfl (fun ls hl => ?_)
          refine lv_aload_n hx hb dL_law_180 rfl (lv_at hl 7 rfl) ?_
          refine lv_iload hx hb dL_law_181 (lv_at hl 3 rfl) ?_
          refine lv_iload_n hx hb dL_law_183 rfl (lv_at hl 5 rfl) ?_
          refine lv_iload hx hb dL_law_184 (lv_at hl 4 rfl) ?_
          obtain ⟨r76, z77, hc78, hf⟩ := g_bd_e hf
          refine g_calln (va_runS (As := [.ref G.2.2, .int r8, .int r2, .int r5]) (rest := []) ⟨hx, hb, hml, hown, hts⟩ (mL_does l G E1 z0 _ _ _ _ _ hc78) (cwS 4 hts gL_law_L_does rfl rfl rfl (by decide +kernel) ⟨Nat.le_of_ble_eq_true rfl, Nat.le_of_ble_eq_true rfl⟩) (g_pre hR hK) rfl rfl hl.1 rfl (lv_room (Nat.le_of_ble_eq_true rfl)) dL_law_186 ⟨by show _ ≤ 696159; omega, by show _ ≤ 7013772; omega⟩) hS (fun w79 E80 H locs hp hle81 hR hS => ?_)
          subst hp
          refine lv_if_eq (tgt := 226) hx hb dL_law_189 (by decide) (fun c82 => ?_) (fun c82 => ?_)
          · replace hf := g_it hf c82
            refine lv_iconst (v := 0) hx hb dL_law_226 (by decide) ?_
            exact absurd (g_s1 hf) (by decide)
          · replace hf := g_if hf c82
            refine lv_aload_n hx hb dL_law_192 rfl (lv_at hl 7 rfl) ?_
            obtain ⟨r83, hc84, hf⟩ := g_b1_e hf
            refine g_call (va_runS (As := [.ref G.2.2]) (rest := []) ⟨hx, hb, hml, hown, hts⟩ (mL_racks l G E80 z77  _ hc84) (cwS 1 hts gL_law_L_racks rfl rfl rfl (by decide +kernel) ⟨Nat.le_of_ble_eq_true rfl, Nat.le_of_ble_eq_true rfl⟩) (g_pre hR hK) rfl rfl hl.1 rfl (lv_room (Nat.le_of_ble_eq_true rfl)) dL_law_193 ⟨by show _ ≤ 696159; omega, by show _ ≤ 7013772; omega⟩) hS (fun w85 H locs hp hR hS => ?_)
            subst hp
            refine lv_if_eq (tgt := 226) hx hb dL_law_196 (by decide) (fun c86 => ?_) (fun c86 => ?_)
            · replace hf := g_it hf c86
              refine lv_iconst (v := 0) hx hb dL_law_226 (by decide) ?_
              exact absurd (g_s1 hf) (by decide)
            · replace hf := g_if hf c86
              refine lv_aload_n hx hb dL_law_199 rfl (lv_at hl 7 rfl) ?_
              obtain ⟨r87, hc88, hf⟩ := g_b1_e hf
              refine g_call (va_runS (As := [.ref G.2.2]) (rest := []) ⟨hx, hb, hml, hown, hts⟩ (mL_orders l G E80 z77  _ hc88) (cwS 1 hts gL_law_L_orders rfl rfl rfl (by decide +kernel) ⟨Nat.le_of_ble_eq_true rfl, Nat.le_of_ble_eq_true rfl⟩) (g_pre hR hK) rfl rfl hl.1 rfl (lv_room (Nat.le_of_ble_eq_true rfl)) dL_law_200 ⟨by show _ ≤ 696159; omega, by show _ ≤ 7013772; omega⟩) hS (fun w89 H locs hp hR hS => ?_)
              subst hp
              refine lv_if_eq (tgt := 226) hx hb dL_law_203 (by decide) (fun c90 => ?_) (fun c90 => ?_)
              · replace hf := g_it hf c90
                refine lv_iconst (v := 0) hx hb dL_law_226 (by decide) ?_
                exact absurd (g_s1 hf) (by decide)
              · replace hf := g_if hf c90
                refine lv_aload_n hx hb dL_law_206 rfl (lv_at hl 7 rfl) ?_
                refine lv_bipush (v := 9) hx hb dL_law_207 (by decide) ?_
                obtain ⟨r91, hc92, hf⟩ := g_b1_e hf
                refine g_call (va_runV (As := [.int (9 : Int32)]) (rest := []) ⟨hx, hb, hml, hown, hts⟩ (c9_count l G E80 z77 _ _ hc92) (cwV 1 hts gL_law_X9_count rfl rfl rfl (by decide +kernel) ⟨Nat.le_of_ble_eq_true rfl, Nat.le_of_ble_eq_true rfl⟩) (g_preV (ci := 9) hR hK (hR.2.2.2.1) rfl) rfl rfl hl.1 rfl (lv_room (Nat.le_of_ble_eq_true rfl)) dL_law_209 ⟨by show _ ≤ 696159; omega, by show _ ≤ 7013772; omega⟩) hS (fun w93 H locs hp hR hS => ?_)
                subst hp
                refine lv_if_le (tgt := 228) hx hb dL_law_212 (by decide) (fun c94 => ?_) (fun c94 => ?_)
                · replace hf := g_it hf c94
                  refine lv_iload hx hb dL_law_228 (lv_at hl 1 rfl) ?_
                  refine lv_if_eq (tgt := 265) hx hb dL_law_230 (by decide) (fun c95 => absurd c95 (by decide)) (fun _ => ?_)
                  refine lv_aload_n hx hb dL_law_233 rfl (lv_at hl 7 rfl) ?_
                  refine lv_bipush (v := 13) hx hb dL_law_234 (by decide) ?_
                  obtain ⟨r96, hc97, hf⟩ := g_b1_e hf
                  refine g_call (va_runV (As := [.int (13 : Int32)]) (rest := []) ⟨hx, hb, hml, hown, hts⟩ (c9_count l G E80 z77 _ _ hc97) (cwV 1 hts gL_law_X9_count rfl rfl rfl (by decide +kernel) ⟨Nat.le_of_ble_eq_true rfl, Nat.le_of_ble_eq_true rfl⟩) (g_preV (ci := 9) hR hK (hR.2.2.2.1) rfl) rfl rfl hl.1 rfl (lv_room (Nat.le_of_ble_eq_true rfl)) dL_law_236 ⟨by show _ ≤ 696159; omega, by show _ ≤ 7013772; omega⟩) hS (fun w98 H locs hp hR hS => ?_)
                  subst hp
                  refine lv_iload hx hb dL_law_239 (lv_at hl 2 rfl) ?_
                  refine lv_icmp_eq (tgt := 265) hx hb dL_law_241 (by decide) (fun c99 => ?_) (fun c99 => ?_)
                  · replace hf := g_it hf c99
                    refine lv_iinc (v := x2 + 1) (lv' := [(2, .int (x2 + 1)), (8, .long r73), (7, .int (1 : Int32)), (6, .int r11), (5, .int r8), (4, .int r5), (3, .int r2), (0, .ref b), (1, .ref G.2.2)]) hx hb dL_law_265 hl (k := 8) rfl rfl (by decide) rfl (fun ls hl => ?_)
                    refine lv_goto (tgt := 100) hx hb dL_law_268 (by decide) ?_
                    refine W.widen (k := 915 + 201 * (25 - n)) (n := 5768 + 1209 * (25 - n)) (by omega) (by omega) ?_
                    exact ih _ ((hle1).tr hle81) _ _ _ _ _ (by omega) hf  hR hS (lv_sub hl [7, 8, 0] rfl)
                  · replace hf := g_if hf c99
                    refine lv_aload_n hx hb dL_law_244 rfl (lv_at hl 7 rfl) ?_
                    obtain ⟨r100, z101, hc102, hf⟩ := g_bd_e hf
                    refine g_call (va_runV (As := []) (rest := []) ⟨hx, hb, hml, hown, hts⟩ (c9_undo l G E80 z77  _ _ hc102) (cwV 0 hts gL_law_X9_undo rfl rfl rfl (by decide +kernel) ⟨Nat.le_of_ble_eq_true rfl, Nat.le_of_ble_eq_true rfl⟩) (g_preV (ci := 9) hR hK (hR.2.2.2.1) rfl) rfl rfl hl.1 rfl (lv_room (Nat.le_of_ble_eq_true rfl)) dL_law_245 ⟨by show _ ≤ 696159; omega, by show _ ≤ 7013772; omega⟩) hS (fun w103 H locs hp hR hS => ?_)
                    subst hp
                    refine lv_iload hx hb dL_law_248 (lv_at hl 2 rfl) ?_
                    refine lv_icmp_ne (tgt := 263) hx hb dL_law_250 (by decide) (fun c104 => ?_) (fun c104 => ?_)
                    · replace hf := g_it hf c104
                      refine lv_iconst (v := 0) hx hb dL_law_263 (by decide) ?_
                      exact absurd (g_s1 hf) (by decide)
                    · replace hf := g_if hf (fun q => q c104)
                      refine lv_aload_n hx hb dL_law_253 rfl (lv_at hl 7 rfl) ?_
                      obtain ⟨r105, hc106, hf⟩ := g_b1_e hf
                      refine g_call (va_runS (As := [.ref G.2.2]) (rest := []) ⟨hx, hb, hml, hown, hts⟩ (mL_digest l G E80 z101  _ hc106) (cwS 1 hts gL_law_L_digest rfl rfl rfl (by decide +kernel) ⟨Nat.le_of_ble_eq_true rfl, Nat.le_of_ble_eq_true rfl⟩) (g_pre hR hK) rfl rfl hl.1 rfl (lv_room (Nat.le_of_ble_eq_true rfl)) dL_law_254 ⟨by show _ ≤ 696159; omega, by show _ ≤ 7013772; omega⟩) hS (fun w107 H locs hp hR hS => ?_)
                      subst hp
                      refine lv_lload hx hb dL_law_257 (lv_at hl 0 rfl) ?_
                      refine W.lcmp hx hb dL_law_259 ?_
                      refine lv_if_eq (tgt := 265) hx hb dL_law_260 (by decide) (fun c108 => ?_) (fun c108 => ?_)
                      · replace hf := g_it hf c108
                        refine lv_iinc (v := x2 + 1) (lv' := [(2, .int (x2 + 1)), (8, .long r73), (7, .int (1 : Int32)), (6, .int r11), (5, .int r8), (4, .int r5), (3, .int r2), (0, .ref b), (1, .ref G.2.2)]) hx hb dL_law_265 hl (k := 8) rfl rfl (by decide) rfl (fun ls hl => ?_)
                        refine lv_goto (tgt := 100) hx hb dL_law_268 (by decide) ?_
                        refine W.widen (k := 915 + 201 * (25 - n)) (n := 5768 + 1209 * (25 - n)) (by omega) (by omega) ?_
                        exact ih _ ((hle1).tr hle81) _ _ _ _ _ (by omega) hf  hR hS (lv_sub hl [7, 8, 0] rfl)
                      · replace hf := g_if hf c108
                        refine lv_iconst (v := 0) hx hb dL_law_263 (by decide) ?_
                        exact absurd (g_s1 hf) (by decide)
                · replace hf := g_if hf c94
                  refine lv_aload_n hx hb dL_law_215 rfl (lv_at hl 7 rfl) ?_
                  refine lv_iload hx hb dL_law_216 (lv_at hl 4 rfl) ?_
                  refine lv_iconst (v := 2) hx hb dL_law_218 (by decide) ?_
                  refine lv_ishr hx hb dL_law_219 ?_
                  obtain ⟨r109, z110, hc111, hf⟩ := g_bd_e hf
                  refine g_call (va_runS (As := [.ref G.2.2, .int (r5 >>> ((2 : Int32) &&& 31))]) (rest := []) ⟨hx, hb, hml, hown, hts⟩ (mL_choices l G E80 z77 _ _ _ hc111) (cwS 2 hts gL_law_L_choices rfl rfl rfl (by decide +kernel) ⟨Nat.le_of_ble_eq_true rfl, Nat.le_of_ble_eq_true rfl⟩) (g_pre hR hK) rfl rfl hl.1 rfl (lv_room (Nat.le_of_ble_eq_true rfl)) dL_law_220 ⟨by show _ ≤ 696159; omega, by show _ ≤ 7013772; omega⟩) hS (fun w112 H locs hp hR hS => ?_)
                  subst hp
                  refine lv_if_ne (tgt := 228) hx hb dL_law_223 (by decide) (fun c113 => ?_) (fun c113 => ?_)
                  · replace hf := g_it hf c113
                    refine lv_iload hx hb dL_law_228 (lv_at hl 1 rfl) ?_
                    refine lv_if_eq (tgt := 265) hx hb dL_law_230 (by decide) (fun c114 => absurd c114 (by decide)) (fun _ => ?_)
                    refine lv_aload_n hx hb dL_law_233 rfl (lv_at hl 7 rfl) ?_
                    refine lv_bipush (v := 13) hx hb dL_law_234 (by decide) ?_
                    obtain ⟨r115, hc116, hf⟩ := g_b1_e hf
                    refine g_call (va_runV (As := [.int (13 : Int32)]) (rest := []) ⟨hx, hb, hml, hown, hts⟩ (c9_count l G E80 z110 _ _ hc116) (cwV 1 hts gL_law_X9_count rfl rfl rfl (by decide +kernel) ⟨Nat.le_of_ble_eq_true rfl, Nat.le_of_ble_eq_true rfl⟩) (g_preV (ci := 9) hR hK (hR.2.2.2.1) rfl) rfl rfl hl.1 rfl (lv_room (Nat.le_of_ble_eq_true rfl)) dL_law_236 ⟨by show _ ≤ 696159; omega, by show _ ≤ 7013772; omega⟩) hS (fun w117 H locs hp hR hS => ?_)
                    subst hp
                    refine lv_iload hx hb dL_law_239 (lv_at hl 2 rfl) ?_
                    refine lv_icmp_eq (tgt := 265) hx hb dL_law_241 (by decide) (fun c118 => ?_) (fun c118 => ?_)
                    · replace hf := g_it hf c118
                      refine lv_iinc (v := x2 + 1) (lv' := [(2, .int (x2 + 1)), (8, .long r73), (7, .int (1 : Int32)), (6, .int r11), (5, .int r8), (4, .int r5), (3, .int r2), (0, .ref b), (1, .ref G.2.2)]) hx hb dL_law_265 hl (k := 8) rfl rfl (by decide) rfl (fun ls hl => ?_)
                      refine lv_goto (tgt := 100) hx hb dL_law_268 (by decide) ?_
                      refine W.widen (k := 915 + 201 * (25 - n)) (n := 5768 + 1209 * (25 - n)) (by omega) (by omega) ?_
                      exact ih _ ((hle1).tr hle81) _ _ _ _ _ (by omega) hf  hR hS (lv_sub hl [7, 8, 0] rfl)
                    · replace hf := g_if hf c118
                      refine lv_aload_n hx hb dL_law_244 rfl (lv_at hl 7 rfl) ?_
                      obtain ⟨r119, z120, hc121, hf⟩ := g_bd_e hf
                      refine g_call (va_runV (As := []) (rest := []) ⟨hx, hb, hml, hown, hts⟩ (c9_undo l G E80 z110  _ _ hc121) (cwV 0 hts gL_law_X9_undo rfl rfl rfl (by decide +kernel) ⟨Nat.le_of_ble_eq_true rfl, Nat.le_of_ble_eq_true rfl⟩) (g_preV (ci := 9) hR hK (hR.2.2.2.1) rfl) rfl rfl hl.1 rfl (lv_room (Nat.le_of_ble_eq_true rfl)) dL_law_245 ⟨by show _ ≤ 696159; omega, by show _ ≤ 7013772; omega⟩) hS (fun w122 H locs hp hR hS => ?_)
                      subst hp
                      refine lv_iload hx hb dL_law_248 (lv_at hl 2 rfl) ?_
                      refine lv_icmp_ne (tgt := 263) hx hb dL_law_250 (by decide) (fun c123 => ?_) (fun c123 => ?_)
                      · replace hf := g_it hf c123
                        refine lv_iconst (v := 0) hx hb dL_law_263 (by decide) ?_
                        exact absurd (g_s1 hf) (by decide)
                      · replace hf := g_if hf (fun q => q c123)
                        refine lv_aload_n hx hb dL_law_253 rfl (lv_at hl 7 rfl) ?_
                        obtain ⟨r124, hc125, hf⟩ := g_b1_e hf
                        refine g_call (va_runS (As := [.ref G.2.2]) (rest := []) ⟨hx, hb, hml, hown, hts⟩ (mL_digest l G E80 z120  _ hc125) (cwS 1 hts gL_law_L_digest rfl rfl rfl (by decide +kernel) ⟨Nat.le_of_ble_eq_true rfl, Nat.le_of_ble_eq_true rfl⟩) (g_pre hR hK) rfl rfl hl.1 rfl (lv_room (Nat.le_of_ble_eq_true rfl)) dL_law_254 ⟨by show _ ≤ 696159; omega, by show _ ≤ 7013772; omega⟩) hS (fun w126 H locs hp hR hS => ?_)
                        subst hp
                        refine lv_lload hx hb dL_law_257 (lv_at hl 0 rfl) ?_
                        refine W.lcmp hx hb dL_law_259 ?_
                        refine lv_if_eq (tgt := 265) hx hb dL_law_260 (by decide) (fun c127 => ?_) (fun c127 => ?_)
                        · replace hf := g_it hf c127
                          refine lv_iinc (v := x2 + 1) (lv' := [(2, .int (x2 + 1)), (8, .long r73), (7, .int (1 : Int32)), (6, .int r11), (5, .int r8), (4, .int r5), (3, .int r2), (0, .ref b), (1, .ref G.2.2)]) hx hb dL_law_265 hl (k := 8) rfl rfl (by decide) rfl (fun ls hl => ?_)
                          refine lv_goto (tgt := 100) hx hb dL_law_268 (by decide) ?_
                          refine W.widen (k := 915 + 201 * (25 - n)) (n := 5768 + 1209 * (25 - n)) (by omega) (by omega) ?_
                          exact ih _ ((hle1).tr hle81) _ _ _ _ _ (by omega) hf  hR hS (lv_sub hl [7, 8, 0] rfl)
                        · replace hf := g_if hf c127
                          refine lv_iconst (v := 0) hx hb dL_law_263 (by decide) ?_
                          exact absurd (g_s1 hf) (by decide)
                  · replace hf := g_if hf (fun q => q c113)
                    refine lv_iconst (v := 0) hx hb dL_law_226 (by decide) ?_
                    exact absurd (g_s1 hf) (by decide)
set_option maxHeartbeats 16000000 in
set_option maxRecDepth 100000 in
/-- from behind the constructor -/
theorem law_from {p : Program} {l : Launch} {e : Env} {s : State} {m : MethodId} {below : List Frame} {meth : Method} {c : Code} {b L : Nat} {xs : Nat → Int32} (G : gG) (hG : G.2.2 = s.heap.size) (hK : g_K G s) (C0 : lw_At p s m meth c b L xs) (z0 : gMu) (H : Heap) (locs : List Loc) (ls : Array Slot) (hf : fL_law8 xs L z0 = some 1) (hR : g_R G g_E0 z0 H) (hS : va_S (g_A G) s.heap H locs) (hl : lv_has ls 10 [(1, .ref G.2.2), (0, .ref b)]) : W p l e room_1 s m #[Value.ref b] below meth c H locs 54 602 (lw_Z below #[Value.ref b] s) (F0 m 8 ls []) := by
  obtain ⟨hx, hb, hr, hml, hown, hts, hX, hbl, hlocks, hgv⟩ := id C0
  have hown : s.vm.findClass RL = some m.cls := hown
  have hbA : ¬ g_A G b := fun q => by
    have q : G.2.2 ≤ b := q
    omega
  have ld_115 := hts (.constant RL 115 (196608)) (by decide +kernel)
  unfold fL_law8 at hf
  refine lv_aload_n hx hb dL_law_8 rfl (lv_at hl 0 rfl) ?_
  obtain ⟨r128, z129, hc130, hf⟩ := g_bd_e hf
  refine g_call (va_runV (As := []) (rest := []) ⟨hx, hb, hml, hown, hts⟩ (c9_undo l G g_E0 z0  _ _ hc130) (cwV 0 hts gL_law_X9_undo rfl rfl rfl (by decide +kernel) ⟨Nat.le_of_ble_eq_true rfl, Nat.le_of_ble_eq_true rfl⟩) (g_preV (ci := 9) hR hK (hR.2.2.2.1) rfl) rfl rfl hl.1 rfl (lv_room (Nat.le_of_ble_eq_true rfl)) dL_law_9 ⟨by show _ ≤ 696159; omega, by show _ ≤ 7013772; omega⟩) hS (fun w131 H locs hp hR hS => ?_)
  subst hp
  refine lv_bipush (v := -5) hx hb dL_law_12 (by decide) ?_
  refine lv_icmp_ne (tgt := 96) hx hb dL_law_14 (by decide) (fun c132 => ?_) (fun c132 => ?_)
  · replace hf := g_it hf c132
    refine lv_iconst (v := 0) hx hb dL_law_96 (by decide) ?_
    exact absurd (g_s1 hf) (by decide)
  · replace hf := g_if hf (fun q => q c132)
    refine lv_aload_n hx hb dL_law_17 rfl (lv_at hl 0 rfl) ?_
    obtain ⟨r133, z134, hc135, hf⟩ := g_bd_e hf
    refine g_call (va_runV (As := []) (rest := []) ⟨hx, hb, hml, hown, hts⟩ (c9_restore l G g_E0 z129  _ _ hc135) (cwV 0 hts gL_law_X9_restore rfl rfl rfl (by decide +kernel) ⟨Nat.le_of_ble_eq_true rfl, Nat.le_of_ble_eq_true rfl⟩) (g_preV (ci := 9) hR hK (hR.2.2.2.1) rfl) rfl rfl hl.1 rfl (lv_room (Nat.le_of_ble_eq_true rfl)) dL_law_18 ⟨by show _ ≤ 696159; omega, by show _ ≤ 7013772; omega⟩) hS (fun w136 H locs hp hR hS => ?_)
    subst hp
    refine lv_bipush (v := -5) hx hb dL_law_21 (by decide) ?_
    refine lv_icmp_ne (tgt := 96) hx hb dL_law_23 (by decide) (fun c137 => ?_) (fun c137 => ?_)
    · replace hf := g_it hf c137
      refine lv_iconst (v := 0) hx hb dL_law_96 (by decide) ?_
      exact absurd (g_s1 hf) (by decide)
    · replace hf := g_if hf (fun q => q c137)
      refine lv_aload_n hx hb dL_law_26 rfl (lv_at hl 0 rfl) ?_
      obtain ⟨r138, z139, hc140, hf⟩ := g_bd_e hf
      refine g_calln (va_runV (As := []) (rest := []) ⟨hx, hb, hml, hown, hts⟩ (c9_perform l G g_E0 z134  _ _ hc140) (cwV 0 hts gL_law_X9_perform rfl rfl rfl (by decide +kernel) ⟨Nat.le_of_ble_eq_true rfl, Nat.le_of_ble_eq_true rfl⟩) (g_preV (ci := 9) hR hK (hR.2.2.2.1) rfl) rfl rfl hl.1 rfl (lv_room (Nat.le_of_ble_eq_true rfl)) dL_law_27 ⟨by show _ ≤ 696159; omega, by show _ ≤ 7013772; omega⟩) hS (fun w141 E142 H locs hp hle143 hR hS => ?_)
      subst hp
      refine lv_bipush (v := -100) hx hb dL_law_30 (by decide) ?_
      refine lv_icmp_ne (tgt := 96) hx hb dL_law_32 (by decide) (fun c144 => ?_) (fun c144 => ?_)
      · replace hf := g_it hf c144
        refine lv_iconst (v := 0) hx hb dL_law_96 (by decide) ?_
        exact absurd (g_s1 hf) (by decide)
      · replace hf := g_if hf (fun q => q c144)
        refine lv_aload_n hx hb dL_law_35 rfl (lv_at hl 0 rfl) ?_
        refine lv_iconst (v := 0) hx hb dL_law_36 (by decide) ?_
        obtain ⟨r145, z146, hc147, hf⟩ := g_bd_e hf
        refine g_calln (va_runV (As := [.int (0 : Int32)]) (rest := []) ⟨hx, hb, hml, hown, hts⟩ (c9_plan l G E142 z139 _ _ _ hc147) (cwV 1 hts gL_law_X9_plan rfl rfl rfl (by decide +kernel) ⟨Nat.le_of_ble_eq_true rfl, Nat.le_of_ble_eq_true rfl⟩) (g_preV (ci := 9) hR hK (hR.2.2.2.1) rfl) rfl rfl hl.1 rfl (lv_room (Nat.le_of_ble_eq_true rfl)) dL_law_37 ⟨by show _ ≤ 696159; omega, by show _ ≤ 7013772; omega⟩) hS (fun w148 E149 H locs hp hle150 hR hS => ?_)
        subst hp
        refine lv_bipush (v := -5) hx hb dL_law_40 (by decide) ?_
        refine lv_icmp_ne (tgt := 96) hx hb dL_law_42 (by decide) (fun c151 => ?_) (fun c151 => ?_)
        · replace hf := g_it hf c151
          refine lv_iconst (v := 0) hx hb dL_law_96 (by decide) ?_
          exact absurd (g_s1 hf) (by decide)
        · replace hf := g_if hf (fun q => q c151)
          refine lv_aload_n hx hb dL_law_45 rfl (lv_at hl 0 rfl) ?_
          refine lv_iconst (v := 0) hx hb dL_law_46 (by decide) ?_
          obtain ⟨r152, hc153, hf⟩ := g_b1_e hf
          refine g_call (va_runV (As := [.int (0 : Int32)]) (rest := []) ⟨hx, hb, hml, hown, hts⟩ (c9_next l G E149 z146 _ _ hc153) (cwV 1 hts gL_law_X9_next rfl rfl rfl (by decide +kernel) ⟨Nat.le_of_ble_eq_true rfl, Nat.le_of_ble_eq_true rfl⟩) (g_preV (ci := 9) hR hK (hR.2.2.2.1) rfl) rfl rfl hl.1 rfl (lv_room (Nat.le_of_ble_eq_true rfl)) dL_law_47 ⟨by show _ ≤ 696159; omega, by show _ ≤ 7013772; omega⟩) hS (fun w154 H locs hp hR hS => ?_)
          subst hp
          refine lv_bipush (v := -5) hx hb dL_law_50 (by decide) ?_
          refine lv_icmp_ne (tgt := 96) hx hb dL_law_52 (by decide) (fun c155 => ?_) (fun c155 => ?_)
          · replace hf := g_it hf c155
            refine lv_iconst (v := 0) hx hb dL_law_96 (by decide) ?_
            exact absurd (g_s1 hf) (by decide)
          · replace hf := g_if hf (fun q => q c155)
            refine lv_aload_n hx hb dL_law_55 rfl (lv_at hl 0 rfl) ?_
            refine lv_iconst (v := 0) hx hb dL_law_56 (by decide) ?_
            refine lv_iconst (v := 0) hx hb dL_law_57 (by decide) ?_
            obtain ⟨r156, z157, hc158, hf⟩ := g_bd_e hf
            refine g_calln (va_runV (As := [.int (0 : Int32), .int (0 : Int32)]) (rest := []) ⟨hx, hb, hml, hown, hts⟩ (c9_cut l G E149 z146 _ _ _ _ hc158) (cwV 2 hts gL_law_X9_cut rfl rfl rfl (by decide +kernel) ⟨Nat.le_of_ble_eq_true rfl, Nat.le_of_ble_eq_true rfl⟩) (g_preV (ci := 9) hR hK (hR.2.2.2.1) rfl) rfl rfl hl.1 rfl (lv_room (Nat.le_of_ble_eq_true rfl)) dL_law_58 ⟨by show _ ≤ 696159; omega, by show _ ≤ 7013772; omega⟩) hS (fun w159 E160 H locs hp hle161 hR hS => ?_)
            subst hp
            refine lv_iconst (v := -1) hx hb dL_law_61 (by decide) ?_
            refine lv_icmp_ne (tgt := 96) hx hb dL_law_62 (by decide) (fun c162 => ?_) (fun c162 => ?_)
            · replace hf := g_it hf c162
              refine lv_iconst (v := 0) hx hb dL_law_96 (by decide) ?_
              exact absurd (g_s1 hf) (by decide)
            · replace hf := g_if hf (fun q => q c162)
              refine lv_aload_n hx hb dL_law_65 rfl (lv_at hl 0 rfl) ?_
              refine lv_iconst (v := 0) hx hb dL_law_66 (by decide) ?_
              obtain ⟨r163, z164, hc165, hf⟩ := g_bd_e hf
              refine g_call (va_runV (As := [.int (0 : Int32)]) (rest := []) ⟨hx, hb, hml, hown, hts⟩ (c9_scrap l G E160 z157 _ _ _ hc165) (cwV 1 hts gL_law_X9_scrap rfl rfl rfl (by decide +kernel) ⟨Nat.le_of_ble_eq_true rfl, Nat.le_of_ble_eq_true rfl⟩) (g_preV (ci := 9) hR hK (hR.2.2.2.1) rfl) rfl rfl hl.1 rfl (lv_room (Nat.le_of_ble_eq_true rfl)) dL_law_67 ⟨by show _ ≤ 696159; omega, by show _ ≤ 7013772; omega⟩) hS (fun w166 H locs hp hR hS => ?_)
              subst hp
              refine lv_iconst (v := -1) hx hb dL_law_70 (by decide) ?_
              refine lv_icmp_ne (tgt := 96) hx hb dL_law_71 (by decide) (fun c167 => ?_) (fun c167 => ?_)
              · replace hf := g_it hf c167
                refine lv_iconst (v := 0) hx hb dL_law_96 (by decide) ?_
                exact absurd (g_s1 hf) (by decide)
              · replace hf := g_if hf (fun q => q c167)
                refine lv_aload_n hx hb dL_law_74 rfl (lv_at hl 0 rfl) ?_
                refine lv_bipush (v := 15) hx hb dL_law_75 (by decide) ?_
                obtain ⟨r168, hc169, hf⟩ := g_b1_e hf
                refine g_call (va_runV (As := [.int (15 : Int32)]) (rest := []) ⟨hx, hb, hml, hown, hts⟩ (c9_count l G E160 z164 _ _ hc169) (cwV 1 hts gL_law_X9_count rfl rfl rfl (by decide +kernel) ⟨Nat.le_of_ble_eq_true rfl, Nat.le_of_ble_eq_true rfl⟩) (g_preV (ci := 9) hR hK (hR.2.2.2.1) rfl) rfl rfl hl.1 rfl (lv_room (Nat.le_of_ble_eq_true rfl)) dL_law_77 ⟨by show _ ≤ 696159; omega, by show _ ≤ 7013772; omega⟩) hS (fun w170 H locs hp hR hS => ?_)
                subst hp
                refine lv_bipush (v := -2) hx hb dL_law_80 (by decide) ?_
                refine lv_icmp_ne (tgt := 96) hx hb dL_law_82 (by decide) (fun c171 => ?_) (fun c171 => ?_)
                · replace hf := g_it hf c171
                  refine lv_iconst (v := 0) hx hb dL_law_96 (by decide) ?_
                  exact absurd (g_s1 hf) (by decide)
                · replace hf := g_if hf (fun q => q c171)
                  refine lv_aload_n hx hb dL_law_85 rfl (lv_at hl 0 rfl) ?_
                  refine lv_iconst (v := 5) hx hb dL_law_86 (by decide) ?_
                  refine lv_iconst (v := 0) hx hb dL_law_87 (by decide) ?_
                  obtain ⟨r172, z173, hc174, hf⟩ := g_bd_e hf
                  refine g_call (va_runV (As := [.int (5 : Int32), .int (0 : Int32)]) (rest := []) ⟨hx, hb, hml, hown, hts⟩ (c9_set l G E160 z164 _ _ _ _ hc174) (cwV 2 hts gL_law_X9_set rfl rfl rfl (by decide +kernel) ⟨Nat.le_of_ble_eq_true rfl, Nat.le_of_ble_eq_true rfl⟩) (g_preV (ci := 9) hR hK (hR.2.2.2.1) rfl) rfl rfl hl.1 rfl (lv_room (Nat.le_of_ble_eq_true rfl)) dL_law_88 ⟨by show _ ≤ 696159; omega, by show _ ≤ 7013772; omega⟩) hS (fun w175 H locs hp hR hS => ?_)
                  subst hp
                  refine lv_bipush (v := -2) hx hb dL_law_91 (by decide) ?_
                  refine lv_icmp_eq (tgt := 98) hx hb dL_law_93 (by decide) (fun c176 => ?_) (fun c176 => ?_)
                  · replace hf := g_it hf c176
                    refine lv_iconst (v := 0) hx hb dL_law_98 (by decide) ?_
                    refine lv_istore_n (lv' := [(2, .int (0 : Int32)), (1, .ref G.2.2), (0, .ref b)]) hx hb dL_law_99 rfl hl (by decide) rfl (fun ls hl => ?_)
                    refine W.widen (k := 915 + 201 * (25 - 25)) (n := 5768 + 1209 * (25 - 25)) (by omega) (by omega) ?_
                    exact law_loop G hG hK C0 25 _ ((((((g_le.rf).tr hle143)).tr hle150)).tr hle161) _ _ _ _ _ (Nat.le_refl _) hf  hR hS (lv_sub hl [2, 1, 0] rfl)
                  · replace hf := g_if hf c176
                    refine lv_iconst (v := 0) hx hb dL_law_96 (by decide) ?_
                    exact absurd (g_s1 hf) (by decide)
