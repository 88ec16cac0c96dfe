def fL_law (xs : Nat → Int32) (L : Nat) : Nat → gMu → Int32 → Option (Int32)
  | 0, _, _ => none
  | n + 1, z0, x3 =>
  if ((Int32.ofNat L) - (5 : Int32)) < x3 then
    some (1 : Int32)
  else
    if g_in x3 L then
    g_let ((xs x3.toNatClampNeg) &&& (31 : Int32)) fun t3 =>
    if t3 = (0 : Int32) then
      if g_in (x3 + (1 : Int32)) L then
      if g_in (x3 + (2 : Int32)) L then
      g_bd (f9_set z0 (xs (x3 + (1 : Int32)).toNatClampNeg) (xs (x3 + (2 : Int32)).toNatClampNeg)) fun r6 z7 =>
      if g_in (x3 + (1 : Int32)) L then
      if g_in (x3 + (2 : Int32)) L then
      g_bd (f10_set z7.2.2.2.2 (xs (x3 + (1 : Int32)).toNatClampNeg) (xs (x3 + (2 : Int32)).toNatClampNeg)) fun r12 z13 =>
      g_let (g_setM z7 z13) fun z16 =>
      if r6 = r12 then
        fL_law xs L n z16 (x3 + 5)
      else
        some (0 : Int32)
      else none
      else none
      else none
      else none
    else
      if t3 = (1 : Int32) then
        if g_in (x3 + (1 : Int32)) L then
        if g_in (x3 + (2 : Int32)) L then
        if g_in (x3 + (3 : Int32)) L then
        if g_in (x3 + (4 : Int32)) L then
        g_bd (f9_buy z0 (xs (x3 + (1 : Int32)).toNatClampNeg) (xs (x3 + (2 : Int32)).toNatClampNeg) (xs (x3 + (3 : Int32)).toNatClampNeg) (xs (x3 + (4 : Int32)).toNatClampNeg)) fun r22 z23 =>
        if g_in (x3 + (1 : Int32)) L then
        if g_in (x3 + (2 : Int32)) L then
        if g_in (x3 + (3 : Int32)) L then
        if g_in (x3 + (4 : Int32)) L then
        g_bd (f10_buy z23.2.2.2.2 (xs (x3 + (1 : Int32)).toNatClampNeg) (xs (x3 + (2 : Int32)).toNatClampNeg) (xs (x3 + (3 : Int32)).toNatClampNeg) (xs (x3 + (4 : Int32)).toNatClampNeg)) fun r32 z33 =>
        g_let (g_setM z23 z33) fun z36 =>
        if r22 = r32 then
          fL_law xs L n z36 (x3 + 5)
        else
          some (0 : Int32)
        else none
        else none
        else none
        else none
        else none
        else none
        else none
        else none
      else
        if t3 = (2 : Int32) then
          if g_in (x3 + (1 : Int32)) L then
          if g_in (x3 + (2 : Int32)) L then
          g_bd (f9_move z0 (xs (x3 + (1 : Int32)).toNatClampNeg) (xs (x3 + (2 : Int32)).toNatClampNeg)) fun r40 z41 =>
          if g_in (x3 + (1 : Int32)) L then
          if g_in (x3 + (2 : Int32)) L then
          g_bd (f10_move z41.2.2.2.2 (xs (x3 + (1 : Int32)).toNatClampNeg) (xs (x3 + (2 : Int32)).toNatClampNeg)) fun r46 z47 =>
          g_let (g_setM z41 z47) fun z50 =>
          if r40 = r46 then
            fL_law xs L n z50 (x3 + 5)
          else
            some (0 : Int32)
          else none
          else none
          else none
          else none
        else
          if t3 = (3 : Int32) then
            if g_in (x3 + (1 : Int32)) L then
            g_bd (f9_scrap z0 (xs (x3 + (1 : Int32)).toNatClampNeg)) fun r53 z54 =>
            if g_in (x3 + (1 : Int32)) L then
            g_bd (f10_scrap z54.2.2.2.2 (xs (x3 + (1 : Int32)).toNatClampNeg)) fun r58 z59 =>
            g_let (g_setM z54 z59) fun z62 =>
            if r53 = r58 then
              fL_law xs L n z62 (x3 + 5)
            else
              some (0 : Int32)
            else none
            else none
          else
            if t3 = (4 : Int32) then
              if g_in (x3 + (1 : Int32)) L then
              if g_in (x3 + (2 : Int32)) L then
              if g_in (x3 + (3 : Int32)) L then
              if g_in (x3 + (4 : Int32)) L then
              g_bd (f9_order z0 (xs (x3 + (1 : Int32)).toNatClampNeg) (xs (x3 + (2 : Int32)).toNatClampNeg) (xs (x3 + (3 : Int32)).toNatClampNeg) (xs (x3 + (4 : Int32)).toNatClampNeg)) fun r68 z69 =>
              if g_in (x3 + (1 : Int32)) L then
              if g_in (x3 + (2 : Int32)) L then
              if g_in (x3 + (3 : Int32)) L then
              if g_in (x3 + (4 : Int32)) L then
              g_bd (f10_order z69.2.2.2.2 (xs (x3 + (1 : Int32)).toNatClampNeg) (xs (x3 + (2 : Int32)).toNatClampNeg) (xs (x3 + (3 : Int32)).toNatClampNeg) (xs (x3 + (4 : Int32)).toNatClampNeg)) fun r78 z79 =>
              g_let (g_setM z69 z79) fun z82 =>
              if r68 = r78 then
                fL_law xs L n z82 (x3 + 5)
              else
                some (0 : Int32)
              else none
              else none
              else none
              else none
              else none
              else none
              else none
              else none
            else
              if t3 = (5 : Int32) then
                if g_in (x3 + (1 : Int32)) L then
                g_bd (f9_cancel z0 (xs (x3 + (1 : Int32)).toNatClampNeg)) fun r85 z86 =>
                if g_in (x3 + (1 : Int32)) L then
                g_bd (f10_cancel z86.2.2.2.2 (xs (x3 + (1 : Int32)).toNatClampNeg)) fun r92 z93 =>
                g_let (g_setM z86 z93) fun z96 =>
                if r85 = r92 then
                  fL_law xs L n z96 (x3 + 5)
                else
                  some (0 : Int32)
                else none
                else none
              else
                if t3 = (6 : Int32) then
                  if g_in (x3 + (1 : Int32)) L then
                  if g_in (x3 + (2 : Int32)) L then
                  g_bd (f9_cut z0 (xs (x3 + (1 : Int32)).toNatClampNeg) (xs (x3 + (2 : Int32)).toNatClampNeg)) fun r100 z101 =>
                  if g_in (x3 + (1 : Int32)) L then
                  if g_in (x3 + (2 : Int32)) L then
                  g_bd (f10_cut z101.2.2.2.2 (xs (x3 + (1 : Int32)).toNatClampNeg) (xs (x3 + (2 : Int32)).toNatClampNeg)) fun r108 z109 =>
                  g_let (g_setM z101 z109) fun z112 =>
                  if r100 = r108 then
                    fL_law xs L n z112 (x3 + 5)
                  else
                    some (0 : Int32)
                  else none
                  else none
                  else none
                  else none
                else
                  if t3 = (7 : Int32) then
                    if g_in (x3 + (1 : Int32)) L then
                    g_bd (f9_plan z0 (xs (x3 + (1 : Int32)).toNatClampNeg)) fun r115 z116 =>
                    if g_in (x3 + (1 : Int32)) L then
                    g_bd (f10_plan z116.2.2.2.2 (xs (x3 + (1 : Int32)).toNatClampNeg)) fun r122 z123 =>
                    g_let (g_setM z116 z123) fun z126 =>
                    if r115 = r122 then
                      fL_law xs L n z126 (x3 + 5)
                    else
                      some (0 : Int32)
                    else none
                    else none
                  else
                    if t3 = (8 : Int32) then
                      if g_in (x3 + (1 : Int32)) L then
                      g_bd (f9_pass z0 (xs (x3 + (1 : Int32)).toNatClampNeg)) fun r129 z130 =>
                      if g_in (x3 + (1 : Int32)) L then
                      g_bd (f10_pass z130.2.2.2.2 (xs (x3 + (1 : Int32)).toNatClampNeg)) fun r134 z135 =>
                      g_let (g_setM z130 z135) fun z138 =>
                      if r129 = r134 then
                        fL_law xs L n z138 (x3 + 5)
                      else
                        some (0 : Int32)
                      else none
                      else none
                    else
                      if t3 = (9 : Int32) then
                        g_bd (f9_perform z0) fun r140 z141 =>
                        g_bd (f10_perform z141.2.2.2.2) fun r146 z147 =>
                        g_let (g_setM z141 z147) fun z150 =>
                        if r140 = r146 then
                          fL_law xs L n z150 (x3 + 5)
                        else
                          some (0 : Int32)
                      else
                        if t3 = (10 : Int32) then
                          if g_in (x3 + (1 : Int32)) L then
                          g_bd (f9_type z0 (((xs (x3 + (1 : Int32)).toNatClampNeg).toUInt32 % 65536).toInt32)) fun r153 z154 =>
                          if g_in (x3 + (1 : Int32)) L then
                          g_bd (f10_type z154.2.2.2.2 (((xs (x3 + (1 : Int32)).toNatClampNeg).toUInt32 % 65536).toInt32)) fun r158 z159 =>
                          g_let (g_setM z154 z159) fun z162 =>
                          if r153 = r158 then
                            fL_law xs L n z162 (x3 + 5)
                          else
                            some (0 : Int32)
                          else none
                          else none
                        else
                          if t3 = (11 : Int32) then
                            g_bd (f9_clearText z0) fun r164 z165 =>
                            g_bd (f10_clearText z165.2.2.2.2) fun r168 z169 =>
                            g_let (g_setM z165 z169) fun z172 =>
                            if r164 = r168 then
                              fL_law xs L n z172 (x3 + 5)
                            else
                              some (0 : Int32)
                          else
                            if t3 = (12 : Int32) then
                              g_bd (f9_undo z0) fun r174 z175 =>
                              g_bd (f10_undo z175.2.2.2.2) fun r178 z179 =>
                              g_let (g_setM z175 z179) fun z182 =>
                              if r174 = r178 then
                                fL_law xs L n z182 (x3 + 5)
                              else
                                some (0 : Int32)
                            else
                              if t3 = (13 : Int32) then
                                g_bd (f9_keep z0) fun r184 z185 =>
                                g_bd (f10_keep z185.2.2.2.2) fun r188 z189 =>
                                g_let (g_setM z185 z189) fun z192 =>
                                if r184 = r188 then
                                  fL_law xs L n z192 (x3 + 5)
                                else
                                  some (0 : Int32)
                              else
                                if t3 = (14 : Int32) then
                                  g_bd (f9_restore z0) fun r194 z195 =>
                                  g_bd (f10_restore z195.2.2.2.2) fun r198 z199 =>
                                  g_let (g_setM z195 z199) fun z202 =>
                                  if r194 = r198 then
                                    fL_law xs L n z202 (x3 + 5)
                                  else
                                    some (0 : Int32)
                                else
                                  if t3 = (15 : Int32) then
                                    if g_in (x3 + (1 : Int32)) L then
                                    if g_in (x3 + (2 : Int32)) L then
                                    g_b1 (f9_sheet z0 (xs (x3 + (1 : Int32)).toNatClampNeg) (xs (x3 + (2 : Int32)).toNatClampNeg)) fun r206 =>
                                    if g_in (x3 + (1 : Int32)) L then
                                    if g_in (x3 + (2 : Int32)) L then
                                    g_b1 (f10_sheet z0.2.2.2.2 (xs (x3 + (1 : Int32)).toNatClampNeg) (xs (x3 + (2 : Int32)).toNatClampNeg)) fun r211 =>
                                    if r206 = r211 then
                                      fL_law xs L n z0 (x3 + 5)
                                    else
                                      some (0 : Int32)
                                    else none
                                    else none
                                    else none
                                    else none
                                  else
                                    if t3 = (16 : Int32) then
                                      if g_in (x3 + (1 : Int32)) L then
                                      if g_in (x3 + (2 : Int32)) L then
                                      g_b1 (f9_at z0 (xs (x3 + (1 : Int32)).toNatClampNeg) (xs (x3 + (2 : Int32)).toNatClampNeg)) fun r217 =>
                                      if g_in (x3 + (1 : Int32)) L then
                                      if g_in (x3 + (2 : Int32)) L then
                                      g_b1 (f10_at z0.2.2.2.2 (xs (x3 + (1 : Int32)).toNatClampNeg) (xs (x3 + (2 : Int32)).toNatClampNeg)) fun r222 =>
                                      if r217 = r222 then
                                        fL_law xs L n z0 (x3 + 5)
                                      else
                                        some (0 : Int32)
                                      else none
                                      else none
                                      else none
                                      else none
                                    else
                                      if t3 = (17 : Int32) then
                                        if g_in (x3 + (1 : Int32)) L then
                                        if g_in (x3 + (2 : Int32)) L then
                                        g_b1 (f9_ordered z0 (xs (x3 + (1 : Int32)).toNatClampNeg) (xs (x3 + (2 : Int32)).toNatClampNeg)) fun r228 =>
                                        if g_in (x3 + (1 : Int32)) L then
                                        if g_in (x3 + (2 : Int32)) L then
                                        g_b1 (f10_ordered z0.2.2.2.2 (xs (x3 + (1 : Int32)).toNatClampNeg) (xs (x3 + (2 : Int32)).toNatClampNeg)) fun r233 =>
                                        if r228 = r233 then
                                          fL_law xs L n z0 (x3 + 5)
                                        else
                                          some (0 : Int32)
                                        else none
                                        else none
                                        else none
                                        else none
                                      else
                                        if t3 = (18 : Int32) then
                                          if g_in (x3 + (1 : Int32)) L then
                                          if g_in (x3 + (2 : Int32)) L then
                                          if g_in (x3 + (3 : Int32)) L then
                                          g_bd (f9_would z0 (xs (x3 + (1 : Int32)).toNatClampNeg) (xs (x3 + (2 : Int32)).toNatClampNeg) (xs (x3 + (3 : Int32)).toNatClampNeg)) fun r240 z241 =>
                                          if g_in (x3 + (1 : Int32)) L then
                                          if g_in (x3 + (2 : Int32)) L then
                                          if g_in (x3 + (3 : Int32)) L then
                                          g_b1 (f10_would z241.2.2.2.2 (xs (x3 + (1 : Int32)).toNatClampNeg) (xs (x3 + (2 : Int32)).toNatClampNeg) (xs (x3 + (3 : Int32)).toNatClampNeg)) fun r247 =>
                                          if r240 = r247 then
                                            fL_law xs L n z241 (x3 + 5)
                                          else
                                            some (0 : Int32)
                                          else none
                                          else none
                                          else none
                                          else none
                                          else none
                                          else none
                                        else
                                          if t3 = (19 : Int32) then
                                            if g_in (x3 + (1 : Int32)) L then
                                            if g_in (x3 + (2 : Int32)) L then
                                            g_bd (f9_choice z0 (xs (x3 + (1 : Int32)).toNatClampNeg) (xs (x3 + (2 : Int32)).toNatClampNeg)) fun r253 z254 =>
                                            if g_in (x3 + (1 : Int32)) L then
                                            if g_in (x3 + (2 : Int32)) L then
                                            g_b1 (f10_choice z254.2.2.2.2 (xs (x3 + (1 : Int32)).toNatClampNeg) (xs (x3 + (2 : Int32)).toNatClampNeg)) fun r259 =>
                                            if r253 = r259 then
                                              fL_law xs L n z254 (x3 + 5)
                                            else
                                              some (0 : Int32)
                                            else none
                                            else none
                                            else none
                                            else none
                                          else
                                            if t3 = (20 : Int32) then
                                              if g_in (x3 + (1 : Int32)) L then
                                              g_b1 (f9_next z0 (xs (x3 + (1 : Int32)).toNatClampNeg)) fun r264 =>
                                              if g_in (x3 + (1 : Int32)) L then
                                              g_b1 (f10_next z0.2.2.2.2 (xs (x3 + (1 : Int32)).toNatClampNeg)) fun r268 =>
                                              if r264 = r268 then
                                                fL_law xs L n z0 (x3 + 5)
                                              else
                                                some (0 : Int32)
                                              else none
                                              else none
                                            else
                                              if t3 = (21 : Int32) then
                                                if g_in (x3 + (1 : Int32)) L then
                                                if g_in (x3 + (2 : Int32)) L then
                                                g_bd (f9_wouldPlan z0 (xs (x3 + (1 : Int32)).toNatClampNeg) (xs (x3 + (2 : Int32)).toNatClampNeg)) fun r274 z275 =>
                                                if g_in (x3 + (1 : Int32)) L then
                                                if g_in (x3 + (2 : Int32)) L then
                                                g_bd (f10_wouldPlan z275.2.2.2.2 (xs (x3 + (1 : Int32)).toNatClampNeg) (xs (x3 + (2 : Int32)).toNatClampNeg)) fun r282 z283 =>
                                                g_let (g_setM z275 z283) fun z286 =>
                                                if r274 = r282 then
                                                  fL_law xs L n z286 (x3 + 5)
                                                else
                                                  some (0 : Int32)
                                                else none
                                                else none
                                                else none
                                                else none
                                              else
                                                if t3 = (22 : Int32) then
                                                  if g_in (x3 + (1 : Int32)) L then
                                                  g_b1 (f9_count z0 (xs (x3 + (1 : Int32)).toNatClampNeg)) fun r289 =>
                                                  if g_in (x3 + (1 : Int32)) L then
                                                  g_b1 (f10_count z0.2.2.2.2 (xs (x3 + (1 : Int32)).toNatClampNeg)) fun r293 =>
                                                  if r289 = r293 then
                                                    fL_law xs L n z0 (x3 + 5)
                                                  else
                                                    some (0 : Int32)
                                                  else none
                                                  else none
                                                else
                                                    fL_law xs L n z0 (x3 + 5)
    else none
/-! THE CLAIM OUT OF ONE WALK OF THE LAW'S BODY. Your part is whole_start (and what it stands on); all else here is the same for every law, but numbers. -/
def R_law : String := "GlassRacksLaw"
def lw_P (b : Addr) (xs : List Int32) (args : Array Value) (s : State) : Prop := args = #[.ref b] ∧ s.IntsAt b xs ∧ xs.length ≤ 2560 ∧ (Jvm.Cond.and given_1 narrow_1).before args s = true
def lw_Q (_ : Array Value) (s : State) (o : Outcome) (t : State) : Prop := o = .returned (some (.int 1)) ∧ Framed s o t [] 600000 7302250
def lw_Z (below : List Frame) (a : Array Value) (s : State) : State → Prop := fun t => ∃ o, t.status = .running ∧ Ended t below o ∧ lw_Q a s o t
/-- the law's own end, with 1 on the stack, nothing written that was there before, its room as the claim has it -/
theorem lw_ret {p : Program} {l : Launch} {e : Env} {s : State} {m : MethodId} {below : List Frame} {meth : Method} {c : Code} {b : Nat} (hx : p.tables.exec = Jvm.exec) (hb : c.code = code) (hr : meth.sig.returnType = ret) (hlocks : meth.locks = false) {pc : Nat} {H : Heap} {ls : Array Slot} (hdg : decode code pc = .ok (.ireturn, 1)) : W p l e room_1 s m #[Value.ref b] below meth c H [] 600000 7302250 (lw_Z below #[Value.ref b] s) (F0 m pc ls [.int 1]) := by
  intro T hT X
  obtain ⟨fs, hret, hrun, hended, hW, hframe⟩ := X.leave (v := some (.int 1)) (hlocks := hlocks) (fun h => by rw [hr] at h; cases h)
  have hmeth' : T.vm.method? m = some meth := X.method'
  refine ⟨T.setFrames fs, ?_, .returned (some (.int 1)), hrun, hended, rfl, ⟨_, rfl⟩, hW, hframe⟩
  jvm_step X.here [X.here.top, hx, hb, hdg, hmeth', hr, ret, narrow_b1]
  (try refine ⟨rfl, ?_⟩); (try refine ⟨rfl, ?_⟩)
  first | (intro acts; rw [hret _ acts rfl rfl rfl]) | rw [hret _ _ rfl rfl rfl]
  exact Steps.refl _
/-- what holds at the law's entry: the machine, the code, the tables' words (any of lw_tbl by 'hts w (by decide +kernel)'), the script of L ints xs at the cell b, what the Statement gives of the start (any of its parts by flat_of_before) -/
def lw_At (p : Program) (s : State) (m : MethodId) (meth : Method) (c : Code) (b L : Nat) (xs : Nat → Int32) : Prop :=
  p.tables.exec = Jvm.exec ∧ c.code = code ∧ meth.sig.returnType = ret ∧ c.maxLocals = 4 ∧ s.vm.findClass R_law = some m.cls ∧ (∀ w ∈ lw_tbl, w.before #[Value.ref b] s = true) ∧ va_X b L xs s s.heap ∧ b < s.heap.size ∧ meth.locks = false ∧ (Jvm.Cond.and given_1 narrow_1).before #[Value.ref b] s = true
set_option maxHeartbeats 8000000 in
set_option maxRecDepth 100000 in
/-- THE LAW'S LOOP: where its function says 1, the law ends with true -/
theorem law_loop {p : Program} {l : Launch} {e : Env} {s : State} {m : MethodId} {below : List Frame} {meth : Method} {c : Code} {b L : Nat} {xs : Nat → Int32} (G : gG) (hG : G.2.2 = s.heap.size) (hK : g_K G s) (C0 : lw_At p s m meth c b L xs) : ∀ (n : Nat) (E1 : gEn) (hle1 : g_le g_E0 E1) (z0 : gMu) (x3 : Int32) (H : Heap) (locs : List Loc) (ls : Array Slot), n ≤ 513 → fL_law xs L n z0 x3 = some 1 → g_R G E1 z0 H → va_S (g_A G) s.heap H locs → lv_has ls 4 [(0, .ref b), (1, .ref G.2.2), (2, .ref (G.2.2 + 54)), (3, .int x3)] → W p l e room_1 s m #[Value.ref b] below meth c H locs (60 + 819 * (513 - n)) (8609 + 4914 * (513 - n)) (lw_Z below #[Value.ref b] s) (F0 m 18 ls []) := by
  obtain ⟨hx, hb, hr, hml, hown, hts, hX, hbl, hlocks, hgv⟩ := C0
  have hown : s.vm.findClass RL = some m.cls := hown
  have hbA : ¬ g_A G b := fun q => by
    have q : G.2.2 ≤ b := q
    omega
  intro n
  induction n with
  | zero =>
    intro E1 hle1 z0 x3 H locs ls hfu hf
    rw [fL_law] at hf
    cases hf
  | succ n ih =>
    intro E1 hle1 z0 x3 H locs ls hfu hf  hR hS hl
    rw [fL_law] at hf
    refine lv_iload_n hx hb dL_law_18 rfl (lv_at hl 3 rfl) ?_
    refine lv_aload_n hx hb dL_law_19 rfl (lv_at hl 0 rfl) ?_
    refine va_slen hx hb hX hbl hbA hS dL_law_20 ?_
    refine lv_iconst (v := 5) hx hb dL_law_21 (by decide) ?_
    refine lv_isub hx hb dL_law_22 ?_
    refine lv_icmp_gt (tgt := 787) hx hb dL_law_23 (by decide) (fun c1 => ?_) (fun c1 => ?_)
    · replace hf := g_it hf c1
      refine lv_iconst (v := 1) hx hb dL_law_787 (by decide) ?_
      refine va_forget (fun q hq => by rw [← hG]; exact hS.2.2 q hq) ?_
      refine W.widen (k := 600000) (n := 7302250) (by omega) (by omega) ?_
      exact lw_ret hx hb hr hlocks dL_law_788
    · replace hf := g_if hf c1
      refine lv_aload_n hx hb dL_law_26 rfl (lv_at hl 0 rfl) ?_
      refine lv_iload_n hx hb dL_law_27 rfl (lv_at hl 3 rfl) ?_
      obtain ⟨hg2, hf⟩ := g_gd hf
      refine va_sld hx hb hX hbl hbA hS hg2.vp dL_law_28 ?_
      refine lv_bipush (v := 31) hx hb dL_law_29 (by decide) ?_
      refine lv_iand hx hb dL_law_31 ?_
      refine lv_topi (fun t3 et3 => ?_)
      replace hf := g_let_at hf et3
      by_cases hc2_0 : t3 = (0 : Int32)
      · replace hf := g_it hf hc2_0
        refine lv_tableIn (off := 108) (tgt := 140) hx hb dL_law_32 (by rw [hc2_0]; decide) (by rw [hc2_0]; decide) (by rw [hc2_0]; rfl) (by decide) ?_
        refine lv_aload_n hx hb dL_law_140 rfl (lv_at hl 1 rfl) ?_
        refine lv_aload_n hx hb dL_law_141 rfl (lv_at hl 0 rfl) ?_
        refine lv_iload_n hx hb dL_law_142 rfl (lv_at hl 3 rfl) ?_
        refine lv_iconst (v := 1) hx hb dL_law_143 (by decide) ?_
        refine lv_iadd hx hb dL_law_144 ?_
        obtain ⟨hg4, hf⟩ := g_gd hf
        refine va_sld hx hb hX hbl hbA hS hg4.vp dL_law_145 ?_
        refine lv_aload_n hx hb dL_law_146 rfl (lv_at hl 0 rfl) ?_
        refine lv_iload_n hx hb dL_law_147 rfl (lv_at hl 3 rfl) ?_
        refine lv_iconst (v := 2) hx hb dL_law_148 (by decide) ?_
        refine lv_iadd hx hb dL_law_149 ?_
        obtain ⟨hg5, hf⟩ := g_gd hf
        refine va_sld hx hb hX hbl hbA hS hg5.vp dL_law_150 ?_
        obtain ⟨r6, z7, hc8, hf⟩ := g_bd_e hf
        refine g_call (va_runV (As := [.int (xs (x3 + (1 : Int32)).toNatClampNeg), .int (xs (x3 + (2 : Int32)).toNatClampNeg)]) (rest := []) ⟨hx, hb, hml, hown, hts⟩ (c9_set l G E1 z0 _ _ _ _ hc8) (cwV 2 hts gL_law_X9_set rfl rfl rfl (by decide +kernel) ⟨Nat.le_of_ble_eq_true rfl, Nat.le_of_ble_eq_true rfl⟩) (g_preV (ci := 9) hR hK (hR.2.2.2.1) rfl) rfl rfl hl.1 rfl (lv_room (Nat.le_of_ble_eq_true rfl)) dL_law_151 ⟨by show _ ≤ 600000; omega, by show _ ≤ 7302250; omega⟩) hS (fun w9 H locs hp hR hS => ?_)
        subst hp
        refine lv_aload_n hx hb dL_law_154 rfl (lv_at hl 2 rfl) ?_
        refine lv_aload_n hx hb dL_law_155 rfl (lv_at hl 0 rfl) ?_
        refine lv_iload_n hx hb dL_law_156 rfl (lv_at hl 3 rfl) ?_
        refine lv_iconst (v := 1) hx hb dL_law_157 (by decide) ?_
        refine lv_iadd hx hb dL_law_158 ?_
        obtain ⟨hg10, hf⟩ := g_gd hf
        refine va_sld hx hb hX hbl hbA hS hg10.vp dL_law_159 ?_
        refine lv_aload_n hx hb dL_law_160 rfl (lv_at hl 0 rfl) ?_
        refine lv_iload_n hx hb dL_law_161 rfl (lv_at hl 3 rfl) ?_
        refine lv_iconst (v := 2) hx hb dL_law_162 (by decide) ?_
        refine lv_iadd hx hb dL_law_163 ?_
        obtain ⟨hg11, hf⟩ := g_gd hf
        refine va_sld hx hb hX hbl hbA hS hg11.vp dL_law_164 ?_
        obtain ⟨r12, z13, hc14, hf⟩ := g_bd_e hf
        refine g_call (va_runV (As := [.int (xs (x3 + (1 : Int32)).toNatClampNeg), .int (xs (x3 + (2 : Int32)).toNatClampNeg)]) (rest := [.int r6]) ⟨hx, hb, hml, hown, hts⟩ (c10_set l G E1 z7 _ _ _ _ _ hc14) (cwV 2 hts gL_law_X10_set rfl rfl rfl (by decide +kernel) ⟨Nat.le_of_ble_eq_true rfl, Nat.le_of_ble_eq_true rfl⟩) (g_preV (ci := 10) hR hK (hR.2.2.2.2.1.1) rfl) rfl rfl hl.1 rfl (lv_room (Nat.le_of_ble_eq_true rfl)) dL_law_165 ⟨by show _ ≤ 600000; omega, by show _ ≤ 7302250; omega⟩) hS (fun w15 H locs hp hR hS => ?_)
        obtain ⟨z16, ez16, hf⟩ := g_let_e hf
        replace hR : g_R G E1 z16 H := by rw [ez16]; exact hR
        subst hp
        refine lv_icmp_eq (tgt := 781) hx hb dL_law_168 (by decide) (fun c17 => ?_) (fun c17 => ?_)
        · replace hf := g_it hf c17
          refine lv_iinc (v := x3 + 5) (lv' := [(3, .int (x3 + 5)), (0, .ref b), (1, .ref G.2.2), (2, .ref (G.2.2 + 54))]) hx hb dL_law_781 hl (k := 3) rfl rfl (by decide) rfl (fun ls hl => ?_)
          refine lv_goto (tgt := 18) hx hb dL_law_784 (by decide) ?_
          refine W.widen (k := 60 + 819 * (513 - n)) (n := 8609 + 4914 * (513 - n)) (by omega) (by omega) ?_
          exact ih _ hle1 _ _ _ _ _ (by omega) hf  hR hS (lv_sub hl [1, 2, 3, 0] rfl)
        · replace hf := g_if hf c17
          refine lv_iconst (v := 0) hx hb dL_law_171 (by decide) ?_
          exact absurd (g_s1 hf) (by decide)
      · replace hf := g_if hf hc2_0
        by_cases hc3_1 : t3 = (1 : Int32)
        · replace hf := g_it hf hc3_1
          refine lv_tableIn (off := 141) (tgt := 173) hx hb dL_law_32 (by rw [hc3_1]; decide) (by rw [hc3_1]; decide) (by rw [hc3_1]; rfl) (by decide) ?_
          refine lv_aload_n hx hb dL_law_173 rfl (lv_at hl 1 rfl) ?_
          refine lv_aload_n hx hb dL_law_174 rfl (lv_at hl 0 rfl) ?_
          refine lv_iload_n hx hb dL_law_175 rfl (lv_at hl 3 rfl) ?_
          refine lv_iconst (v := 1) hx hb dL_law_176 (by decide) ?_
          refine lv_iadd hx hb dL_law_177 ?_
          obtain ⟨hg18, hf⟩ := g_gd hf
          refine va_sld hx hb hX hbl hbA hS hg18.vp dL_law_178 ?_
          refine lv_aload_n hx hb dL_law_179 rfl (lv_at hl 0 rfl) ?_
          refine lv_iload_n hx hb dL_law_180 rfl (lv_at hl 3 rfl) ?_
          refine lv_iconst (v := 2) hx hb dL_law_181 (by decide) ?_
          refine lv_iadd hx hb dL_law_182 ?_
          obtain ⟨hg19, hf⟩ := g_gd hf
          refine va_sld hx hb hX hbl hbA hS hg19.vp dL_law_183 ?_
          refine lv_aload_n hx hb dL_law_184 rfl (lv_at hl 0 rfl) ?_
          refine lv_iload_n hx hb dL_law_185 rfl (lv_at hl 3 rfl) ?_
          refine lv_iconst (v := 3) hx hb dL_law_186 (by decide) ?_
          refine lv_iadd hx hb dL_law_187 ?_
          obtain ⟨hg20, hf⟩ := g_gd hf
          refine va_sld hx hb hX hbl hbA hS hg20.vp dL_law_188 ?_
          refine lv_aload_n hx hb dL_law_189 rfl (lv_at hl 0 rfl) ?_
          refine lv_iload_n hx hb dL_law_190 rfl (lv_at hl 3 rfl) ?_
          refine lv_iconst (v := 4) hx hb dL_law_191 (by decide) ?_
          refine lv_iadd hx hb dL_law_192 ?_
          obtain ⟨hg21, hf⟩ := g_gd hf
          refine va_sld hx hb hX hbl hbA hS hg21.vp dL_law_193 ?_
          obtain ⟨r22, z23, hc24, hf⟩ := g_bd_e hf
          refine g_calln (va_runV (As := [.int (xs (x3 + (1 : Int32)).toNatClampNeg), .int (xs (x3 + (2 : Int32)).toNatClampNeg), .int (xs (x3 + (3 : Int32)).toNatClampNeg), .int (xs (x3 + (4 : Int32)).toNatClampNeg)]) (rest := []) ⟨hx, hb, hml, hown, hts⟩ (c9_buy l G E1 z0 _ _ _ _ _ _ hc24) (cwV 4 hts gL_law_X9_buy rfl rfl rfl (by decide +kernel) ⟨Nat.le_of_ble_eq_true rfl, Nat.le_of_ble_eq_true rfl⟩) (g_preV (ci := 9) hR hK (hR.2.2.2.1) rfl) rfl rfl hl.1 rfl (lv_room (Nat.le_of_ble_eq_true rfl)) dL_law_194 ⟨by show _ ≤ 600000; omega, by show _ ≤ 7302250; omega⟩) hS (fun w25 E26 H locs hp hle27 hR hS => ?_)
          subst hp
          refine lv_aload_n hx hb dL_law_197 rfl (lv_at hl 2 rfl) ?_
          refine lv_aload_n hx hb dL_law_198 rfl (lv_at hl 0 rfl) ?_
          refine lv_iload_n hx hb dL_law_199 rfl (lv_at hl 3 rfl) ?_
          refine lv_iconst (v := 1) hx hb dL_law_200 (by decide) ?_
          refine lv_iadd hx hb dL_law_201 ?_
          obtain ⟨hg28, hf⟩ := g_gd hf
          refine va_sld hx hb hX hbl hbA hS hg28.vp dL_law_202 ?_
          refine lv_aload_n hx hb dL_law_203 rfl (lv_at hl 0 rfl) ?_
          refine lv_iload_n hx hb dL_law_204 rfl (lv_at hl 3 rfl) ?_
          refine lv_iconst (v := 2) hx hb dL_law_205 (by decide) ?_
          refine lv_iadd hx hb dL_law_206 ?_
          obtain ⟨hg29, hf⟩ := g_gd hf
          refine va_sld hx hb hX hbl hbA hS hg29.vp dL_law_207 ?_
          refine lv_aload_n hx hb dL_law_208 rfl (lv_at hl 0 rfl) ?_
          refine lv_iload_n hx hb dL_law_209 rfl (lv_at hl 3 rfl) ?_
          refine lv_iconst (v := 3) hx hb dL_law_210 (by decide) ?_
          refine lv_iadd hx hb dL_law_211 ?_
          obtain ⟨hg30, hf⟩ := g_gd hf
          refine va_sld hx hb hX hbl hbA hS hg30.vp dL_law_212 ?_
          refine lv_aload_n hx hb dL_law_213 rfl (lv_at hl 0 rfl) ?_
          refine lv_iload_n hx hb dL_law_214 rfl (lv_at hl 3 rfl) ?_
          refine lv_iconst (v := 4) hx hb dL_law_215 (by decide) ?_
          refine lv_iadd hx hb dL_law_216 ?_
          obtain ⟨hg31, hf⟩ := g_gd hf
          refine va_sld hx hb hX hbl hbA hS hg31.vp dL_law_217 ?_
          obtain ⟨r32, z33, hc34, hf⟩ := g_bd_e hf
          refine g_call (va_runV (As := [.int (xs (x3 + (1 : Int32)).toNatClampNeg), .int (xs (x3 + (2 : Int32)).toNatClampNeg), .int (xs (x3 + (3 : Int32)).toNatClampNeg), .int (xs (x3 + (4 : Int32)).toNatClampNeg)]) (rest := [.int r22]) ⟨hx, hb, hml, hown, hts⟩ (c10_buy l G E26 z23 _ _ _ _ _ _ _ hc34) (cwV 4 hts gL_law_X10_buy rfl rfl rfl (by decide +kernel) ⟨Nat.le_of_ble_eq_true rfl, Nat.le_of_ble_eq_true rfl⟩) (g_preV (ci := 10) hR hK (hR.2.2.2.2.1.1) rfl) rfl rfl hl.1 rfl (lv_room (Nat.le_of_ble_eq_true rfl)) dL_law_218 ⟨by show _ ≤ 600000; omega, by show _ ≤ 7302250; omega⟩) hS (fun w35 H locs hp hR hS => ?_)
          obtain ⟨z36, ez36, hf⟩ := g_let_e hf
          replace hR : g_R G E26 z36 H := by rw [ez36]; exact hR
          subst hp
          refine lv_icmp_eq (tgt := 781) hx hb dL_law_221 (by decide) (fun c37 => ?_) (fun c37 => ?_)
          · replace hf := g_it hf c37
            refine lv_iinc (v := x3 + 5) (lv' := [(3, .int (x3 + 5)), (0, .ref b), (1, .ref G.2.2), (2, .ref (G.2.2 + 54))]) hx hb dL_law_781 hl (k := 3) rfl rfl (by decide) rfl (fun ls hl => ?_)
            refine lv_goto (tgt := 18) hx hb dL_law_784 (by decide) ?_
            refine W.widen (k := 60 + 819 * (513 - n)) (n := 8609 + 4914 * (513 - n)) (by omega) (by omega) ?_
            exact ih _ ((hle1).tr hle27) _ _ _ _ _ (by omega) hf  hR hS (lv_sub hl [1, 2, 3, 0] rfl)
          · replace hf := g_if hf c37
            refine lv_iconst (v := 0) hx hb dL_law_224 (by decide) ?_
            exact absurd (g_s1 hf) (by decide)
        · replace hf := g_if hf hc3_1
          by_cases hc4_2 : t3 = (2 : Int32)
          · replace hf := g_it hf hc4_2
            refine lv_tableIn (off := 194) (tgt := 226) hx hb dL_law_32 (by rw [hc4_2]; decide) (by rw [hc4_2]; decide) (by rw [hc4_2]; rfl) (by decide) ?_
            refine lv_aload_n hx hb dL_law_226 rfl (lv_at hl 1 rfl) ?_
            refine lv_aload_n hx hb dL_law_227 rfl (lv_at hl 0 rfl) ?_
            refine lv_iload_n hx hb dL_law_228 rfl (lv_at hl 3 rfl) ?_
            refine lv_iconst (v := 1) hx hb dL_law_229 (by decide) ?_
            refine lv_iadd hx hb dL_law_230 ?_
            obtain ⟨hg38, hf⟩ := g_gd hf
            refine va_sld hx hb hX hbl hbA hS hg38.vp dL_law_231 ?_
            refine lv_aload_n hx hb dL_law_232 rfl (lv_at hl 0 rfl) ?_
            refine lv_iload_n hx hb dL_law_233 rfl (lv_at hl 3 rfl) ?_
            refine lv_iconst (v := 2) hx hb dL_law_234 (by decide) ?_
            refine lv_iadd hx hb dL_law_235 ?_
            obtain ⟨hg39, hf⟩ := g_gd hf
            refine va_sld hx hb hX hbl hbA hS hg39.vp dL_law_236 ?_
            obtain ⟨r40, z41, hc42, hf⟩ := g_bd_e hf
            refine g_call (va_runV (As := [.int (xs (x3 + (1 : Int32)).toNatClampNeg), .int (xs (x3 + (2 : Int32)).toNatClampNeg)]) (rest := []) ⟨hx, hb, hml, hown, hts⟩ (c9_move l G E1 z0 _ _ _ _ hc42) (cwV 2 hts gL_law_X9_move rfl rfl rfl (by decide +kernel) ⟨Nat.le_of_ble_eq_true rfl, Nat.le_of_ble_eq_true rfl⟩) (g_preV (ci := 9) hR hK (hR.2.2.2.1) rfl) rfl rfl hl.1 rfl (lv_room (Nat.le_of_ble_eq_true rfl)) dL_law_237 ⟨by show _ ≤ 600000; omega, by show _ ≤ 7302250; omega⟩) hS (fun w43 H locs hp hR hS => ?_)
            subst hp
            refine lv_aload_n hx hb dL_law_240 rfl (lv_at hl 2 rfl) ?_
            refine lv_aload_n hx hb dL_law_241 rfl (lv_at hl 0 rfl) ?_
            refine lv_iload_n hx hb dL_law_242 rfl (lv_at hl 3 rfl) ?_
            refine lv_iconst (v := 1) hx hb dL_law_243 (by decide) ?_
            refine lv_iadd hx hb dL_law_244 ?_
            obtain ⟨hg44, hf⟩ := g_gd hf
            refine va_sld hx hb hX hbl hbA hS hg44.vp dL_law_245 ?_
            refine lv_aload_n hx hb dL_law_246 rfl (lv_at hl 0 rfl) ?_
            refine lv_iload_n hx hb dL_law_247 rfl (lv_at hl 3 rfl) ?_
            refine lv_iconst (v := 2) hx hb dL_law_248 (by decide) ?_
            refine lv_iadd hx hb dL_law_249 ?_
            obtain ⟨hg45, hf⟩ := g_gd hf
            refine va_sld hx hb hX hbl hbA hS hg45.vp dL_law_250 ?_
            obtain ⟨r46, z47, hc48, hf⟩ := g_bd_e hf
            refine g_call (va_runV (As := [.int (xs (x3 + (1 : Int32)).toNatClampNeg), .int (xs (x3 + (2 : Int32)).toNatClampNeg)]) (rest := [.int r40]) ⟨hx, hb, hml, hown, hts⟩ (c10_move l G E1 z41 _ _ _ _ _ hc48) (cwV 2 hts gL_law_X10_move rfl rfl rfl (by decide +kernel) ⟨Nat.le_of_ble_eq_true rfl, Nat.le_of_ble_eq_true rfl⟩) (g_preV (ci := 10) hR hK (hR.2.2.2.2.1.1) rfl) rfl rfl hl.1 rfl (lv_room (Nat.le_of_ble_eq_true rfl)) dL_law_251 ⟨by show _ ≤ 600000; omega, by show _ ≤ 7302250; omega⟩) hS (fun w49 H locs hp hR hS => ?_)
            obtain ⟨z50, ez50, hf⟩ := g_let_e hf
            replace hR : g_R G E1 z50 H := by rw [ez50]; exact hR
            subst hp
            refine lv_icmp_eq (tgt := 781) hx hb dL_law_254 (by decide) (fun c51 => ?_) (fun c51 => ?_)
            · replace hf := g_it hf c51
              refine lv_iinc (v := x3 + 5) (lv' := [(3, .int (x3 + 5)), (0, .ref b), (1, .ref G.2.2), (2, .ref (G.2.2 + 54))]) hx hb dL_law_781 hl (k := 3) rfl rfl (by decide) rfl (fun ls hl => ?_)
              refine lv_goto (tgt := 18) hx hb dL_law_784 (by decide) ?_
              refine W.widen (k := 60 + 819 * (513 - n)) (n := 8609 + 4914 * (513 - n)) (by omega) (by omega) ?_
              exact ih _ hle1 _ _ _ _ _ (by omega) hf  hR hS (lv_sub hl [1, 2, 3, 0] rfl)
            · replace hf := g_if hf c51
              refine lv_iconst (v := 0) hx hb dL_law_257 (by decide) ?_
              exact absurd (g_s1 hf) (by decide)
          · replace hf := g_if hf hc4_2
            by_cases hc5_3 : t3 = (3 : Int32)
            · replace hf := g_it hf hc5_3
              refine lv_tableIn (off := 227) (tgt := 259) hx hb dL_law_32 (by rw [hc5_3]; decide) (by rw [hc5_3]; decide) (by rw [hc5_3]; rfl) (by decide) ?_
              refine lv_aload_n hx hb dL_law_259 rfl (lv_at hl 1 rfl) ?_
              refine lv_aload_n hx hb dL_law_260 rfl (lv_at hl 0 rfl) ?_
              refine lv_iload_n hx hb dL_law_261 rfl (lv_at hl 3 rfl) ?_
              refine lv_iconst (v := 1) hx hb dL_law_262 (by decide) ?_
              refine lv_iadd hx hb dL_law_263 ?_
              obtain ⟨hg52, hf⟩ := g_gd hf
              refine va_sld hx hb hX hbl hbA hS hg52.vp dL_law_264 ?_
              obtain ⟨r53, z54, hc55, hf⟩ := g_bd_e hf
              refine g_call (va_runV (As := [.int (xs (x3 + (1 : Int32)).toNatClampNeg)]) (rest := []) ⟨hx, hb, hml, hown, hts⟩ (c9_scrap l G E1 z0 _ _ _ hc55) (cwV 1 hts gL_law_X9_scrap rfl rfl rfl (by decide +kernel) ⟨Nat.le_of_ble_eq_true rfl, Nat.le_of_ble_eq_true rfl⟩) (g_preV (ci := 9) hR hK (hR.2.2.2.1) rfl) rfl rfl hl.1 rfl (lv_room (Nat.le_of_ble_eq_true rfl)) dL_law_265 ⟨by show _ ≤ 600000; omega, by show _ ≤ 7302250; omega⟩) hS (fun w56 H locs hp hR hS => ?_)
              subst hp
              refine lv_aload_n hx hb dL_law_268 rfl (lv_at hl 2 rfl) ?_
              refine lv_aload_n hx hb dL_law_269 rfl (lv_at hl 0 rfl) ?_
              refine lv_iload_n hx hb dL_law_270 rfl (lv_at hl 3 rfl) ?_
              refine lv_iconst (v := 1) hx hb dL_law_271 (by decide) ?_
              refine lv_iadd hx hb dL_law_272 ?_
              obtain ⟨hg57, hf⟩ := g_gd hf
              refine va_sld hx hb hX hbl hbA hS hg57.vp dL_law_273 ?_
              obtain ⟨r58, z59, hc60, hf⟩ := g_bd_e hf
              refine g_call (va_runV (As := [.int (xs (x3 + (1 : Int32)).toNatClampNeg)]) (rest := [.int r53]) ⟨hx, hb, hml, hown, hts⟩ (c10_scrap l G E1 z54 _ _ _ _ hc60) (cwV 1 hts gL_law_X10_scrap rfl rfl rfl (by decide +kernel) ⟨Nat.le_of_ble_eq_true rfl, Nat.le_of_ble_eq_true rfl⟩) (g_preV (ci := 10) hR hK (hR.2.2.2.2.1.1) rfl) rfl rfl hl.1 rfl (lv_room (Nat.le_of_ble_eq_true rfl)) dL_law_274 ⟨by show _ ≤ 600000; omega, by show _ ≤ 7302250; omega⟩) hS (fun w61 H locs hp hR hS => ?_)
              obtain ⟨z62, ez62, hf⟩ := g_let_e hf
              replace hR : g_R G E1 z62 H := by rw [ez62]; exact hR
              subst hp
              refine lv_icmp_eq (tgt := 781) hx hb dL_law_277 (by decide) (fun c63 => ?_) (fun c63 => ?_)
              · replace hf := g_it hf c63
                refine lv_iinc (v := x3 + 5) (lv' := [(3, .int (x3 + 5)), (0, .ref b), (1, .ref G.2.2), (2, .ref (G.2.2 + 54))]) hx hb dL_law_781 hl (k := 3) rfl rfl (by decide) rfl (fun ls hl => ?_)
                refine lv_goto (tgt := 18) hx hb dL_law_784 (by decide) ?_
                refine W.widen (k := 60 + 819 * (513 - n)) (n := 8609 + 4914 * (513 - n)) (by omega) (by omega) ?_
                exact ih _ hle1 _ _ _ _ _ (by omega) hf  hR hS (lv_sub hl [1, 2, 3, 0] rfl)
              · replace hf := g_if hf c63
                refine lv_iconst (v := 0) hx hb dL_law_280 (by decide) ?_
                exact absurd (g_s1 hf) (by decide)
            · replace hf := g_if hf hc5_3
              by_cases hc6_4 : t3 = (4 : Int32)
              · replace hf := g_it hf hc6_4
                refine lv_tableIn (off := 250) (tgt := 282) hx hb dL_law_32 (by rw [hc6_4]; decide) (by rw [hc6_4]; decide) (by rw [hc6_4]; rfl) (by decide) ?_
                refine lv_aload_n hx hb dL_law_282 rfl (lv_at hl 1 rfl) ?_
                refine lv_aload_n hx hb dL_law_283 rfl (lv_at hl 0 rfl) ?_
                refine lv_iload_n hx hb dL_law_284 rfl (lv_at hl 3 rfl) ?_
                refine lv_iconst (v := 1) hx hb dL_law_285 (by decide) ?_
                refine lv_iadd hx hb dL_law_286 ?_
                obtain ⟨hg64, hf⟩ := g_gd hf
                refine va_sld hx hb hX hbl hbA hS hg64.vp dL_law_287 ?_
                refine lv_aload_n hx hb dL_law_288 rfl (lv_at hl 0 rfl) ?_
                refine lv_iload_n hx hb dL_law_289 rfl (lv_at hl 3 rfl) ?_
                refine lv_iconst (v := 2) hx hb dL_law_290 (by decide) ?_
                refine lv_iadd hx hb dL_law_291 ?_
                obtain ⟨hg65, hf⟩ := g_gd hf
                refine va_sld hx hb hX hbl hbA hS hg65.vp dL_law_292 ?_
                refine lv_aload_n hx hb dL_law_293 rfl (lv_at hl 0 rfl) ?_
                refine lv_iload_n hx hb dL_law_294 rfl (lv_at hl 3 rfl) ?_
                refine lv_iconst (v := 3) hx hb dL_law_295 (by decide) ?_
                refine lv_iadd hx hb dL_law_296 ?_
                obtain ⟨hg66, hf⟩ := g_gd hf
                refine va_sld hx hb hX hbl hbA hS hg66.vp dL_law_297 ?_
                refine lv_aload_n hx hb dL_law_298 rfl (lv_at hl 0 rfl) ?_
                refine lv_iload_n hx hb dL_law_299 rfl (lv_at hl 3 rfl) ?_
                refine lv_iconst (v := 4) hx hb dL_law_300 (by decide) ?_
                refine lv_iadd hx hb dL_law_301 ?_
                obtain ⟨hg67, hf⟩ := g_gd hf
                refine va_sld hx hb hX hbl hbA hS hg67.vp dL_law_302 ?_
                obtain ⟨r68, z69, hc70, hf⟩ := g_bd_e hf
                refine g_calln (va_runV (As := [.int (xs (x3 + (1 : Int32)).toNatClampNeg), .int (xs (x3 + (2 : Int32)).toNatClampNeg), .int (xs (x3 + (3 : Int32)).toNatClampNeg), .int (xs (x3 + (4 : Int32)).toNatClampNeg)]) (rest := []) ⟨hx, hb, hml, hown, hts⟩ (c9_order l G E1 z0 _ _ _ _ _ _ hc70) (cwV 4 hts gL_law_X9_order rfl rfl rfl (by decide +kernel) ⟨Nat.le_of_ble_eq_true rfl, Nat.le_of_ble_eq_true rfl⟩) (g_preV (ci := 9) hR hK (hR.2.2.2.1) rfl) rfl rfl hl.1 rfl (lv_room (Nat.le_of_ble_eq_true rfl)) dL_law_303 ⟨by show _ ≤ 600000; omega, by show _ ≤ 7302250; omega⟩) hS (fun w71 E72 H locs hp hle73 hR hS => ?_)
                subst hp
                refine lv_aload_n hx hb dL_law_306 rfl (lv_at hl 2 rfl) ?_
                refine lv_aload_n hx hb dL_law_307 rfl (lv_at hl 0 rfl) ?_
                refine lv_iload_n hx hb dL_law_308 rfl (lv_at hl 3 rfl) ?_
                refine lv_iconst (v := 1) hx hb dL_law_309 (by decide) ?_
                refine lv_iadd hx hb dL_law_310 ?_
                obtain ⟨hg74, hf⟩ := g_gd hf
                refine va_sld hx hb hX hbl hbA hS hg74.vp dL_law_311 ?_
                refine lv_aload_n hx hb dL_law_312 rfl (lv_at hl 0 rfl) ?_
                refine lv_iload_n hx hb dL_law_313 rfl (lv_at hl 3 rfl) ?_
                refine lv_iconst (v := 2) hx hb dL_law_314 (by decide) ?_
                refine lv_iadd hx hb dL_law_315 ?_
                obtain ⟨hg75, hf⟩ := g_gd hf
                refine va_sld hx hb hX hbl hbA hS hg75.vp dL_law_316 ?_
                refine lv_aload_n hx hb dL_law_317 rfl (lv_at hl 0 rfl) ?_
                refine lv_iload_n hx hb dL_law_318 rfl (lv_at hl 3 rfl) ?_
                refine lv_iconst (v := 3) hx hb dL_law_319 (by decide) ?_
                refine lv_iadd hx hb dL_law_320 ?_
                obtain ⟨hg76, hf⟩ := g_gd hf
                refine va_sld hx hb hX hbl hbA hS hg76.vp dL_law_321 ?_
                refine lv_aload_n hx hb dL_law_322 rfl (lv_at hl 0 rfl) ?_
                refine lv_iload_n hx hb dL_law_323 rfl (lv_at hl 3 rfl) ?_
                refine lv_iconst (v := 4) hx hb dL_law_324 (by decide) ?_
                refine lv_iadd hx hb dL_law_325 ?_
                obtain ⟨hg77, hf⟩ := g_gd hf
                refine va_sld hx hb hX hbl hbA hS hg77.vp dL_law_326 ?_
                obtain ⟨r78, z79, hc80, hf⟩ := g_bd_e hf
                refine g_call (va_runV (As := [.int (xs (x3 + (1 : Int32)).toNatClampNeg), .int (xs (x3 + (2 : Int32)).toNatClampNeg), .int (xs (x3 + (3 : Int32)).toNatClampNeg), .int (xs (x3 + (4 : Int32)).toNatClampNeg)]) (rest := [.int r68]) ⟨hx, hb, hml, hown, hts⟩ (c10_order l G E72 z69 _ _ _ _ _ _ _ hc80) (cwV 4 hts gL_law_X10_order rfl rfl rfl (by decide +kernel) ⟨Nat.le_of_ble_eq_true rfl, Nat.le_of_ble_eq_true rfl⟩) (g_preV (ci := 10) hR hK (hR.2.2.2.2.1.1) rfl) rfl rfl hl.1 rfl (lv_room (Nat.le_of_ble_eq_true rfl)) dL_law_327 ⟨by show _ ≤ 600000; omega, by show _ ≤ 7302250; omega⟩) hS (fun w81 H locs hp hR hS => ?_)
                obtain ⟨z82, ez82, hf⟩ := g_let_e hf
                replace hR : g_R G E72 z82 H := by rw [ez82]; exact hR
                subst hp
                refine lv_icmp_eq (tgt := 781) hx hb dL_law_330 (by decide) (fun c83 => ?_) (fun c83 => ?_)
                · replace hf := g_it hf c83
                  refine lv_iinc (v := x3 + 5) (lv' := [(3, .int (x3 + 5)), (0, .ref b), (1, .ref G.2.2), (2, .ref (G.2.2 + 54))]) hx hb dL_law_781 hl (k := 3) rfl rfl (by decide) rfl (fun ls hl => ?_)
                  refine lv_goto (tgt := 18) hx hb dL_law_784 (by decide) ?_
                  refine W.widen (k := 60 + 819 * (513 - n)) (n := 8609 + 4914 * (513 - n)) (by omega) (by omega) ?_
                  exact ih _ ((hle1).tr hle73) _ _ _ _ _ (by omega) hf  hR hS (lv_sub hl [1, 2, 3, 0] rfl)
                · replace hf := g_if hf c83
                  refine lv_iconst (v := 0) hx hb dL_law_333 (by decide) ?_
                  exact absurd (g_s1 hf) (by decide)
              · replace hf := g_if hf hc6_4
                by_cases hc7_5 : t3 = (5 : Int32)
                · replace hf := g_it hf hc7_5
                  refine lv_tableIn (off := 303) (tgt := 335) hx hb dL_law_32 (by rw [hc7_5]; decide) (by rw [hc7_5]; decide) (by rw [hc7_5]; rfl) (by decide) ?_
                  refine lv_aload_n hx hb dL_law_335 rfl (lv_at hl 1 rfl) ?_
                  refine lv_aload_n hx hb dL_law_336 rfl (lv_at hl 0 rfl) ?_
                  refine lv_iload_n hx hb dL_law_337 rfl (lv_at hl 3 rfl) ?_
                  refine lv_iconst (v := 1) hx hb dL_law_338 (by decide) ?_
                  refine lv_iadd hx hb dL_law_339 ?_
                  obtain ⟨hg84, hf⟩ := g_gd hf
                  refine va_sld hx hb hX hbl hbA hS hg84.vp dL_law_340 ?_
                  obtain ⟨r85, z86, hc87, hf⟩ := g_bd_e hf
                  refine g_calln (va_runV (As := [.int (xs (x3 + (1 : Int32)).toNatClampNeg)]) (rest := []) ⟨hx, hb, hml, hown, hts⟩ (c9_cancel l G E1 z0 _ _ _ hc87) (cwV 1 hts gL_law_X9_cancel rfl rfl rfl (by decide +kernel) ⟨Nat.le_of_ble_eq_true rfl, Nat.le_of_ble_eq_true rfl⟩) (g_preV (ci := 9) hR hK (hR.2.2.2.1) rfl) rfl rfl hl.1 rfl (lv_room (Nat.le_of_ble_eq_true rfl)) dL_law_341 ⟨by show _ ≤ 600000; omega, by show _ ≤ 7302250; omega⟩) hS (fun w88 E89 H locs hp hle90 hR hS => ?_)
                  subst hp
                  refine lv_aload_n hx hb dL_law_344 rfl (lv_at hl 2 rfl) ?_
                  refine lv_aload_n hx hb dL_law_345 rfl (lv_at hl 0 rfl) ?_
                  refine lv_iload_n hx hb dL_law_346 rfl (lv_at hl 3 rfl) ?_
                  refine lv_iconst (v := 1) hx hb dL_law_347 (by decide) ?_
                  refine lv_iadd hx hb dL_law_348 ?_
                  obtain ⟨hg91, hf⟩ := g_gd hf
                  refine va_sld hx hb hX hbl hbA hS hg91.vp dL_law_349 ?_
                  obtain ⟨r92, z93, hc94, hf⟩ := g_bd_e hf
                  refine g_call (va_runV (As := [.int (xs (x3 + (1 : Int32)).toNatClampNeg)]) (rest := [.int r85]) ⟨hx, hb, hml, hown, hts⟩ (c10_cancel l G E89 z86 _ _ _ _ hc94) (cwV 1 hts gL_law_X10_cancel rfl rfl rfl (by decide +kernel) ⟨Nat.le_of_ble_eq_true rfl, Nat.le_of_ble_eq_true rfl⟩) (g_preV (ci := 10) hR hK (hR.2.2.2.2.1.1) rfl) rfl rfl hl.1 rfl (lv_room (Nat.le_of_ble_eq_true rfl)) dL_law_350 ⟨by show _ ≤ 600000; omega, by show _ ≤ 7302250; omega⟩) hS (fun w95 H locs hp hR hS => ?_)
                  obtain ⟨z96, ez96, hf⟩ := g_let_e hf
                  replace hR : g_R G E89 z96 H := by rw [ez96]; exact hR
                  subst hp
                  refine lv_icmp_eq (tgt := 781) hx hb dL_law_353 (by decide) (fun c97 => ?_) (fun c97 => ?_)
                  · replace hf := g_it hf c97
                    refine lv_iinc (v := x3 + 5) (lv' := [(3, .int (x3 + 5)), (0, .ref b), (1, .ref G.2.2), (2, .ref (G.2.2 + 54))]) hx hb dL_law_781 hl (k := 3) rfl rfl (by decide) rfl (fun ls hl => ?_)
                    refine lv_goto (tgt := 18) hx hb dL_law_784 (by decide) ?_
                    refine W.widen (k := 60 + 819 * (513 - n)) (n := 8609 + 4914 * (513 - n)) (by omega) (by omega) ?_
                    exact ih _ ((hle1).tr hle90) _ _ _ _ _ (by omega) hf  hR hS (lv_sub hl [1, 2, 3, 0] rfl)
                  · replace hf := g_if hf c97
                    refine lv_iconst (v := 0) hx hb dL_law_356 (by decide) ?_
                    exact absurd (g_s1 hf) (by decide)
                · replace hf := g_if hf hc7_5
                  by_cases hc8_6 : t3 = (6 : Int32)
                  · replace hf := g_it hf hc8_6
                    refine lv_tableIn (off := 326) (tgt := 358) hx hb dL_law_32 (by rw [hc8_6]; decide) (by rw [hc8_6]; decide) (by rw [hc8_6]; rfl) (by decide) ?_
                    refine lv_aload_n hx hb dL_law_358 rfl (lv_at hl 1 rfl) ?_
                    refine lv_aload_n hx hb dL_law_359 rfl (lv_at hl 0 rfl) ?_
                    refine lv_iload_n hx hb dL_law_360 rfl (lv_at hl 3 rfl) ?_
                    refine lv_iconst (v := 1) hx hb dL_law_361 (by decide) ?_
                    refine lv_iadd hx hb dL_law_362 ?_
                    obtain ⟨hg98, hf⟩ := g_gd hf
                    refine va_sld hx hb hX hbl hbA hS hg98.vp dL_law_363 ?_
                    refine lv_aload_n hx hb dL_law_364 rfl (lv_at hl 0 rfl) ?_
                    refine lv_iload_n hx hb dL_law_365 rfl (lv_at hl 3 rfl) ?_
                    refine lv_iconst (v := 2) hx hb dL_law_366 (by decide) ?_
                    refine lv_iadd hx hb dL_law_367 ?_
                    obtain ⟨hg99, hf⟩ := g_gd hf
                    refine va_sld hx hb hX hbl hbA hS hg99.vp dL_law_368 ?_
                    obtain ⟨r100, z101, hc102, hf⟩ := g_bd_e hf
                    refine g_calln (va_runV (As := [.int (xs (x3 + (1 : Int32)).toNatClampNeg), .int (xs (x3 + (2 : Int32)).toNatClampNeg)]) (rest := []) ⟨hx, hb, hml, hown, hts⟩ (c9_cut l G E1 z0 _ _ _ _ hc102) (cwV 2 hts gL_law_X9_cut rfl rfl rfl (by decide +kernel) ⟨Nat.le_of_ble_eq_true rfl, Nat.le_of_ble_eq_true rfl⟩) (g_preV (ci := 9) hR hK (hR.2.2.2.1) rfl) rfl rfl hl.1 rfl (lv_room (Nat.le_of_ble_eq_true rfl)) dL_law_369 ⟨by show _ ≤ 600000; omega, by show _ ≤ 7302250; omega⟩) hS (fun w103 E104 H locs hp hle105 hR hS => ?_)
                    subst hp
                    refine lv_aload_n hx hb dL_law_372 rfl (lv_at hl 2 rfl) ?_
                    refine lv_aload_n hx hb dL_law_373 rfl (lv_at hl 0 rfl) ?_
                    refine lv_iload_n hx hb dL_law_374 rfl (lv_at hl 3 rfl) ?_
                    refine lv_iconst (v := 1) hx hb dL_law_375 (by decide) ?_
                    refine lv_iadd hx hb dL_law_376 ?_
                    obtain ⟨hg106, hf⟩ := g_gd hf
                    refine va_sld hx hb hX hbl hbA hS hg106.vp dL_law_377 ?_
                    refine lv_aload_n hx hb dL_law_378 rfl (lv_at hl 0 rfl) ?_
                    refine lv_iload_n hx hb dL_law_379 rfl (lv_at hl 3 rfl) ?_
                    refine lv_iconst (v := 2) hx hb dL_law_380 (by decide) ?_
                    refine lv_iadd hx hb dL_law_381 ?_
                    obtain ⟨hg107, hf⟩ := g_gd hf
                    refine va_sld hx hb hX hbl hbA hS hg107.vp dL_law_382 ?_
                    obtain ⟨r108, z109, hc110, hf⟩ := g_bd_e hf
                    refine g_call (va_runV (As := [.int (xs (x3 + (1 : Int32)).toNatClampNeg), .int (xs (x3 + (2 : Int32)).toNatClampNeg)]) (rest := [.int r100]) ⟨hx, hb, hml, hown, hts⟩ (c10_cut l G E104 z101 _ _ _ _ _ hc110) (cwV 2 hts gL_law_X10_cut rfl rfl rfl (by decide +kernel) ⟨Nat.le_of_ble_eq_true rfl, Nat.le_of_ble_eq_true rfl⟩) (g_preV (ci := 10) hR hK (hR.2.2.2.2.1.1) rfl) rfl rfl hl.1 rfl (lv_room (Nat.le_of_ble_eq_true rfl)) dL_law_383 ⟨by show _ ≤ 600000; omega, by show _ ≤ 7302250; omega⟩) hS (fun w111 H locs hp hR hS => ?_)
                    obtain ⟨z112, ez112, hf⟩ := g_let_e hf
                    replace hR : g_R G E104 z112 H := by rw [ez112]; exact hR
                    subst hp
                    refine lv_icmp_eq (tgt := 781) hx hb dL_law_386 (by decide) (fun c113 => ?_) (fun c113 => ?_)
                    · replace hf := g_it hf c113
                      refine lv_iinc (v := x3 + 5) (lv' := [(3, .int (x3 + 5)), (0, .ref b), (1, .ref G.2.2), (2, .ref (G.2.2 + 54))]) hx hb dL_law_781 hl (k := 3) rfl rfl (by decide) rfl (fun ls hl => ?_)
                      refine lv_goto (tgt := 18) hx hb dL_law_784 (by decide) ?_
                      refine W.widen (k := 60 + 819 * (513 - n)) (n := 8609 + 4914 * (513 - n)) (by omega) (by omega) ?_
                      exact ih _ ((hle1).tr hle105) _ _ _ _ _ (by omega) hf  hR hS (lv_sub hl [1, 2, 3, 0] rfl)
                    · replace hf := g_if hf c113
                      refine lv_iconst (v := 0) hx hb dL_law_389 (by decide) ?_
                      exact absurd (g_s1 hf) (by decide)
                  · replace hf := g_if hf hc8_6
                    by_cases hc9_7 : t3 = (7 : Int32)
                    · replace hf := g_it hf hc9_7
                      refine lv_tableIn (off := 359) (tgt := 391) hx hb dL_law_32 (by rw [hc9_7]; decide) (by rw [hc9_7]; decide) (by rw [hc9_7]; rfl) (by decide) ?_
                      refine lv_aload_n hx hb dL_law_391 rfl (lv_at hl 1 rfl) ?_
                      refine lv_aload_n hx hb dL_law_392 rfl (lv_at hl 0 rfl) ?_
                      refine lv_iload_n hx hb dL_law_393 rfl (lv_at hl 3 rfl) ?_
                      refine lv_iconst (v := 1) hx hb dL_law_394 (by decide) ?_
                      refine lv_iadd hx hb dL_law_395 ?_
                      obtain ⟨hg114, hf⟩ := g_gd hf
                      refine va_sld hx hb hX hbl hbA hS hg114.vp dL_law_396 ?_
                      obtain ⟨r115, z116, hc117, hf⟩ := g_bd_e hf
                      refine g_calln (va_runV (As := [.int (xs (x3 + (1 : Int32)).toNatClampNeg)]) (rest := []) ⟨hx, hb, hml, hown, hts⟩ (c9_plan l G E1 z0 _ _ _ hc117) (cwV 1 hts gL_law_X9_plan rfl rfl rfl (by decide +kernel) ⟨Nat.le_of_ble_eq_true rfl, Nat.le_of_ble_eq_true rfl⟩) (g_preV (ci := 9) hR hK (hR.2.2.2.1) rfl) rfl rfl hl.1 rfl (lv_room (Nat.le_of_ble_eq_true rfl)) dL_law_397 ⟨by show _ ≤ 600000; omega, by show _ ≤ 7302250; omega⟩) hS (fun w118 E119 H locs hp hle120 hR hS => ?_)
                      subst hp
                      refine lv_aload_n hx hb dL_law_400 rfl (lv_at hl 2 rfl) ?_
                      refine lv_aload_n hx hb dL_law_401 rfl (lv_at hl 0 rfl) ?_
                      refine lv_iload_n hx hb dL_law_402 rfl (lv_at hl 3 rfl) ?_
                      refine lv_iconst (v := 1) hx hb dL_law_403 (by decide) ?_
                      refine lv_iadd hx hb dL_law_404 ?_
                      obtain ⟨hg121, hf⟩ := g_gd hf
                      refine va_sld hx hb hX hbl hbA hS hg121.vp dL_law_405 ?_
                      obtain ⟨r122, z123, hc124, hf⟩ := g_bd_e hf
                      refine g_call (va_runV (As := [.int (xs (x3 + (1 : Int32)).toNatClampNeg)]) (rest := [.int r115]) ⟨hx, hb, hml, hown, hts⟩ (c10_plan l G E119 z116 _ _ _ _ hc124) (cwV 1 hts gL_law_X10_plan rfl rfl rfl (by decide +kernel) ⟨Nat.le_of_ble_eq_true rfl, Nat.le_of_ble_eq_true rfl⟩) (g_preV (ci := 10) hR hK (hR.2.2.2.2.1.1) rfl) rfl rfl hl.1 rfl (lv_room (Nat.le_of_ble_eq_true rfl)) dL_law_406 ⟨by show _ ≤ 600000; omega, by show _ ≤ 7302250; omega⟩) hS (fun w125 H locs hp hR hS => ?_)
                      obtain ⟨z126, ez126, hf⟩ := g_let_e hf
                      replace hR : g_R G E119 z126 H := by rw [ez126]; exact hR
                      subst hp
                      refine lv_icmp_eq (tgt := 781) hx hb dL_law_409 (by decide) (fun c127 => ?_) (fun c127 => ?_)
                      · replace hf := g_it hf c127
                        refine lv_iinc (v := x3 + 5) (lv' := [(3, .int (x3 + 5)), (0, .ref b), (1, .ref G.2.2), (2, .ref (G.2.2 + 54))]) hx hb dL_law_781 hl (k := 3) rfl rfl (by decide) rfl (fun ls hl => ?_)
                        refine lv_goto (tgt := 18) hx hb dL_law_784 (by decide) ?_
                        refine W.widen (k := 60 + 819 * (513 - n)) (n := 8609 + 4914 * (513 - n)) (by omega) (by omega) ?_
                        exact ih _ ((hle1).tr hle120) _ _ _ _ _ (by omega) hf  hR hS (lv_sub hl [1, 2, 3, 0] rfl)
                      · replace hf := g_if hf c127
                        refine lv_iconst (v := 0) hx hb dL_law_412 (by decide) ?_
                        exact absurd (g_s1 hf) (by decide)
                    · replace hf := g_if hf hc9_7
                      by_cases hc10_8 : t3 = (8 : Int32)
                      · replace hf := g_it hf hc10_8
                        refine lv_tableIn (off := 382) (tgt := 414) hx hb dL_law_32 (by rw [hc10_8]; decide) (by rw [hc10_8]; decide) (by rw [hc10_8]; rfl) (by decide) ?_
                        refine lv_aload_n hx hb dL_law_414 rfl (lv_at hl 1 rfl) ?_
                        refine lv_aload_n hx hb dL_law_415 rfl (lv_at hl 0 rfl) ?_
                        refine lv_iload_n hx hb dL_law_416 rfl (lv_at hl 3 rfl) ?_
                        refine lv_iconst (v := 1) hx hb dL_law_417 (by decide) ?_
                        refine lv_iadd hx hb dL_law_418 ?_
                        obtain ⟨hg128, hf⟩ := g_gd hf
                        refine va_sld hx hb hX hbl hbA hS hg128.vp dL_law_419 ?_
                        obtain ⟨r129, z130, hc131, hf⟩ := g_bd_e hf
                        refine g_call (va_runV (As := [.int (xs (x3 + (1 : Int32)).toNatClampNeg)]) (rest := []) ⟨hx, hb, hml, hown, hts⟩ (c9_pass l G E1 z0 _ _ _ hc131) (cwV 1 hts gL_law_X9_pass rfl rfl rfl (by decide +kernel) ⟨Nat.le_of_ble_eq_true rfl, Nat.le_of_ble_eq_true rfl⟩) (g_preV (ci := 9) hR hK (hR.2.2.2.1) rfl) rfl rfl hl.1 rfl (lv_room (Nat.le_of_ble_eq_true rfl)) dL_law_420 ⟨by show _ ≤ 600000; omega, by show _ ≤ 7302250; omega⟩) hS (fun w132 H locs hp hR hS => ?_)
                        subst hp
                        refine lv_aload_n hx hb dL_law_423 rfl (lv_at hl 2 rfl) ?_
                        refine lv_aload_n hx hb dL_law_424 rfl (lv_at hl 0 rfl) ?_
                        refine lv_iload_n hx hb dL_law_425 rfl (lv_at hl 3 rfl) ?_
                        refine lv_iconst (v := 1) hx hb dL_law_426 (by decide) ?_
                        refine lv_iadd hx hb dL_law_427 ?_
                        obtain ⟨hg133, hf⟩ := g_gd hf
                        refine va_sld hx hb hX hbl hbA hS hg133.vp dL_law_428 ?_
                        obtain ⟨r134, z135, hc136, hf⟩ := g_bd_e hf
                        refine g_call (va_runV (As := [.int (xs (x3 + (1 : Int32)).toNatClampNeg)]) (rest := [.int r129]) ⟨hx, hb, hml, hown, hts⟩ (c10_pass l G E1 z130 _ _ _ _ hc136) (cwV 1 hts gL_law_X10_pass rfl rfl rfl (by decide +kernel) ⟨Nat.le_of_ble_eq_true rfl, Nat.le_of_ble_eq_true rfl⟩) (g_preV (ci := 10) hR hK (hR.2.2.2.2.1.1) rfl) rfl rfl hl.1 rfl (lv_room (Nat.le_of_ble_eq_true rfl)) dL_law_429 ⟨by show _ ≤ 600000; omega, by show _ ≤ 7302250; omega⟩) hS (fun w137 H locs hp hR hS => ?_)
                        obtain ⟨z138, ez138, hf⟩ := g_let_e hf
                        replace hR : g_R G E1 z138 H := by rw [ez138]; exact hR
                        subst hp
                        refine lv_icmp_eq (tgt := 781) hx hb dL_law_432 (by decide) (fun c139 => ?_) (fun c139 => ?_)
                        · replace hf := g_it hf c139
                          refine lv_iinc (v := x3 + 5) (lv' := [(3, .int (x3 + 5)), (0, .ref b), (1, .ref G.2.2), (2, .ref (G.2.2 + 54))]) hx hb dL_law_781 hl (k := 3) rfl rfl (by decide) rfl (fun ls hl => ?_)
                          refine lv_goto (tgt := 18) hx hb dL_law_784 (by decide) ?_
                          refine W.widen (k := 60 + 819 * (513 - n)) (n := 8609 + 4914 * (513 - n)) (by omega) (by omega) ?_
                          exact ih _ hle1 _ _ _ _ _ (by omega) hf  hR hS (lv_sub hl [1, 2, 3, 0] rfl)
                        · replace hf := g_if hf c139
                          refine lv_iconst (v := 0) hx hb dL_law_435 (by decide) ?_
                          exact absurd (g_s1 hf) (by decide)
                      · replace hf := g_if hf hc10_8
                        by_cases hc11_9 : t3 = (9 : Int32)
                        · replace hf := g_it hf hc11_9
                          refine lv_tableIn (off := 405) (tgt := 437) hx hb dL_law_32 (by rw [hc11_9]; decide) (by rw [hc11_9]; decide) (by rw [hc11_9]; rfl) (by decide) ?_
                          refine lv_aload_n hx hb dL_law_437 rfl (lv_at hl 1 rfl) ?_
                          obtain ⟨r140, z141, hc142, hf⟩ := g_bd_e hf
                          refine g_calln (va_runV (As := []) (rest := []) ⟨hx, hb, hml, hown, hts⟩ (c9_perform l G E1 z0  _ _ hc142) (cwV 0 hts gL_law_X9_perform rfl rfl rfl (by decide +kernel) ⟨Nat.le_of_ble_eq_true rfl, Nat.le_of_ble_eq_true rfl⟩) (g_preV (ci := 9) hR hK (hR.2.2.2.1) rfl) rfl rfl hl.1 rfl (lv_room (Nat.le_of_ble_eq_true rfl)) dL_law_438 ⟨by show _ ≤ 600000; omega, by show _ ≤ 7302250; omega⟩) hS (fun w143 E144 H locs hp hle145 hR hS => ?_)
                          subst hp
                          refine lv_aload_n hx hb dL_law_441 rfl (lv_at hl 2 rfl) ?_
                          obtain ⟨r146, z147, hc148, hf⟩ := g_bd_e hf
                          refine g_call (va_runV (As := []) (rest := [.int r140]) ⟨hx, hb, hml, hown, hts⟩ (c10_perform l G E144 z141 _ _ _ hc148) (cwV 0 hts gL_law_X10_perform rfl rfl rfl (by decide +kernel) ⟨Nat.le_of_ble_eq_true rfl, Nat.le_of_ble_eq_true rfl⟩) (g_preV (ci := 10) hR hK (hR.2.2.2.2.1.1) rfl) rfl rfl hl.1 rfl (lv_room (Nat.le_of_ble_eq_true rfl)) dL_law_442 ⟨by show _ ≤ 600000; omega, by show _ ≤ 7302250; omega⟩) hS (fun w149 H locs hp hR hS => ?_)
                          obtain ⟨z150, ez150, hf⟩ := g_let_e hf
                          replace hR : g_R G E144 z150 H := by rw [ez150]; exact hR
                          subst hp
                          refine lv_icmp_eq (tgt := 781) hx hb dL_law_445 (by decide) (fun c151 => ?_) (fun c151 => ?_)
                          · replace hf := g_it hf c151
                            refine lv_iinc (v := x3 + 5) (lv' := [(3, .int (x3 + 5)), (0, .ref b), (1, .ref G.2.2), (2, .ref (G.2.2 + 54))]) hx hb dL_law_781 hl (k := 3) rfl rfl (by decide) rfl (fun ls hl => ?_)
                            refine lv_goto (tgt := 18) hx hb dL_law_784 (by decide) ?_
                            refine W.widen (k := 60 + 819 * (513 - n)) (n := 8609 + 4914 * (513 - n)) (by omega) (by omega) ?_
                            exact ih _ ((hle1).tr hle145) _ _ _ _ _ (by omega) hf  hR hS (lv_sub hl [1, 2, 3, 0] rfl)
                          · replace hf := g_if hf c151
                            refine lv_iconst (v := 0) hx hb dL_law_448 (by decide) ?_
                            exact absurd (g_s1 hf) (by decide)
                        · replace hf := g_if hf hc11_9
                          by_cases hc12_10 : t3 = (10 : Int32)
                          · replace hf := g_it hf hc12_10
                            refine lv_tableIn (off := 418) (tgt := 450) hx hb dL_law_32 (by rw [hc12_10]; decide) (by rw [hc12_10]; decide) (by rw [hc12_10]; rfl) (by decide) ?_
                            refine lv_aload_n hx hb dL_law_450 rfl (lv_at hl 1 rfl) ?_
                            refine lv_aload_n hx hb dL_law_451 rfl (lv_at hl 0 rfl) ?_
                            refine lv_iload_n hx hb dL_law_452 rfl (lv_at hl 3 rfl) ?_
                            refine lv_iconst (v := 1) hx hb dL_law_453 (by decide) ?_
                            refine lv_iadd hx hb dL_law_454 ?_
                            obtain ⟨hg152, hf⟩ := g_gd hf
                            refine va_sld hx hb hX hbl hbA hS hg152.vp dL_law_455 ?_
                            refine lv_i2c hx hb dL_law_456 rfl ?_
                            obtain ⟨r153, z154, hc155, hf⟩ := g_bd_e hf
                            refine g_call (va_runV (As := [.int (((xs (x3 + (1 : Int32)).toNatClampNeg).toUInt32 % 65536).toInt32)]) (rest := []) ⟨hx, hb, hml, hown, hts⟩ (c9_type l G E1 z0 _ _ _ hc155) (cwV 1 hts gL_law_X9_type rfl rfl rfl (by decide +kernel) ⟨Nat.le_of_ble_eq_true rfl, Nat.le_of_ble_eq_true rfl⟩) (g_preV (ci := 9) hR hK (hR.2.2.2.1) rfl) rfl rfl hl.1 rfl (lv_room (Nat.le_of_ble_eq_true rfl)) dL_law_457 ⟨by show _ ≤ 600000; omega, by show _ ≤ 7302250; omega⟩) hS (fun w156 H locs hp hR hS => ?_)
                            subst hp
                            refine lv_aload_n hx hb dL_law_460 rfl (lv_at hl 2 rfl) ?_
                            refine lv_aload_n hx hb dL_law_461 rfl (lv_at hl 0 rfl) ?_
                            refine lv_iload_n hx hb dL_law_462 rfl (lv_at hl 3 rfl) ?_
                            refine lv_iconst (v := 1) hx hb dL_law_463 (by decide) ?_
                            refine lv_iadd hx hb dL_law_464 ?_
                            obtain ⟨hg157, hf⟩ := g_gd hf
                            refine va_sld hx hb hX hbl hbA hS hg157.vp dL_law_465 ?_
                            refine lv_i2c hx hb dL_law_466 rfl ?_
                            obtain ⟨r158, z159, hc160, hf⟩ := g_bd_e hf
                            refine g_call (va_runV (As := [.int (((xs (x3 + (1 : Int32)).toNatClampNeg).toUInt32 % 65536).toInt32)]) (rest := [.int r153]) ⟨hx, hb, hml, hown, hts⟩ (c10_type l G E1 z154 _ _ _ _ hc160) (cwV 1 hts gL_law_X10_type rfl rfl rfl (by decide +kernel) ⟨Nat.le_of_ble_eq_true rfl, Nat.le_of_ble_eq_true rfl⟩) (g_preV (ci := 10) hR hK (hR.2.2.2.2.1.1) rfl) rfl rfl hl.1 rfl (lv_room (Nat.le_of_ble_eq_true rfl)) dL_law_467 ⟨by show _ ≤ 600000; omega, by show _ ≤ 7302250; omega⟩) hS (fun w161 H locs hp hR hS => ?_)
                            obtain ⟨z162, ez162, hf⟩ := g_let_e hf
                            replace hR : g_R G E1 z162 H := by rw [ez162]; exact hR
                            subst hp
                            refine lv_icmp_eq (tgt := 781) hx hb dL_law_470 (by decide) (fun c163 => ?_) (fun c163 => ?_)
                            · replace hf := g_it hf c163
                              refine lv_iinc (v := x3 + 5) (lv' := [(3, .int (x3 + 5)), (0, .ref b), (1, .ref G.2.2), (2, .ref (G.2.2 + 54))]) hx hb dL_law_781 hl (k := 3) rfl rfl (by decide) rfl (fun ls hl => ?_)
                              refine lv_goto (tgt := 18) hx hb dL_law_784 (by decide) ?_
                              refine W.widen (k := 60 + 819 * (513 - n)) (n := 8609 + 4914 * (513 - n)) (by omega) (by omega) ?_
                              exact ih _ hle1 _ _ _ _ _ (by omega) hf  hR hS (lv_sub hl [1, 2, 3, 0] rfl)
                            · replace hf := g_if hf c163
                              refine lv_iconst (v := 0) hx hb dL_law_473 (by decide) ?_
                              exact absurd (g_s1 hf) (by decide)
                          · replace hf := g_if hf hc12_10
                            by_cases hc13_11 : t3 = (11 : Int32)
                            · replace hf := g_it hf hc13_11
                              refine lv_tableIn (off := 443) (tgt := 475) hx hb dL_law_32 (by rw [hc13_11]; decide) (by rw [hc13_11]; decide) (by rw [hc13_11]; rfl) (by decide) ?_
                              refine lv_aload_n hx hb dL_law_475 rfl (lv_at hl 1 rfl) ?_
                              obtain ⟨r164, z165, hc166, hf⟩ := g_bd_e hf
                              refine g_call (va_runV (As := []) (rest := []) ⟨hx, hb, hml, hown, hts⟩ (c9_clearText l G E1 z0  _ _ hc166) (cwV 0 hts gL_law_X9_clearText rfl rfl rfl (by decide +kernel) ⟨Nat.le_of_ble_eq_true rfl, Nat.le_of_ble_eq_true rfl⟩) (g_preV (ci := 9) hR hK (hR.2.2.2.1) rfl) rfl rfl hl.1 rfl (lv_room (Nat.le_of_ble_eq_true rfl)) dL_law_476 ⟨by show _ ≤ 600000; omega, by show _ ≤ 7302250; omega⟩) hS (fun w167 H locs hp hR hS => ?_)
                              subst hp
                              refine lv_aload_n hx hb dL_law_479 rfl (lv_at hl 2 rfl) ?_
                              obtain ⟨r168, z169, hc170, hf⟩ := g_bd_e hf
                              refine g_call (va_runV (As := []) (rest := [.int r164]) ⟨hx, hb, hml, hown, hts⟩ (c10_clearText l G E1 z165 _ _ _ hc170) (cwV 0 hts gL_law_X10_clearText rfl rfl rfl (by decide +kernel) ⟨Nat.le_of_ble_eq_true rfl, Nat.le_of_ble_eq_true rfl⟩) (g_preV (ci := 10) hR hK (hR.2.2.2.2.1.1) rfl) rfl rfl hl.1 rfl (lv_room (Nat.le_of_ble_eq_true rfl)) dL_law_480 ⟨by show _ ≤ 600000; omega, by show _ ≤ 7302250; omega⟩) hS (fun w171 H locs hp hR hS => ?_)
                              obtain ⟨z172, ez172, hf⟩ := g_let_e hf
                              replace hR : g_R G E1 z172 H := by rw [ez172]; exact hR
                              subst hp
                              refine lv_icmp_eq (tgt := 781) hx hb dL_law_483 (by decide) (fun c173 => ?_) (fun c173 => ?_)
                              · replace hf := g_it hf c173
                                refine lv_iinc (v := x3 + 5) (lv' := [(3, .int (x3 + 5)), (0, .ref b), (1, .ref G.2.2), (2, .ref (G.2.2 + 54))]) hx hb dL_law_781 hl (k := 3) rfl rfl (by decide) rfl (fun ls hl => ?_)
                                refine lv_goto (tgt := 18) hx hb dL_law_784 (by decide) ?_
                                refine W.widen (k := 60 + 819 * (513 - n)) (n := 8609 + 4914 * (513 - n)) (by omega) (by omega) ?_
                                exact ih _ hle1 _ _ _ _ _ (by omega) hf  hR hS (lv_sub hl [1, 2, 3, 0] rfl)
                              · replace hf := g_if hf c173
                                refine lv_iconst (v := 0) hx hb dL_law_486 (by decide) ?_
                                exact absurd (g_s1 hf) (by decide)
                            · replace hf := g_if hf hc13_11
                              by_cases hc14_12 : t3 = (12 : Int32)
                              · replace hf := g_it hf hc14_12
                                refine lv_tableIn (off := 456) (tgt := 488) hx hb dL_law_32 (by rw [hc14_12]; decide) (by rw [hc14_12]; decide) (by rw [hc14_12]; rfl) (by decide) ?_
                                refine lv_aload_n hx hb dL_law_488 rfl (lv_at hl 1 rfl) ?_
                                obtain ⟨r174, z175, hc176, hf⟩ := g_bd_e hf
                                refine g_call (va_runV (As := []) (rest := []) ⟨hx, hb, hml, hown, hts⟩ (c9_undo l G E1 z0  _ _ hc176) (cwV 0 hts gL_law_X9_undo rfl rfl rfl (by decide +kernel) ⟨Nat.le_of_ble_eq_true rfl, Nat.le_of_ble_eq_true rfl⟩) (g_preV (ci := 9) hR hK (hR.2.2.2.1) rfl) rfl rfl hl.1 rfl (lv_room (Nat.le_of_ble_eq_true rfl)) dL_law_489 ⟨by show _ ≤ 600000; omega, by show _ ≤ 7302250; omega⟩) hS (fun w177 H locs hp hR hS => ?_)
                                subst hp
                                refine lv_aload_n hx hb dL_law_492 rfl (lv_at hl 2 rfl) ?_
                                obtain ⟨r178, z179, hc180, hf⟩ := g_bd_e hf
                                refine g_call (va_runV (As := []) (rest := [.int r174]) ⟨hx, hb, hml, hown, hts⟩ (c10_undo l G E1 z175 _ _ _ hc180) (cwV 0 hts gL_law_X10_undo rfl rfl rfl (by decide +kernel) ⟨Nat.le_of_ble_eq_true rfl, Nat.le_of_ble_eq_true rfl⟩) (g_preV (ci := 10) hR hK (hR.2.2.2.2.1.1) rfl) rfl rfl hl.1 rfl (lv_room (Nat.le_of_ble_eq_true rfl)) dL_law_493 ⟨by show _ ≤ 600000; omega, by show _ ≤ 7302250; omega⟩) hS (fun w181 H locs hp hR hS => ?_)
                                obtain ⟨z182, ez182, hf⟩ := g_let_e hf
                                replace hR : g_R G E1 z182 H := by rw [ez182]; exact hR
                                subst hp
                                refine lv_icmp_eq (tgt := 781) hx hb dL_law_496 (by decide) (fun c183 => ?_) (fun c183 => ?_)
                                · replace hf := g_it hf c183
                                  refine lv_iinc (v := x3 + 5) (lv' := [(3, .int (x3 + 5)), (0, .ref b), (1, .ref G.2.2), (2, .ref (G.2.2 + 54))]) hx hb dL_law_781 hl (k := 3) rfl rfl (by decide) rfl (fun ls hl => ?_)
                                  refine lv_goto (tgt := 18) hx hb dL_law_784 (by decide) ?_
                                  refine W.widen (k := 60 + 819 * (513 - n)) (n := 8609 + 4914 * (513 - n)) (by omega) (by omega) ?_
                                  exact ih _ hle1 _ _ _ _ _ (by omega) hf  hR hS (lv_sub hl [1, 2, 3, 0] rfl)
                                · replace hf := g_if hf c183
                                  refine lv_iconst (v := 0) hx hb dL_law_499 (by decide) ?_
                                  exact absurd (g_s1 hf) (by decide)
                              · replace hf := g_if hf hc14_12
                                by_cases hc15_13 : t3 = (13 : Int32)
                                · replace hf := g_it hf hc15_13
                                  refine lv_tableIn (off := 469) (tgt := 501) hx hb dL_law_32 (by rw [hc15_13]; decide) (by rw [hc15_13]; decide) (by rw [hc15_13]; rfl) (by decide) ?_
                                  refine lv_aload_n hx hb dL_law_501 rfl (lv_at hl 1 rfl) ?_
                                  obtain ⟨r184, z185, hc186, hf⟩ := g_bd_e hf
                                  refine g_call (va_runV (As := []) (rest := []) ⟨hx, hb, hml, hown, hts⟩ (c9_keep l G E1 z0  _ _ hc186) (cwV 0 hts gL_law_X9_keep rfl rfl rfl (by decide +kernel) ⟨Nat.le_of_ble_eq_true rfl, Nat.le_of_ble_eq_true rfl⟩) (g_preV (ci := 9) hR hK (hR.2.2.2.1) rfl) rfl rfl hl.1 rfl (lv_room (Nat.le_of_ble_eq_true rfl)) dL_law_502 ⟨by show _ ≤ 600000; omega, by show _ ≤ 7302250; omega⟩) hS (fun w187 H locs hp hR hS => ?_)
                                  subst hp
                                  refine lv_aload_n hx hb dL_law_505 rfl (lv_at hl 2 rfl) ?_
                                  obtain ⟨r188, z189, hc190, hf⟩ := g_bd_e hf
                                  refine g_call (va_runV (As := []) (rest := [.int r184]) ⟨hx, hb, hml, hown, hts⟩ (c10_keep l G E1 z185 _ _ _ hc190) (cwV 0 hts gL_law_X10_keep rfl rfl rfl (by decide +kernel) ⟨Nat.le_of_ble_eq_true rfl, Nat.le_of_ble_eq_true rfl⟩) (g_preV (ci := 10) hR hK (hR.2.2.2.2.1.1) rfl) rfl rfl hl.1 rfl (lv_room (Nat.le_of_ble_eq_true rfl)) dL_law_506 ⟨by show _ ≤ 600000; omega, by show _ ≤ 7302250; omega⟩) hS (fun w191 H locs hp hR hS => ?_)
                                  obtain ⟨z192, ez192, hf⟩ := g_let_e hf
                                  replace hR : g_R G E1 z192 H := by rw [ez192]; exact hR
                                  subst hp
                                  refine lv_icmp_eq (tgt := 781) hx hb dL_law_509 (by decide) (fun c193 => ?_) (fun c193 => ?_)
                                  · replace hf := g_it hf c193
                                    refine lv_iinc (v := x3 + 5) (lv' := [(3, .int (x3 + 5)), (0, .ref b), (1, .ref G.2.2), (2, .ref (G.2.2 + 54))]) hx hb dL_law_781 hl (k := 3) rfl rfl (by decide) rfl (fun ls hl => ?_)
                                    refine lv_goto (tgt := 18) hx hb dL_law_784 (by decide) ?_
                                    refine W.widen (k := 60 + 819 * (513 - n)) (n := 8609 + 4914 * (513 - n)) (by omega) (by omega) ?_
                                    exact ih _ hle1 _ _ _ _ _ (by omega) hf  hR hS (lv_sub hl [1, 2, 3, 0] rfl)
                                  · replace hf := g_if hf c193
                                    refine lv_iconst (v := 0) hx hb dL_law_512 (by decide) ?_
                                    exact absurd (g_s1 hf) (by decide)
                                · replace hf := g_if hf hc15_13
                                  by_cases hc16_14 : t3 = (14 : Int32)
                                  · replace hf := g_it hf hc16_14
                                    refine lv_tableIn (off := 482) (tgt := 514) hx hb dL_law_32 (by rw [hc16_14]; decide) (by rw [hc16_14]; decide) (by rw [hc16_14]; rfl) (by decide) ?_
                                    refine lv_aload_n hx hb dL_law_514 rfl (lv_at hl 1 rfl) ?_
                                    obtain ⟨r194, z195, hc196, hf⟩ := g_bd_e hf
                                    refine g_call (va_runV (As := []) (rest := []) ⟨hx, hb, hml, hown, hts⟩ (c9_restore l G E1 z0  _ _ hc196) (cwV 0 hts gL_law_X9_restore rfl rfl rfl (by decide +kernel) ⟨Nat.le_of_ble_eq_true rfl, Nat.le_of_ble_eq_true rfl⟩) (g_preV (ci := 9) hR hK (hR.2.2.2.1) rfl) rfl rfl hl.1 rfl (lv_room (Nat.le_of_ble_eq_true rfl)) dL_law_515 ⟨by show _ ≤ 600000; omega, by show _ ≤ 7302250; omega⟩) hS (fun w197 H locs hp hR hS => ?_)
                                    subst hp
                                    refine lv_aload_n hx hb dL_law_518 rfl (lv_at hl 2 rfl) ?_
                                    obtain ⟨r198, z199, hc200, hf⟩ := g_bd_e hf
                                    refine g_call (va_runV (As := []) (rest := [.int r194]) ⟨hx, hb, hml, hown, hts⟩ (c10_restore l G E1 z195 _ _ _ hc200) (cwV 0 hts gL_law_X10_restore rfl rfl rfl (by decide +kernel) ⟨Nat.le_of_ble_eq_true rfl, Nat.le_of_ble_eq_true rfl⟩) (g_preV (ci := 10) hR hK (hR.2.2.2.2.1.1) rfl) rfl rfl hl.1 rfl (lv_room (Nat.le_of_ble_eq_true rfl)) dL_law_519 ⟨by show _ ≤ 600000; omega, by show _ ≤ 7302250; omega⟩) hS (fun w201 H locs hp hR hS => ?_)
                                    obtain ⟨z202, ez202, hf⟩ := g_let_e hf
                                    replace hR : g_R G E1 z202 H := by rw [ez202]; exact hR
                                    subst hp
                                    refine lv_icmp_eq (tgt := 781) hx hb dL_law_522 (by decide) (fun c203 => ?_) (fun c203 => ?_)
                                    · replace hf := g_it hf c203
                                      refine lv_iinc (v := x3 + 5) (lv' := [(3, .int (x3 + 5)), (0, .ref b), (1, .ref G.2.2), (2, .ref (G.2.2 + 54))]) hx hb dL_law_781 hl (k := 3) rfl rfl (by decide) rfl (fun ls hl => ?_)
                                      refine lv_goto (tgt := 18) hx hb dL_law_784 (by decide) ?_
                                      refine W.widen (k := 60 + 819 * (513 - n)) (n := 8609 + 4914 * (513 - n)) (by omega) (by omega) ?_
                                      exact ih _ hle1 _ _ _ _ _ (by omega) hf  hR hS (lv_sub hl [1, 2, 3, 0] rfl)
                                    · replace hf := g_if hf c203
                                      refine lv_iconst (v := 0) hx hb dL_law_525 (by decide) ?_
                                      exact absurd (g_s1 hf) (by decide)
                                  · replace hf := g_if hf hc16_14
                                    by_cases hc17_15 : t3 = (15 : Int32)
                                    · replace hf := g_it hf hc17_15
                                      refine lv_tableIn (off := 495) (tgt := 527) hx hb dL_law_32 (by rw [hc17_15]; decide) (by rw [hc17_15]; decide) (by rw [hc17_15]; rfl) (by decide) ?_
                                      refine lv_aload_n hx hb dL_law_527 rfl (lv_at hl 1 rfl) ?_
                                      refine lv_aload_n hx hb dL_law_528 rfl (lv_at hl 0 rfl) ?_
                                      refine lv_iload_n hx hb dL_law_529 rfl (lv_at hl 3 rfl) ?_
                                      refine lv_iconst (v := 1) hx hb dL_law_530 (by decide) ?_
                                      refine lv_iadd hx hb dL_law_531 ?_
                                      obtain ⟨hg204, hf⟩ := g_gd hf
                                      refine va_sld hx hb hX hbl hbA hS hg204.vp dL_law_532 ?_
                                      refine lv_aload_n hx hb dL_law_533 rfl (lv_at hl 0 rfl) ?_
                                      refine lv_iload_n hx hb dL_law_534 rfl (lv_at hl 3 rfl) ?_
                                      refine lv_iconst (v := 2) hx hb dL_law_535 (by decide) ?_
                                      refine lv_iadd hx hb dL_law_536 ?_
                                      obtain ⟨hg205, hf⟩ := g_gd hf
                                      refine va_sld hx hb hX hbl hbA hS hg205.vp dL_law_537 ?_
                                      obtain ⟨r206, hc207, hf⟩ := g_b1_e hf
                                      refine g_call (va_runV (As := [.int (xs (x3 + (1 : Int32)).toNatClampNeg), .int (xs (x3 + (2 : Int32)).toNatClampNeg)]) (rest := []) ⟨hx, hb, hml, hown, hts⟩ (c9_sheet l G E1 z0 _ _ _ hc207) (cwV 2 hts gL_law_X9_sheet rfl rfl rfl (by decide +kernel) ⟨Nat.le_of_ble_eq_true rfl, Nat.le_of_ble_eq_true rfl⟩) (g_preV (ci := 9) hR hK (hR.2.2.2.1) rfl) rfl rfl hl.1 rfl (lv_room (Nat.le_of_ble_eq_true rfl)) dL_law_538 ⟨by show _ ≤ 600000; omega, by show _ ≤ 7302250; omega⟩) hS (fun w208 H locs hp hR hS => ?_)
                                      subst hp
                                      refine lv_aload_n hx hb dL_law_541 rfl (lv_at hl 2 rfl) ?_
                                      refine lv_aload_n hx hb dL_law_542 rfl (lv_at hl 0 rfl) ?_
                                      refine lv_iload_n hx hb dL_law_543 rfl (lv_at hl 3 rfl) ?_
                                      refine lv_iconst (v := 1) hx hb dL_law_544 (by decide) ?_
                                      refine lv_iadd hx hb dL_law_545 ?_
                                      obtain ⟨hg209, hf⟩ := g_gd hf
                                      refine va_sld hx hb hX hbl hbA hS hg209.vp dL_law_546 ?_
                                      refine lv_aload_n hx hb dL_law_547 rfl (lv_at hl 0 rfl) ?_
                                      refine lv_iload_n hx hb dL_law_548 rfl (lv_at hl 3 rfl) ?_
                                      refine lv_iconst (v := 2) hx hb dL_law_549 (by decide) ?_
                                      refine lv_iadd hx hb dL_law_550 ?_
                                      obtain ⟨hg210, hf⟩ := g_gd hf
                                      refine va_sld hx hb hX hbl hbA hS hg210.vp dL_law_551 ?_
                                      obtain ⟨r211, hc212, hf⟩ := g_b1_e hf
                                      refine g_call (va_runV (As := [.int (xs (x3 + (1 : Int32)).toNatClampNeg), .int (xs (x3 + (2 : Int32)).toNatClampNeg)]) (rest := [.int r206]) ⟨hx, hb, hml, hown, hts⟩ (c10_sheet l G E1 z0 _ _ _ _ hc212) (cwV 2 hts gL_law_X10_sheet rfl rfl rfl (by decide +kernel) ⟨Nat.le_of_ble_eq_true rfl, Nat.le_of_ble_eq_true rfl⟩) (g_preV (ci := 10) hR hK (hR.2.2.2.2.1.1) rfl) rfl rfl hl.1 rfl (lv_room (Nat.le_of_ble_eq_true rfl)) dL_law_552 ⟨by show _ ≤ 600000; omega, by show _ ≤ 7302250; omega⟩) hS (fun w213 H locs hp hR hS => ?_)
                                      replace hR : g_R G E1 z0 H := hR
                                      subst hp
                                      refine lv_icmp_eq (tgt := 781) hx hb dL_law_555 (by decide) (fun c214 => ?_) (fun c214 => ?_)
                                      · replace hf := g_it hf c214
                                        refine lv_iinc (v := x3 + 5) (lv' := [(3, .int (x3 + 5)), (0, .ref b), (1, .ref G.2.2), (2, .ref (G.2.2 + 54))]) hx hb dL_law_781 hl (k := 3) rfl rfl (by decide) rfl (fun ls hl => ?_)
                                        refine lv_goto (tgt := 18) hx hb dL_law_784 (by decide) ?_
                                        refine W.widen (k := 60 + 819 * (513 - n)) (n := 8609 + 4914 * (513 - n)) (by omega) (by omega) ?_
                                        exact ih _ hle1 _ _ _ _ _ (by omega) hf  hR hS (lv_sub hl [1, 2, 3, 0] rfl)
                                      · replace hf := g_if hf c214
                                        refine lv_iconst (v := 0) hx hb dL_law_558 (by decide) ?_
                                        exact absurd (g_s1 hf) (by decide)
                                    · replace hf := g_if hf hc17_15
                                      by_cases hc18_16 : t3 = (16 : Int32)
                                      · replace hf := g_it hf hc18_16
                                        refine lv_tableIn (off := 528) (tgt := 560) hx hb dL_law_32 (by rw [hc18_16]; decide) (by rw [hc18_16]; decide) (by rw [hc18_16]; rfl) (by decide) ?_
                                        refine lv_aload_n hx hb dL_law_560 rfl (lv_at hl 1 rfl) ?_
                                        refine lv_aload_n hx hb dL_law_561 rfl (lv_at hl 0 rfl) ?_
                                        refine lv_iload_n hx hb dL_law_562 rfl (lv_at hl 3 rfl) ?_
                                        refine lv_iconst (v := 1) hx hb dL_law_563 (by decide) ?_
                                        refine lv_iadd hx hb dL_law_564 ?_
                                        obtain ⟨hg215, hf⟩ := g_gd hf
                                        refine va_sld hx hb hX hbl hbA hS hg215.vp dL_law_565 ?_
                                        refine lv_aload_n hx hb dL_law_566 rfl (lv_at hl 0 rfl) ?_
                                        refine lv_iload_n hx hb dL_law_567 rfl (lv_at hl 3 rfl) ?_
                                        refine lv_iconst (v := 2) hx hb dL_law_568 (by decide) ?_
                                        refine lv_iadd hx hb dL_law_569 ?_
                                        obtain ⟨hg216, hf⟩ := g_gd hf
                                        refine va_sld hx hb hX hbl hbA hS hg216.vp dL_law_570 ?_
                                        obtain ⟨r217, hc218, hf⟩ := g_b1_e hf
                                        refine g_call (va_runV (As := [.int (xs (x3 + (1 : Int32)).toNatClampNeg), .int (xs (x3 + (2 : Int32)).toNatClampNeg)]) (rest := []) ⟨hx, hb, hml, hown, hts⟩ (c9_at l G E1 z0 _ _ _ hc218) (cwV 2 hts gL_law_X9_at rfl rfl rfl (by decide +kernel) ⟨Nat.le_of_ble_eq_true rfl, Nat.le_of_ble_eq_true rfl⟩) (g_preV (ci := 9) hR hK (hR.2.2.2.1) rfl) rfl rfl hl.1 rfl (lv_room (Nat.le_of_ble_eq_true rfl)) dL_law_571 ⟨by show _ ≤ 600000; omega, by show _ ≤ 7302250; omega⟩) hS (fun w219 H locs hp hR hS => ?_)
                                        subst hp
                                        refine lv_aload_n hx hb dL_law_574 rfl (lv_at hl 2 rfl) ?_
                                        refine lv_aload_n hx hb dL_law_575 rfl (lv_at hl 0 rfl) ?_
                                        refine lv_iload_n hx hb dL_law_576 rfl (lv_at hl 3 rfl) ?_
                                        refine lv_iconst (v := 1) hx hb dL_law_577 (by decide) ?_
                                        refine lv_iadd hx hb dL_law_578 ?_
                                        obtain ⟨hg220, hf⟩ := g_gd hf
                                        refine va_sld hx hb hX hbl hbA hS hg220.vp dL_law_579 ?_
                                        refine lv_aload_n hx hb dL_law_580 rfl (lv_at hl 0 rfl) ?_
                                        refine lv_iload_n hx hb dL_law_581 rfl (lv_at hl 3 rfl) ?_
                                        refine lv_iconst (v := 2) hx hb dL_law_582 (by decide) ?_
                                        refine lv_iadd hx hb dL_law_583 ?_
                                        obtain ⟨hg221, hf⟩ := g_gd hf
                                        refine va_sld hx hb hX hbl hbA hS hg221.vp dL_law_584 ?_
                                        obtain ⟨r222, hc223, hf⟩ := g_b1_e hf
                                        refine g_call (va_runV (As := [.int (xs (x3 + (1 : Int32)).toNatClampNeg), .int (xs (x3 + (2 : Int32)).toNatClampNeg)]) (rest := [.int r217]) ⟨hx, hb, hml, hown, hts⟩ (c10_at l G E1 z0 _ _ _ _ hc223) (cwV 2 hts gL_law_X10_at rfl rfl rfl (by decide +kernel) ⟨Nat.le_of_ble_eq_true rfl, Nat.le_of_ble_eq_true rfl⟩) (g_preV (ci := 10) hR hK (hR.2.2.2.2.1.1) rfl) rfl rfl hl.1 rfl (lv_room (Nat.le_of_ble_eq_true rfl)) dL_law_585 ⟨by show _ ≤ 600000; omega, by show _ ≤ 7302250; omega⟩) hS (fun w224 H locs hp hR hS => ?_)
                                        replace hR : g_R G E1 z0 H := hR
                                        subst hp
                                        refine lv_icmp_eq (tgt := 781) hx hb dL_law_588 (by decide) (fun c225 => ?_) (fun c225 => ?_)
                                        · replace hf := g_it hf c225
                                          refine lv_iinc (v := x3 + 5) (lv' := [(3, .int (x3 + 5)), (0, .ref b), (1, .ref G.2.2), (2, .ref (G.2.2 + 54))]) hx hb dL_law_781 hl (k := 3) rfl rfl (by decide) rfl (fun ls hl => ?_)
                                          refine lv_goto (tgt := 18) hx hb dL_law_784 (by decide) ?_
                                          refine W.widen (k := 60 + 819 * (513 - n)) (n := 8609 + 4914 * (513 - n)) (by omega) (by omega) ?_
                                          exact ih _ hle1 _ _ _ _ _ (by omega) hf  hR hS (lv_sub hl [1, 2, 3, 0] rfl)
                                        · replace hf := g_if hf c225
                                          refine lv_iconst (v := 0) hx hb dL_law_591 (by decide) ?_
                                          exact absurd (g_s1 hf) (by decide)
                                      · replace hf := g_if hf hc18_16
                                        by_cases hc19_17 : t3 = (17 : Int32)
                                        · replace hf := g_it hf hc19_17
                                          refine lv_tableIn (off := 561) (tgt := 593) hx hb dL_law_32 (by rw [hc19_17]; decide) (by rw [hc19_17]; decide) (by rw [hc19_17]; rfl) (by decide) ?_
                                          refine lv_aload_n hx hb dL_law_593 rfl (lv_at hl 1 rfl) ?_
                                          refine lv_aload_n hx hb dL_law_594 rfl (lv_at hl 0 rfl) ?_
                                          refine lv_iload_n hx hb dL_law_595 rfl (lv_at hl 3 rfl) ?_
                                          refine lv_iconst (v := 1) hx hb dL_law_596 (by decide) ?_
                                          refine lv_iadd hx hb dL_law_597 ?_
                                          obtain ⟨hg226, hf⟩ := g_gd hf
                                          refine va_sld hx hb hX hbl hbA hS hg226.vp dL_law_598 ?_
                                          refine lv_aload_n hx hb dL_law_599 rfl (lv_at hl 0 rfl) ?_
                                          refine lv_iload_n hx hb dL_law_600 rfl (lv_at hl 3 rfl) ?_
                                          refine lv_iconst (v := 2) hx hb dL_law_601 (by decide) ?_
                                          refine lv_iadd hx hb dL_law_602 ?_
                                          obtain ⟨hg227, hf⟩ := g_gd hf
                                          refine va_sld hx hb hX hbl hbA hS hg227.vp dL_law_603 ?_
                                          obtain ⟨r228, hc229, hf⟩ := g_b1_e hf
                                          refine g_call (va_runV (As := [.int (xs (x3 + (1 : Int32)).toNatClampNeg), .int (xs (x3 + (2 : Int32)).toNatClampNeg)]) (rest := []) ⟨hx, hb, hml, hown, hts⟩ (c9_ordered l G E1 z0 _ _ _ hc229) (cwV 2 hts gL_law_X9_ordered rfl rfl rfl (by decide +kernel) ⟨Nat.le_of_ble_eq_true rfl, Nat.le_of_ble_eq_true rfl⟩) (g_preV (ci := 9) hR hK (hR.2.2.2.1) rfl) rfl rfl hl.1 rfl (lv_room (Nat.le_of_ble_eq_true rfl)) dL_law_604 ⟨by show _ ≤ 600000; omega, by show _ ≤ 7302250; omega⟩) hS (fun w230 H locs hp hR hS => ?_)
                                          subst hp
                                          refine lv_aload_n hx hb dL_law_607 rfl (lv_at hl 2 rfl) ?_
                                          refine lv_aload_n hx hb dL_law_608 rfl (lv_at hl 0 rfl) ?_
                                          refine lv_iload_n hx hb dL_law_609 rfl (lv_at hl 3 rfl) ?_
                                          refine lv_iconst (v := 1) hx hb dL_law_610 (by decide) ?_
                                          refine lv_iadd hx hb dL_law_611 ?_
                                          obtain ⟨hg231, hf⟩ := g_gd hf
                                          refine va_sld hx hb hX hbl hbA hS hg231.vp dL_law_612 ?_
                                          refine lv_aload_n hx hb dL_law_613 rfl (lv_at hl 0 rfl) ?_
                                          refine lv_iload_n hx hb dL_law_614 rfl (lv_at hl 3 rfl) ?_
                                          refine lv_iconst (v := 2) hx hb dL_law_615 (by decide) ?_
                                          refine lv_iadd hx hb dL_law_616 ?_
                                          obtain ⟨hg232, hf⟩ := g_gd hf
                                          refine va_sld hx hb hX hbl hbA hS hg232.vp dL_law_617 ?_
                                          obtain ⟨r233, hc234, hf⟩ := g_b1_e hf
                                          refine g_call (va_runV (As := [.int (xs (x3 + (1 : Int32)).toNatClampNeg), .int (xs (x3 + (2 : Int32)).toNatClampNeg)]) (rest := [.int r228]) ⟨hx, hb, hml, hown, hts⟩ (c10_ordered l G E1 z0 _ _ _ _ hc234) (cwV 2 hts gL_law_X10_ordered rfl rfl rfl (by decide +kernel) ⟨Nat.le_of_ble_eq_true rfl, Nat.le_of_ble_eq_true rfl⟩) (g_preV (ci := 10) hR hK (hR.2.2.2.2.1.1) rfl) rfl rfl hl.1 rfl (lv_room (Nat.le_of_ble_eq_true rfl)) dL_law_618 ⟨by show _ ≤ 600000; omega, by show _ ≤ 7302250; omega⟩) hS (fun w235 H locs hp hR hS => ?_)
                                          replace hR : g_R G E1 z0 H := hR
                                          subst hp
                                          refine lv_icmp_eq (tgt := 781) hx hb dL_law_621 (by decide) (fun c236 => ?_) (fun c236 => ?_)
                                          · replace hf := g_it hf c236
                                            refine lv_iinc (v := x3 + 5) (lv' := [(3, .int (x3 + 5)), (0, .ref b), (1, .ref G.2.2), (2, .ref (G.2.2 + 54))]) hx hb dL_law_781 hl (k := 3) rfl rfl (by decide) rfl (fun ls hl => ?_)
                                            refine lv_goto (tgt := 18) hx hb dL_law_784 (by decide) ?_
                                            refine W.widen (k := 60 + 819 * (513 - n)) (n := 8609 + 4914 * (513 - n)) (by omega) (by omega) ?_
                                            exact ih _ hle1 _ _ _ _ _ (by omega) hf  hR hS (lv_sub hl [1, 2, 3, 0] rfl)
                                          · replace hf := g_if hf c236
                                            refine lv_iconst (v := 0) hx hb dL_law_624 (by decide) ?_
                                            exact absurd (g_s1 hf) (by decide)
                                        · replace hf := g_if hf hc19_17
                                          by_cases hc20_18 : t3 = (18 : Int32)
                                          · replace hf := g_it hf hc20_18
                                            refine lv_tableIn (off := 594) (tgt := 626) hx hb dL_law_32 (by rw [hc20_18]; decide) (by rw [hc20_18]; decide) (by rw [hc20_18]; rfl) (by decide) ?_
                                            refine lv_aload_n hx hb dL_law_626 rfl (lv_at hl 1 rfl) ?_
                                            refine lv_aload_n hx hb dL_law_627 rfl (lv_at hl 0 rfl) ?_
                                            refine lv_iload_n hx hb dL_law_628 rfl (lv_at hl 3 rfl) ?_
                                            refine lv_iconst (v := 1) hx hb dL_law_629 (by decide) ?_
                                            refine lv_iadd hx hb dL_law_630 ?_
                                            obtain ⟨hg237, hf⟩ := g_gd hf
                                            refine va_sld hx hb hX hbl hbA hS hg237.vp dL_law_631 ?_
                                            refine lv_aload_n hx hb dL_law_632 rfl (lv_at hl 0 rfl) ?_
                                            refine lv_iload_n hx hb dL_law_633 rfl (lv_at hl 3 rfl) ?_
                                            refine lv_iconst (v := 2) hx hb dL_law_634 (by decide) ?_
                                            refine lv_iadd hx hb dL_law_635 ?_
                                            obtain ⟨hg238, hf⟩ := g_gd hf
                                            refine va_sld hx hb hX hbl hbA hS hg238.vp dL_law_636 ?_
                                            refine lv_aload_n hx hb dL_law_637 rfl (lv_at hl 0 rfl) ?_
                                            refine lv_iload_n hx hb dL_law_638 rfl (lv_at hl 3 rfl) ?_
                                            refine lv_iconst (v := 3) hx hb dL_law_639 (by decide) ?_
                                            refine lv_iadd hx hb dL_law_640 ?_
                                            obtain ⟨hg239, hf⟩ := g_gd hf
                                            refine va_sld hx hb hX hbl hbA hS hg239.vp dL_law_641 ?_
                                            obtain ⟨r240, z241, hc242, hf⟩ := g_bd_e hf
                                            refine g_call (va_runV (As := [.int (xs (x3 + (1 : Int32)).toNatClampNeg), .int (xs (x3 + (2 : Int32)).toNatClampNeg), .int (xs (x3 + (3 : Int32)).toNatClampNeg)]) (rest := []) ⟨hx, hb, hml, hown, hts⟩ (c9_would l G E1 z0 _ _ _ _ _ hc242) (cwV 3 hts gL_law_X9_would rfl rfl rfl (by decide +kernel) ⟨Nat.le_of_ble_eq_true rfl, Nat.le_of_ble_eq_true rfl⟩) (g_preV (ci := 9) hR hK (hR.2.2.2.1) rfl) rfl rfl hl.1 rfl (lv_room (Nat.le_of_ble_eq_true rfl)) dL_law_642 ⟨by show _ ≤ 600000; omega, by show _ ≤ 7302250; omega⟩) hS (fun w243 H locs hp hR hS => ?_)
                                            subst hp
                                            refine lv_aload_n hx hb dL_law_645 rfl (lv_at hl 2 rfl) ?_
                                            refine lv_aload_n hx hb dL_law_646 rfl (lv_at hl 0 rfl) ?_
                                            refine lv_iload_n hx hb dL_law_647 rfl (lv_at hl 3 rfl) ?_
                                            refine lv_iconst (v := 1) hx hb dL_law_648 (by decide) ?_
                                            refine lv_iadd hx hb dL_law_649 ?_
                                            obtain ⟨hg244, hf⟩ := g_gd hf
                                            refine va_sld hx hb hX hbl hbA hS hg244.vp dL_law_650 ?_
                                            refine lv_aload_n hx hb dL_law_651 rfl (lv_at hl 0 rfl) ?_
                                            refine lv_iload_n hx hb dL_law_652 rfl (lv_at hl 3 rfl) ?_
                                            refine lv_iconst (v := 2) hx hb dL_law_653 (by decide) ?_
                                            refine lv_iadd hx hb dL_law_654 ?_
                                            obtain ⟨hg245, hf⟩ := g_gd hf
                                            refine va_sld hx hb hX hbl hbA hS hg245.vp dL_law_655 ?_
                                            refine lv_aload_n hx hb dL_law_656 rfl (lv_at hl 0 rfl) ?_
                                            refine lv_iload_n hx hb dL_law_657 rfl (lv_at hl 3 rfl) ?_
                                            refine lv_iconst (v := 3) hx hb dL_law_658 (by decide) ?_
                                            refine lv_iadd hx hb dL_law_659 ?_
                                            obtain ⟨hg246, hf⟩ := g_gd hf
                                            refine va_sld hx hb hX hbl hbA hS hg246.vp dL_law_660 ?_
                                            obtain ⟨r247, hc248, hf⟩ := g_b1_e hf
                                            refine g_call (va_runV (As := [.int (xs (x3 + (1 : Int32)).toNatClampNeg), .int (xs (x3 + (2 : Int32)).toNatClampNeg), .int (xs (x3 + (3 : Int32)).toNatClampNeg)]) (rest := [.int r240]) ⟨hx, hb, hml, hown, hts⟩ (c10_would l G E1 z241 _ _ _ _ _ hc248) (cwV 3 hts gL_law_X10_would rfl rfl rfl (by decide +kernel) ⟨Nat.le_of_ble_eq_true rfl, Nat.le_of_ble_eq_true rfl⟩) (g_preV (ci := 10) hR hK (hR.2.2.2.2.1.1) rfl) rfl rfl hl.1 rfl (lv_room (Nat.le_of_ble_eq_true rfl)) dL_law_661 ⟨by show _ ≤ 600000; omega, by show _ ≤ 7302250; omega⟩) hS (fun w249 H locs hp hR hS => ?_)
                                            replace hR : g_R G E1 z241 H := hR
                                            subst hp
                                            refine lv_icmp_eq (tgt := 781) hx hb dL_law_664 (by decide) (fun c250 => ?_) (fun c250 => ?_)
                                            · replace hf := g_it hf c250
                                              refine lv_iinc (v := x3 + 5) (lv' := [(3, .int (x3 + 5)), (0, .ref b), (1, .ref G.2.2), (2, .ref (G.2.2 + 54))]) hx hb dL_law_781 hl (k := 3) rfl rfl (by decide) rfl (fun ls hl => ?_)
                                              refine lv_goto (tgt := 18) hx hb dL_law_784 (by decide) ?_
                                              refine W.widen (k := 60 + 819 * (513 - n)) (n := 8609 + 4914 * (513 - n)) (by omega) (by omega) ?_
                                              exact ih _ hle1 _ _ _ _ _ (by omega) hf  hR hS (lv_sub hl [1, 2, 3, 0] rfl)
                                            · replace hf := g_if hf c250
                                              refine lv_iconst (v := 0) hx hb dL_law_667 (by decide) ?_
                                              exact absurd (g_s1 hf) (by decide)
                                          · replace hf := g_if hf hc20_18
                                            by_cases hc21_19 : t3 = (19 : Int32)
                                            · replace hf := g_it hf hc21_19
                                              refine lv_tableIn (off := 637) (tgt := 669) hx hb dL_law_32 (by rw [hc21_19]; decide) (by rw [hc21_19]; decide) (by rw [hc21_19]; rfl) (by decide) ?_
                                              refine lv_aload_n hx hb dL_law_669 rfl (lv_at hl 1 rfl) ?_
                                              refine lv_aload_n hx hb dL_law_670 rfl (lv_at hl 0 rfl) ?_
                                              refine lv_iload_n hx hb dL_law_671 rfl (lv_at hl 3 rfl) ?_
                                              refine lv_iconst (v := 1) hx hb dL_law_672 (by decide) ?_
                                              refine lv_iadd hx hb dL_law_673 ?_
                                              obtain ⟨hg251, hf⟩ := g_gd hf
                                              refine va_sld hx hb hX hbl hbA hS hg251.vp dL_law_674 ?_
                                              refine lv_aload_n hx hb dL_law_675 rfl (lv_at hl 0 rfl) ?_
                                              refine lv_iload_n hx hb dL_law_676 rfl (lv_at hl 3 rfl) ?_
                                              refine lv_iconst (v := 2) hx hb dL_law_677 (by decide) ?_
                                              refine lv_iadd hx hb dL_law_678 ?_
                                              obtain ⟨hg252, hf⟩ := g_gd hf
                                              refine va_sld hx hb hX hbl hbA hS hg252.vp dL_law_679 ?_
                                              obtain ⟨r253, z254, hc255, hf⟩ := g_bd_e hf
                                              refine g_call (va_runV (As := [.int (xs (x3 + (1 : Int32)).toNatClampNeg), .int (xs (x3 + (2 : Int32)).toNatClampNeg)]) (rest := []) ⟨hx, hb, hml, hown, hts⟩ (c9_choice l G E1 z0 _ _ _ _ hc255) (cwV 2 hts gL_law_X9_choice rfl rfl rfl (by decide +kernel) ⟨Nat.le_of_ble_eq_true rfl, Nat.le_of_ble_eq_true rfl⟩) (g_preV (ci := 9) hR hK (hR.2.2.2.1) rfl) rfl rfl hl.1 rfl (lv_room (Nat.le_of_ble_eq_true rfl)) dL_law_680 ⟨by show _ ≤ 600000; omega, by show _ ≤ 7302250; omega⟩) hS (fun w256 H locs hp hR hS => ?_)
                                              subst hp
                                              refine lv_aload_n hx hb dL_law_683 rfl (lv_at hl 2 rfl) ?_
                                              refine lv_aload_n hx hb dL_law_684 rfl (lv_at hl 0 rfl) ?_
                                              refine lv_iload_n hx hb dL_law_685 rfl (lv_at hl 3 rfl) ?_
                                              refine lv_iconst (v := 1) hx hb dL_law_686 (by decide) ?_
                                              refine lv_iadd hx hb dL_law_687 ?_
                                              obtain ⟨hg257, hf⟩ := g_gd hf
                                              refine va_sld hx hb hX hbl hbA hS hg257.vp dL_law_688 ?_
                                              refine lv_aload_n hx hb dL_law_689 rfl (lv_at hl 0 rfl) ?_
                                              refine lv_iload_n hx hb dL_law_690 rfl (lv_at hl 3 rfl) ?_
                                              refine lv_iconst (v := 2) hx hb dL_law_691 (by decide) ?_
                                              refine lv_iadd hx hb dL_law_692 ?_
                                              obtain ⟨hg258, hf⟩ := g_gd hf
                                              refine va_sld hx hb hX hbl hbA hS hg258.vp dL_law_693 ?_
                                              obtain ⟨r259, hc260, hf⟩ := g_b1_e hf
                                              refine g_call (va_runV (As := [.int (xs (x3 + (1 : Int32)).toNatClampNeg), .int (xs (x3 + (2 : Int32)).toNatClampNeg)]) (rest := [.int r253]) ⟨hx, hb, hml, hown, hts⟩ (c10_choice l G E1 z254 _ _ _ _ hc260) (cwV 2 hts gL_law_X10_choice rfl rfl rfl (by decide +kernel) ⟨Nat.le_of_ble_eq_true rfl, Nat.le_of_ble_eq_true rfl⟩) (g_preV (ci := 10) hR hK (hR.2.2.2.2.1.1) rfl) rfl rfl hl.1 rfl (lv_room (Nat.le_of_ble_eq_true rfl)) dL_law_694 ⟨by show _ ≤ 600000; omega, by show _ ≤ 7302250; omega⟩) hS (fun w261 H locs hp hR hS => ?_)
                                              replace hR : g_R G E1 z254 H := hR
                                              subst hp
                                              refine lv_icmp_eq (tgt := 781) hx hb dL_law_697 (by decide) (fun c262 => ?_) (fun c262 => ?_)
                                              · replace hf := g_it hf c262
                                                refine lv_iinc (v := x3 + 5) (lv' := [(3, .int (x3 + 5)), (0, .ref b), (1, .ref G.2.2), (2, .ref (G.2.2 + 54))]) hx hb dL_law_781 hl (k := 3) rfl rfl (by decide) rfl (fun ls hl => ?_)
                                                refine lv_goto (tgt := 18) hx hb dL_law_784 (by decide) ?_
                                                refine W.widen (k := 60 + 819 * (513 - n)) (n := 8609 + 4914 * (513 - n)) (by omega) (by omega) ?_
                                                exact ih _ hle1 _ _ _ _ _ (by omega) hf  hR hS (lv_sub hl [1, 2, 3, 0] rfl)
                                              · replace hf := g_if hf c262
                                                refine lv_iconst (v := 0) hx hb dL_law_700 (by decide) ?_
                                                exact absurd (g_s1 hf) (by decide)
                                            · replace hf := g_if hf hc21_19
                                              by_cases hc22_20 : t3 = (20 : Int32)
                                              · replace hf := g_it hf hc22_20
                                                refine lv_tableIn (off := 670) (tgt := 702) hx hb dL_law_32 (by rw [hc22_20]; decide) (by rw [hc22_20]; decide) (by rw [hc22_20]; rfl) (by decide) ?_
                                                refine lv_aload_n hx hb dL_law_702 rfl (lv_at hl 1 rfl) ?_
                                                refine lv_aload_n hx hb dL_law_703 rfl (lv_at hl 0 rfl) ?_
                                                refine lv_iload_n hx hb dL_law_704 rfl (lv_at hl 3 rfl) ?_
                                                refine lv_iconst (v := 1) hx hb dL_law_705 (by decide) ?_
                                                refine lv_iadd hx hb dL_law_706 ?_
                                                obtain ⟨hg263, hf⟩ := g_gd hf
                                                refine va_sld hx hb hX hbl hbA hS hg263.vp dL_law_707 ?_
                                                obtain ⟨r264, hc265, hf⟩ := g_b1_e hf
                                                refine g_call (va_runV (As := [.int (xs (x3 + (1 : Int32)).toNatClampNeg)]) (rest := []) ⟨hx, hb, hml, hown, hts⟩ (c9_next l G E1 z0 _ _ hc265) (cwV 1 hts gL_law_X9_next rfl rfl rfl (by decide +kernel) ⟨Nat.le_of_ble_eq_true rfl, Nat.le_of_ble_eq_true rfl⟩) (g_preV (ci := 9) hR hK (hR.2.2.2.1) rfl) rfl rfl hl.1 rfl (lv_room (Nat.le_of_ble_eq_true rfl)) dL_law_708 ⟨by show _ ≤ 600000; omega, by show _ ≤ 7302250; omega⟩) hS (fun w266 H locs hp hR hS => ?_)
                                                subst hp
                                                refine lv_aload_n hx hb dL_law_711 rfl (lv_at hl 2 rfl) ?_
                                                refine lv_aload_n hx hb dL_law_712 rfl (lv_at hl 0 rfl) ?_
                                                refine lv_iload_n hx hb dL_law_713 rfl (lv_at hl 3 rfl) ?_
                                                refine lv_iconst (v := 1) hx hb dL_law_714 (by decide) ?_
                                                refine lv_iadd hx hb dL_law_715 ?_
                                                obtain ⟨hg267, hf⟩ := g_gd hf
                                                refine va_sld hx hb hX hbl hbA hS hg267.vp dL_law_716 ?_
                                                obtain ⟨r268, hc269, hf⟩ := g_b1_e hf
                                                refine g_call (va_runV (As := [.int (xs (x3 + (1 : Int32)).toNatClampNeg)]) (rest := [.int r264]) ⟨hx, hb, hml, hown, hts⟩ (c10_next l G E1 z0 _ _ _ hc269) (cwV 1 hts gL_law_X10_next rfl rfl rfl (by decide +kernel) ⟨Nat.le_of_ble_eq_true rfl, Nat.le_of_ble_eq_true rfl⟩) (g_preV (ci := 10) hR hK (hR.2.2.2.2.1.1) rfl) rfl rfl hl.1 rfl (lv_room (Nat.le_of_ble_eq_true rfl)) dL_law_717 ⟨by show _ ≤ 600000; omega, by show _ ≤ 7302250; omega⟩) hS (fun w270 H locs hp hR hS => ?_)
                                                replace hR : g_R G E1 z0 H := hR
                                                subst hp
                                                refine lv_icmp_eq (tgt := 781) hx hb dL_law_720 (by decide) (fun c271 => ?_) (fun c271 => ?_)
                                                · replace hf := g_it hf c271
                                                  refine lv_iinc (v := x3 + 5) (lv' := [(3, .int (x3 + 5)), (0, .ref b), (1, .ref G.2.2), (2, .ref (G.2.2 + 54))]) hx hb dL_law_781 hl (k := 3) rfl rfl (by decide) rfl (fun ls hl => ?_)
                                                  refine lv_goto (tgt := 18) hx hb dL_law_784 (by decide) ?_
                                                  refine W.widen (k := 60 + 819 * (513 - n)) (n := 8609 + 4914 * (513 - n)) (by omega) (by omega) ?_
                                                  exact ih _ hle1 _ _ _ _ _ (by omega) hf  hR hS (lv_sub hl [1, 2, 3, 0] rfl)
                                                · replace hf := g_if hf c271
                                                  refine lv_iconst (v := 0) hx hb dL_law_723 (by decide) ?_
                                                  exact absurd (g_s1 hf) (by decide)
                                              · replace hf := g_if hf hc22_20
                                                by_cases hc23_21 : t3 = (21 : Int32)
                                                · replace hf := g_it hf hc23_21
                                                  refine lv_tableIn (off := 693) (tgt := 725) hx hb dL_law_32 (by rw [hc23_21]; decide) (by rw [hc23_21]; decide) (by rw [hc23_21]; rfl) (by decide) ?_
                                                  refine lv_aload_n hx hb dL_law_725 rfl (lv_at hl 1 rfl) ?_
                                                  refine lv_aload_n hx hb dL_law_726 rfl (lv_at hl 0 rfl) ?_
                                                  refine lv_iload_n hx hb dL_law_727 rfl (lv_at hl 3 rfl) ?_
                                                  refine lv_iconst (v := 1) hx hb dL_law_728 (by decide) ?_
                                                  refine lv_iadd hx hb dL_law_729 ?_
                                                  obtain ⟨hg272, hf⟩ := g_gd hf
                                                  refine va_sld hx hb hX hbl hbA hS hg272.vp dL_law_730 ?_
                                                  refine lv_aload_n hx hb dL_law_731 rfl (lv_at hl 0 rfl) ?_
                                                  refine lv_iload_n hx hb dL_law_732 rfl (lv_at hl 3 rfl) ?_
                                                  refine lv_iconst (v := 2) hx hb dL_law_733 (by decide) ?_
                                                  refine lv_iadd hx hb dL_law_734 ?_
                                                  obtain ⟨hg273, hf⟩ := g_gd hf
                                                  refine va_sld hx hb hX hbl hbA hS hg273.vp dL_law_735 ?_
                                                  obtain ⟨r274, z275, hc276, hf⟩ := g_bd_e hf
                                                  refine g_calln (va_runV (As := [.int (xs (x3 + (1 : Int32)).toNatClampNeg), .int (xs (x3 + (2 : Int32)).toNatClampNeg)]) (rest := []) ⟨hx, hb, hml, hown, hts⟩ (c9_wouldPlan l G E1 z0 _ _ _ _ hc276) (cwV 2 hts gL_law_X9_wouldPlan rfl rfl rfl (by decide +kernel) ⟨Nat.le_of_ble_eq_true rfl, Nat.le_of_ble_eq_true rfl⟩) (g_preV (ci := 9) hR hK (hR.2.2.2.1) rfl) rfl rfl hl.1 rfl (lv_room (Nat.le_of_ble_eq_true rfl)) dL_law_736 ⟨by show _ ≤ 600000; omega, by show _ ≤ 7302250; omega⟩) hS (fun w277 E278 H locs hp hle279 hR hS => ?_)
                                                  subst hp
                                                  refine lv_aload_n hx hb dL_law_739 rfl (lv_at hl 2 rfl) ?_
                                                  refine lv_aload_n hx hb dL_law_740 rfl (lv_at hl 0 rfl) ?_
                                                  refine lv_iload_n hx hb dL_law_741 rfl (lv_at hl 3 rfl) ?_
                                                  refine lv_iconst (v := 1) hx hb dL_law_742 (by decide) ?_
                                                  refine lv_iadd hx hb dL_law_743 ?_
                                                  obtain ⟨hg280, hf⟩ := g_gd hf
                                                  refine va_sld hx hb hX hbl hbA hS hg280.vp dL_law_744 ?_
                                                  refine lv_aload_n hx hb dL_law_745 rfl (lv_at hl 0 rfl) ?_
                                                  refine lv_iload_n hx hb dL_law_746 rfl (lv_at hl 3 rfl) ?_
                                                  refine lv_iconst (v := 2) hx hb dL_law_747 (by decide) ?_
                                                  refine lv_iadd hx hb dL_law_748 ?_
                                                  obtain ⟨hg281, hf⟩ := g_gd hf
                                                  refine va_sld hx hb hX hbl hbA hS hg281.vp dL_law_749 ?_
                                                  obtain ⟨r282, z283, hc284, hf⟩ := g_bd_e hf
                                                  refine g_call (va_runV (As := [.int (xs (x3 + (1 : Int32)).toNatClampNeg), .int (xs (x3 + (2 : Int32)).toNatClampNeg)]) (rest := [.int r274]) ⟨hx, hb, hml, hown, hts⟩ (c10_wouldPlan l G E278 z275 _ _ _ _ _ hc284) (cwV 2 hts gL_law_X10_wouldPlan rfl rfl rfl (by decide +kernel) ⟨Nat.le_of_ble_eq_true rfl, Nat.le_of_ble_eq_true rfl⟩) (g_preV (ci := 10) hR hK (hR.2.2.2.2.1.1) rfl) rfl rfl hl.1 rfl (lv_room (Nat.le_of_ble_eq_true rfl)) dL_law_750 ⟨by show _ ≤ 600000; omega, by show _ ≤ 7302250; omega⟩) hS (fun w285 H locs hp hR hS => ?_)
                                                  obtain ⟨z286, ez286, hf⟩ := g_let_e hf
                                                  replace hR : g_R G E278 z286 H := by rw [ez286]; exact hR
                                                  subst hp
                                                  refine lv_icmp_eq (tgt := 781) hx hb dL_law_753 (by decide) (fun c287 => ?_) (fun c287 => ?_)
                                                  · replace hf := g_it hf c287
                                                    refine lv_iinc (v := x3 + 5) (lv' := [(3, .int (x3 + 5)), (0, .ref b), (1, .ref G.2.2), (2, .ref (G.2.2 + 54))]) hx hb dL_law_781 hl (k := 3) rfl rfl (by decide) rfl (fun ls hl => ?_)
                                                    refine lv_goto (tgt := 18) hx hb dL_law_784 (by decide) ?_
                                                    refine W.widen (k := 60 + 819 * (513 - n)) (n := 8609 + 4914 * (513 - n)) (by omega) (by omega) ?_
                                                    exact ih _ ((hle1).tr hle279) _ _ _ _ _ (by omega) hf  hR hS (lv_sub hl [1, 2, 3, 0] rfl)
                                                  · replace hf := g_if hf c287
                                                    refine lv_iconst (v := 0) hx hb dL_law_756 (by decide) ?_
                                                    exact absurd (g_s1 hf) (by decide)
                                                · replace hf := g_if hf hc23_21
                                                  by_cases hc24_22 : t3 = (22 : Int32)
                                                  · replace hf := g_it hf hc24_22
                                                    refine lv_tableIn (off := 726) (tgt := 758) hx hb dL_law_32 (by rw [hc24_22]; decide) (by rw [hc24_22]; decide) (by rw [hc24_22]; rfl) (by decide) ?_
                                                    refine lv_aload_n hx hb dL_law_758 rfl (lv_at hl 1 rfl) ?_
                                                    refine lv_aload_n hx hb dL_law_759 rfl (lv_at hl 0 rfl) ?_
                                                    refine lv_iload_n hx hb dL_law_760 rfl (lv_at hl 3 rfl) ?_
                                                    refine lv_iconst (v := 1) hx hb dL_law_761 (by decide) ?_
                                                    refine lv_iadd hx hb dL_law_762 ?_
                                                    obtain ⟨hg288, hf⟩ := g_gd hf
                                                    refine va_sld hx hb hX hbl hbA hS hg288.vp dL_law_763 ?_
                                                    obtain ⟨r289, hc290, hf⟩ := g_b1_e hf
                                                    refine g_call (va_runV (As := [.int (xs (x3 + (1 : Int32)).toNatClampNeg)]) (rest := []) ⟨hx, hb, hml, hown, hts⟩ (c9_count l G E1 z0 _ _ hc290) (cwV 1 hts gL_law_X9_count rfl rfl rfl (by decide +kernel) ⟨Nat.le_of_ble_eq_true rfl, Nat.le_of_ble_eq_true rfl⟩) (g_preV (ci := 9) hR hK (hR.2.2.2.1) rfl) rfl rfl hl.1 rfl (lv_room (Nat.le_of_ble_eq_true rfl)) dL_law_764 ⟨by show _ ≤ 600000; omega, by show _ ≤ 7302250; omega⟩) hS (fun w291 H locs hp hR hS => ?_)
                                                    subst hp
                                                    refine lv_aload_n hx hb dL_law_767 rfl (lv_at hl 2 rfl) ?_
                                                    refine lv_aload_n hx hb dL_law_768 rfl (lv_at hl 0 rfl) ?_
                                                    refine lv_iload_n hx hb dL_law_769 rfl (lv_at hl 3 rfl) ?_
                                                    refine lv_iconst (v := 1) hx hb dL_law_770 (by decide) ?_
                                                    refine lv_iadd hx hb dL_law_771 ?_
                                                    obtain ⟨hg292, hf⟩ := g_gd hf
                                                    refine va_sld hx hb hX hbl hbA hS hg292.vp dL_law_772 ?_
                                                    obtain ⟨r293, hc294, hf⟩ := g_b1_e hf
                                                    refine g_call (va_runV (As := [.int (xs (x3 + (1 : Int32)).toNatClampNeg)]) (rest := [.int r289]) ⟨hx, hb, hml, hown, hts⟩ (c10_count l G E1 z0 _ _ _ hc294) (cwV 1 hts gL_law_X10_count rfl rfl rfl (by decide +kernel) ⟨Nat.le_of_ble_eq_true rfl, Nat.le_of_ble_eq_true rfl⟩) (g_preV (ci := 10) hR hK (hR.2.2.2.2.1.1) rfl) rfl rfl hl.1 rfl (lv_room (Nat.le_of_ble_eq_true rfl)) dL_law_773 ⟨by show _ ≤ 600000; omega, by show _ ≤ 7302250; omega⟩) hS (fun w295 H locs hp hR hS => ?_)
                                                    replace hR : g_R G E1 z0 H := hR
                                                    subst hp
                                                    refine lv_icmp_eq (tgt := 781) hx hb dL_law_776 (by decide) (fun c296 => ?_) (fun c296 => ?_)
                                                    · replace hf := g_it hf c296
                                                      refine lv_iinc (v := x3 + 5) (lv' := [(3, .int (x3 + 5)), (0, .ref b), (1, .ref G.2.2), (2, .ref (G.2.2 + 54))]) hx hb dL_law_781 hl (k := 3) rfl rfl (by decide) rfl (fun ls hl => ?_)
                                                      refine lv_goto (tgt := 18) hx hb dL_law_784 (by decide) ?_
                                                      refine W.widen (k := 60 + 819 * (513 - n)) (n := 8609 + 4914 * (513 - n)) (by omega) (by omega) ?_
                                                      exact ih _ hle1 _ _ _ _ _ (by omega) hf  hR hS (lv_sub hl [1, 2, 3, 0] rfl)
                                                    · replace hf := g_if hf c296
                                                      refine lv_iconst (v := 0) hx hb dL_law_779 (by decide) ?_
                                                      exact absurd (g_s1 hf) (by decide)
                                                  · replace hf := g_if hf hc24_22
                                                    have hdf : W p l e room_1 s m #[Value.ref b] below meth c H locs (60 + 819 * (513 - (n + 1))) (8609 + 4914 * (513 - (n + 1))) (lw_Z below #[Value.ref b] s) (F0 m 781 ls []) := by
                                                      refine lv_iinc (v := x3 + 5) (lv' := [(3, .int (x3 + 5)), (0, .ref b), (1, .ref G.2.2), (2, .ref (G.2.2 + 54))]) hx hb dL_law_781 hl (k := 3) rfl rfl (by decide) rfl (fun ls hl => ?_)
                                                      refine lv_goto (tgt := 18) hx hb dL_law_784 (by decide) ?_
                                                      refine W.widen (k := 60 + 819 * (513 - n)) (n := 8609 + 4914 * (513 - n)) (by omega) (by omega) ?_
                                                      exact ih _ hle1 _ _ _ _ _ (by omega) hf  hR hS (lv_sub hl [1, 2, 3, 0] rfl)
                                                    have qhc2_0 := lv_neT hc2_0 (a := 0) (by decide)
                                                    have qhc3_1 := lv_neT hc3_1 (a := 1) (by decide)
                                                    have qhc4_2 := lv_neT hc4_2 (a := 2) (by decide)
                                                    have qhc5_3 := lv_neT hc5_3 (a := 3) (by decide)
                                                    have qhc6_4 := lv_neT hc6_4 (a := 4) (by decide)
                                                    have qhc7_5 := lv_neT hc7_5 (a := 5) (by decide)
                                                    have qhc8_6 := lv_neT hc8_6 (a := 6) (by decide)
                                                    have qhc9_7 := lv_neT hc9_7 (a := 7) (by decide)
                                                    have qhc10_8 := lv_neT hc10_8 (a := 8) (by decide)
                                                    have qhc11_9 := lv_neT hc11_9 (a := 9) (by decide)
                                                    have qhc12_10 := lv_neT hc12_10 (a := 10) (by decide)
                                                    have qhc13_11 := lv_neT hc13_11 (a := 11) (by decide)
                                                    have qhc14_12 := lv_neT hc14_12 (a := 12) (by decide)
                                                    have qhc15_13 := lv_neT hc15_13 (a := 13) (by decide)
                                                    have qhc16_14 := lv_neT hc16_14 (a := 14) (by decide)
                                                    have qhc17_15 := lv_neT hc17_15 (a := 15) (by decide)
                                                    have qhc18_16 := lv_neT hc18_16 (a := 16) (by decide)
                                                    have qhc19_17 := lv_neT hc19_17 (a := 17) (by decide)
                                                    have qhc20_18 := lv_neT hc20_18 (a := 18) (by decide)
                                                    have qhc21_19 := lv_neT hc21_19 (a := 19) (by decide)
                                                    have qhc22_20 := lv_neT hc22_20 (a := 20) (by decide)
                                                    have qhc23_21 := lv_neT hc23_21 (a := 21) (by decide)
                                                    have qhc24_22 := lv_neT hc24_22 (a := 22) (by decide)
                                                    exact lv_tableOut (tgt := 781) hx hb dL_law_32 (by omega) (by decide) hdf
