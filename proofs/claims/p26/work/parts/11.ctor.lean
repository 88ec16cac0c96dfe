def g_KC (G : gG) (U : State) : Prop := g_K G U ∧ va_AO "GlassRacks$Sheet" U ∧ va_AO "GlassRacks$Order" U ∧ va_AO "GlassRacks$State" U
theorem g_KC.warm {G : gG} {s U : State} (h : g_KC G s) (hW : s.WarmedH U.vm) : g_KC G U := ⟨h.1.warm hW, h.2.1.moved hW.alike, h.2.2.1.moved hW.alike, h.2.2.2.moved hW.alike⟩
theorem g_KC.same {G : gG} {s U : State} (h : g_KC G s) (e : s.vm = U.vm) : g_KC G U := ⟨h.1.same e, h.2.1.moved (by rw [e]; exact Vm.Alike.refl U.vm), h.2.2.1.moved (by rw [e]; exact Vm.Alike.refl U.vm), h.2.2.2.moved (by rw [e]; exact Vm.Alike.refl U.vm)⟩
abbrev g_PreC (G : gG) (a : Nat) (x : va_E) (n : Nat) : Array Value → State → Prop := va_Pc [.ref a] (fun U => U.heap.size = n ∧ g_at G a x U.heap ∧ g_KC G U)
def g_QC (a n m : Nat) (P : Heap → Prop) : Array Value → State → Outcome → State → Prop := fun _ st oc t => oc = .returned none ∧ P t.heap ∧ t.heap.size = m ∧ ∀ q : Nat, q < n → q ≠ a → t.heap[q]? = st.heap[q]?
theorem g_preC {G : gG} {a n : Nat} {x : va_E} {s : State} {H : Heap} (hz : H.size = n) (hq : g_at G a x H) (hK : g_KC G s) : PreS s H (g_PreC G a x n) [.ref a] := ⟨fun _ U g mk z => ⟨z.1, z.2.1, z.2.2.1, g_KC.same (s := U) (U := U.calling g mk _) z.2.2.2 rfl⟩, fun U hU hW => ⟨rfl, by rw [hU]; exact hz, by rw [hU]; exact hq, hK.warm hW⟩⟩
theorem g_size {G : gG} {a : Nat} {e e' : va_E} {H H1 : Heap} (h : g_at G a e H) (h1 : g_at G a e' H1) (oq : ∀ q : Nat, q ≠ a → H1[q]? = H[q]?) : H1.size = H.size := by
  have l0 : a < H.size := va_at.lt h
  have l1 : a < H1.size := va_at.lt h1
  rcases Nat.lt_trichotomy H1.size H.size with z | z | z
  · by_cases e0 : H.size - 1 = a
    · omega
    · have e1 := oq (H.size - 1) e0
      rw [Array.getElem?_eq_getElem (by omega : H.size - 1 < H.size), Array.getElem?_eq_none (by omega)] at e1
      cases e1
  · exact z
  · by_cases e0 : H1.size - 1 = a
    · omega
    · have e1 := oq (H1.size - 1) e0
      rw [Array.getElem?_eq_getElem (by omega : H1.size - 1 < H1.size), Array.getElem?_eq_none (by omega)] at e1
      cases e1
theorem g_aq_to {G : gG} {a n : Nat} {c : ClassId} {f f' : Nat → Option Nat} {H : Heap} (h : g_at G a (g_aq c n f) H) (hf : ∀ k, k < n → f k = f' k) : g_at G a (g_aq c n f') H := by
  show H[a]? = some (vp_cell _ _)
  have h' : H[a]? = some (vp_cell c (n, .inr (.inr (.inr (.inr f))))) := h
  rw [h', vp_cell_q, vp_cell_q]
  refine congrArg some ?_
  unfold arrV
  congr 1
  apply Array.ext
  · simp
  · intro j h1 h2
    simp only [Array.getElem_ofFn]
    rw [hf j (by simpa using h1)]
theorem g_ai_to {G : gG} {a n : Nat} {c : ClassId} {f f' : Nat → Int32} {H : Heap} (h : g_at G a (g_ai c n f) H) (hf : ∀ k, k < n → f k = f' k) : g_at G a (g_ai c n f') H := by
  show H[a]? = some (vp_cell _ _)
  have h' : H[a]? = some (vp_cell c (n, .inl f)) := h
  rw [h', vp_cell_i, vp_cell_i]
  refine congrArg some ?_
  unfold arrV
  congr 1
  apply Array.ext
  · simp
  · intro j h1 h2
    simp only [Array.getElem_ofFn]
    rw [hf j (by simpa using h1)]
theorem g_ne {x a b : Nat} (h : Nat.beq a b = false) : x + a ≠ x + b := fun q => by
  have e : a = b := by omega
  rw [e, show Nat.beq b b = true from Nat.beq_refl b] at h
  cases h
theorem g_lt {x a b : Nat} (h : Nat.ble (a + 1) b = true) : x + a < x + b := by
  have := Nat.le_of_ble_eq_true h
  omega
theorem g_l7 {S x o n q : Nat} (st : S = x + o) (h2 : q < S + 7) (h : Nat.ble (o + 7) n = true) : q < x + n := by
  have := Nat.le_of_ble_eq_true h
  omega
theorem g_n7 {S x o b q : Nat} (st : S = x + o) (h1 : S ≤ q) (h2 : q < S + 7) (h : (Nat.ble (b + 1) o || Nat.ble (o + 7) b) = true) : q ≠ x + b := by
  rcases Bool.or_eq_true _ _ |>.mp h with h | h
  · have := Nat.le_of_ble_eq_true h
    omega
  · have := Nat.le_of_ble_eq_true h
    omega
theorem g_hl {x n q b : Nat} (h1 : q < x + n) (h : Nat.ble n b = true) : q < x + b := by
  have := Nat.le_of_ble_eq_true h
  omega
theorem g_hn {x n q b : Nat} (h1 : q < x + n) (h : Nat.ble n b = true) : q ≠ x + b := by
  have := Nat.le_of_ble_eq_true h
  omega
section GROWC
variable {p : Program} {l : Launch} {e : Env} {R : Room} {s : State} {m : MethodId} {args : Array Value} {below : List Frame} {meth : Method} {c : Code} {H : Heap} {locs : List Loc} {cells slots : Nat} {Q : State → Prop}
variable {cc : ByteArray} {pc : Nat} {ls : Array Slot} {rest st0 : List Value} {a : Nat} {H0 : Heap} {mc ms : Nat} {G : gG}
theorem g_callC {a n m' : Nat} {P : Heap → Prop} {as : Array Value} (hr : va_Run p l e R s m args below meth c H locs cells slots mc ms (F0 m pc ls st0) rest (g_QC a n m' P as) (g_A G)) (hz : H.size = n) (ha : G.2.2 ≤ a) (hn : G.2.2 ≤ n) (hm : n ≤ m') (hS : va_S (g_A G) H0 H locs)
    (kk : ∀ (v : Option Value) (H1 : Heap) (locs1 : List Loc), v = none → P H1 → H1.size = m' → (∀ q : Nat, q < n → q ≠ a → H1[q]? = H[q]?) → va_S (g_A G) H0 H1 locs1 → W p l e R s m args below meth c H1 locs1 (cells + mc) (slots + ms) Q (F0 m (pc + 3) ls (v.toList ++ rest))) : W p l e R s m args below meth c H locs cells slots Q (F0 m pc ls st0) := by
  intro T hT X
  obtain ⟨v, st₀, t, T', L, h0, X', hL, e1, e2, ⟨hv, hP, hz1, hk⟩, st⟩ := hr T hT X
  rw [h0] at hk
  obtain ⟨t2, a1, b1⟩ := kk v T'.heap (locs ++ L) (Outcome.returned.inj hv) (by rw [e1]; exact hP) (by rw [e1]; exact hz1) (by rw [e1]; exact hk)
    ⟨Nat.le_trans hS.1 (by rw [e1, hz1, hz]; exact hm), fun q h1 h2 => by
      have hqn : q < n := by rw [← hz]; exact Nat.lt_of_lt_of_le h1 hS.1
      rw [e1, hk q hqn (fun z => h2 (by rw [z]; exact ha))]; exact hS.2.1 q h1 h2, fun q hq => by
      rcases List.mem_append.mp hq with h | h
      · exact hS.2.2 q h
      · exact hL q h⟩ T' rfl X'
  exact ⟨t2, st t2 a1, b1⟩
theorem g_newC (hx : p.tables.exec = Jvm.exec) (hb : c.code = cc) {own C : String} {T : u_T} {N ci index n : Nat} {Ts : List Cond} {ty : Nat → FieldType} {fs : List Value} (hts : ∀ w ∈ Ts, w.before args s = true) (hin : ∀ w ∈ u_ws C T N, w ∈ Ts) (hty : ∀ k, k < N → parseFieldDescriptor (T k).2.2.1 = some (ty k)) (hown : s.vm.findClass own = some m.cls) (hcl : (Cond.classLink own index C).before args s = true) (hinst : (Cond.instantiable C N).before args s = true) (hini : (Cond.initialized C).before args s = true)
    (hK : g_KC G s) (hz : H.size = n) (hS : va_S (g_A G) H0 H locs) (hc : vwCl[ci]? = some (C, T, N)) (hfs : ∀ j, j < N → defaultValue (ty j) = vp_V fs j) (hcells : cells + 1 ≤ R.cells) (hslots : slots + N ≤ R.slots) (hdg : decode cc pc = .ok (.new index, 3))
    (kk : ∀ (H1 : Heap), g_at G n (.inr (ci, fs)) H1 → H1.size = n + 1 → (∀ q : Nat, q < n → H1[q]? = H[q]?) → va_S (g_A G) H0 H1 locs → W p l e R s m args below meth c H1 locs (cells + 1) (slots + N) Q (F0 m (pc + 3) ls (.ref n :: rest))) : W p l e R s m args below meth c H locs cells slots Q (F0 m pc ls rest) := by
  have hKn := hK.1.1.1 ci _ hc
  refine W.newcK hx hb hown hcl hinst hini rfl hdg hcells hslots hKn.2.1 hz fun H1 kC hkC e1 z1 o1 => ?_
  exact kk H1 ⟨_, hc, (u_born ty hts hin hKn hkC e1 hty).to hfs⟩ z1 o1 ⟨Nat.le_trans hS.1 (by omega), fun x h1 h2 => (o1 x (by rw [← hz]; exact Nat.lt_of_lt_of_le h1 hS.1)).trans (hS.2.1 x h1 h2), hS.2.2⟩
theorem g_newq (hx : p.tables.exec = Jvm.exec) (hb : c.code = cc) {own C : String} {index n t0 : Nat} (hown : s.vm.findClass own = some m.cls) (hcl : (Cond.classLink own index C).before args s = true) (hover : va_AO C s) (hK : g_KC G s) (ht : [(G.2.1 0, FieldType.char), (G.2.1 1, .char), (G.2.1 2, .object "GlassRacks$Sheet"), (G.2.1 3, .object "GlassRacks$Order"), (G.2.1 4, .object "GlassRacks$State")][t0]? = some (G.2.1 t0, .object C)) (hz : H.size = n) (hS : va_S (g_A G) H0 H locs)
    {k : Int32} {N : Nat} (hk : ¬ k < 0) (hN : k.toNatClampNeg = N) (hbytes : N * 4 ≤ 536870912) (hcells : cells + 1 ≤ R.cells) (hslots : slots + N ≤ R.slots) (hdg : decode cc pc = .ok (.anewarray index, 3))
    (kk : ∀ (H1 : Heap), g_at G n (g_aq (G.2.1 t0) N (fun _ => none)) H1 → H1.size = n + 1 → (∀ q : Nat, q < n → H1[q]? = H[q]?) → va_S (g_A G) H0 H1 locs → W p l e R s m args below meth c H1 locs (cells + 1) (slots + N) Q (F0 m (pc + 3) ls (.ref n :: rest))) : W p l e R s m args below meth c H locs cells slots Q (F0 m pc ls (.int k :: rest)) := by
  subst hN
  subst hz
  refine W.anew hx hb hown hcl (va_AO.use hover) rfl hdg rfl hk hbytes hcells hslots fun cA kA comp f1 f2 f3 f4 => ?_
  obtain ⟨kA2, comp2, g1, g2, g3, g4⟩ := (hK.1.1.2 t0 _ ht).2
  have hcA : cA = G.2.1 t0 := Option.some.inj (f1.symm.trans g4)
  subst hcA
  have o1 : ∀ q : Nat, q < H.size → (H.push ({ cls := G.2.1 t0, slots := Array.replicate k.toNatClampNeg .null, vm := .none } : Cell))[q]? = H[q]? := fun q hq => by rw [Array.getElem?_push, if_neg (Nat.ne_of_lt hq)]
  refine kk _ ?_ (by rw [Array.size_push]) o1 ⟨Nat.le_trans hS.1 (by rw [Array.size_push]; omega), fun x h1 h2 => (o1 x (Nat.lt_of_lt_of_le h1 hS.1)).trans (hS.2.1 x h1 h2), hS.2.2⟩
  show (H.push _)[H.size]? = some (vp_cell _ _)
  rw [Array.getElem?_push_size, vp_cell_q, ← arrV_new]
  rfl
theorem g_newc (hx : p.tables.exec = Jvm.exec) (hb : c.code = cc) {n : Nat} (harr : (Cond.arrayClass .char).before args s = true) (hK : g_KC G s) (hz : H.size = n) (hS : va_S (g_A G) H0 H locs)
    {k : Int32} {N : Nat} (hk : ¬ k < 0) (hN : k.toNatClampNeg = N) (hbytes : N * componentBytes .char ≤ 536870912) (hcells : cells + 1 ≤ R.cells) (hslots : slots + N ≤ R.slots) (hdg : decode cc pc = .ok (.newarray .char, 2))
    (kk : ∀ (H1 : Heap), g_at G n (g_ai (G.2.1 1) N (fun _ => 0)) H1 → H1.size = n + 1 → (∀ q : Nat, q < n → H1[q]? = H[q]?) → va_S (g_A G) H0 H1 locs → W p l e R s m args below meth c H1 locs (cells + 1) (slots + N) Q (F0 m (pc + 2) ls (.ref n :: rest))) : W p l e R s m args below meth c H locs cells slots Q (F0 m pc ls (.int k :: rest)) := by
  refine va_newaK (atype := .char) hx hb harr rfl hdg rfl hk hN hbytes hcells hslots hz fun H1 cA e1 z1 o1 _ hNm => ?_
  have hcA : cA = G.2.1 1 := Option.some.inj (hNm.symm.trans (hK.1.1.2 1 _ rfl).2)
  subst hcA
  exact kk H1 e1 z1 o1 ⟨Nat.le_trans hS.1 (by omega), fun x h1 h2 => (o1 x (by rw [← hz]; exact Nat.lt_of_lt_of_le h1 hS.1)).trans (hS.2.1 x h1 h2), hS.2.2⟩
theorem g_vretC {n m' : Nat} {P : Heap → Prop} (hx : p.tables.exec = Jvm.exec) (hb : c.code = cc) (hlocks : meth.locks = false) (hr : meth.sig.returnType = none) (hS : va_S (g_A G) s.heap H locs) (hP : P H) (hz : H.size = m') (hq : ∀ q : Nat, q < n → q ≠ a → H[q]? = s.heap[q]?) (hc : cells ≤ mc) (hs : slots ≤ ms) (hdg : decode cc pc = .ok (.return_, 1)) : W p l e R s m args below meth c H locs cells slots (MQ below (g_QC a n m' P) args s mc ms (g_A G)) (F0 m pc ls []) :=
  W.widen hc hs (W.vret hx hb hr (fun t ht _ => ⟨rfl, by rw [ht]; exact hP, by rw [ht]; exact hz, by rw [ht]; exact hq⟩) hS.2.2 hdg)
end GROWC
def g_s0 : gSt := (fun k => match k with | 0 => 1 | 1 => 10 | 4 => 1 | _ => 0, fun _ => none, fun _ => none)
def g_h0 : gHi := (fun k => k + 3, 0)
def g_t0 : gTx := (fun _ => 0, fun _ => 0)
def g_m0 : gMo := (fun k => match k with | 0 => va_up (va_up (va_up (fun _ => 0) 9 1) 10 10) 13 1 | _ => fun _ => 0, fun _ => 0)
def g_mu0 : gMu := (fun _ => g_s0, g_h0, g_t0, 0, g_m0)
abbrev g_E0 : gEn := fun _ => none
set_option maxHeartbeats 4000000 in
set_option maxRecDepth 100000 in
theorem c6_init (l : Launch) (G : gG) (a n : Nat) (hg : G.2.2 ≤ a) (han : a < n) : Met l yX6_init wsX6_init ({ frames := 1, cells := 0, slots := 0, locals := 16 } : Room) (g_PreC G (a) (.inr (6, [.int 0, .int 0, .int 0, .int 0, .int 0])) (n)) (g_QC (a) (n) (n) (fun H => g_at G a (.inr (6, [.int 1, .int 10, .int 0, .int 0, .int 1])) H)) 0 0 (g_A G) := by
  refine Met.ofW (cc := cX6_init) (maxL := 1) (ret := none) (by decide) rfl ?_
  intro p e s m args below meth c s₁ B hml hv
  obtain ⟨rfl, hz, h0, hK⟩ := hv
  have hx := B.exec
  have hb := B.bytes
  have hr := B.returns
  have hts := atoms_spec (ws := wsX6_init) B.pre
  have hown : s.vm.findClass RX6 = some m.cls := findClass_of_methodNamed B.named
  have hlocks := B.notSynchronized
  have hin : meth.name = "<init>" := (name_of_methodNamed B.named B.method).1
  have hS : va_S (g_A G) s.heap s.heap [] := va_S.rf
  have hq : ∀ q : Nat, q < n → q ≠ a → s.heap[q]? = s.heap[q]? := fun _ _ _ => rfl
  have hl := lv_entry ([.ref (a)]) (n := 1) (Nat.le_of_ble_eq_true rfl)
  rw [lg_entry_eq]
  generalize (lg_sl ([.ref (a)]) ++ List.replicate (1 - (lg_sl ([.ref (a)])).length) Slot.unset).toArray = ls at hl ⊢
  have hl : lv_has ls 1 [(0, .ref (a))] := hl
  have o_3 := hts (.methodLink RX6 3 objectInit) (by decide +kernel)
  have o2_3 := hts (.instanceMethod objectInit) (by decide +kernel)
  have o3_3 := hts (.code objectInit ⟨#[0xb1]⟩ 1 none) (by decide +kernel)
  have in_6 : ∀ w ∈ u_ws RX6 TX6 5, w ∈ wsX6_init := ifX6_init_6
  have l_9 := hts (.fieldLink RX6 9 "GlassRacks$Settings" "cutWidth" "I") (by decide +kernel)
  have l_15 := hts (.fieldLink RX6 15 "GlassRacks$Settings" "leastSide" "I") (by decide +kernel)
  have l_18 := hts (.fieldLink RX6 18 "GlassRacks$Settings" "manner" "I") (by decide +kernel)
  have l_21 := hts (.fieldLink RX6 21 "GlassRacks$Settings" "fragility" "I") (by decide +kernel)
  have l_24 := hts (.fieldLink RX6 24 "GlassRacks$Settings" "turning" "I") (by decide +kernel)
  refine lv_aload_n hx hb dX6_init_0 rfl (lv_at hl 0 rfl) ?_
  refine W.objInit hx hb hown o_3 o2_3 o3_3 rfl (by rw [hml]; exact hl.1) rfl dX6_init_1 (Nat.le_of_ble_eq_true rfl) (Nat.le_of_ble_eq_true rfl) ?_
  refine W.eq (g2 := F0 m 4 ls []) rfl ?_
  refine lv_aload_n hx hb dX6_init_4 rfl (lv_at hl 0 rfl) ?_
  refine lv_iconst (v := 1) hx hb dX6_init_5 (by decide) ?_
  refine g_put hx hb hts in_6 tyX6_ok nmX6 hown hK.1 hS h0 (by omega) rfl 0 (by decide) l_9 rfl rfl rfl rfl (Nat.le_of_ble_eq_true rfl) dX6_init_6 (fun H locs h1 oq hS => ?_)
  replace h1 : g_at G (a) (.inr (6, [.int (1 : Int32), .int 0, .int 0, .int 0, .int 0])) H := h1
  replace hz := (g_size h0 h1 oq).trans hz
  replace hq := fun (q : Nat) (h1 : q < n) (h2 : q ≠ a) => (oq q h2).trans (hq q h1 h2)
  clear h0 oq
  refine lv_aload_n hx hb dX6_init_9 rfl (lv_at hl 0 rfl) ?_
  refine lv_bipush (v := 10) hx hb dX6_init_10 (by decide) ?_
  refine g_put hx hb hts in_6 tyX6_ok nmX6 hown hK.1 hS h1 (by omega) rfl 1 (by decide) l_15 rfl rfl rfl rfl (Nat.le_of_ble_eq_true rfl) dX6_init_12 (fun H locs h2 oq hS => ?_)
  replace h2 : g_at G (a) (.inr (6, [.int (1 : Int32), .int (10 : Int32), .int 0, .int 0, .int 0])) H := h2
  replace hz := (g_size h1 h2 oq).trans hz
  replace hq := fun (q : Nat) (h1 : q < n) (h2 : q ≠ a) => (oq q h2).trans (hq q h1 h2)
  clear h1 oq
  refine lv_aload_n hx hb dX6_init_15 rfl (lv_at hl 0 rfl) ?_
  refine lv_iconst (v := 0) hx hb dX6_init_16 (by decide) ?_
  refine g_put hx hb hts in_6 tyX6_ok nmX6 hown hK.1 hS h2 (by omega) rfl 2 (by decide) l_18 rfl rfl rfl rfl (Nat.le_of_ble_eq_true rfl) dX6_init_17 (fun H locs h3 oq hS => ?_)
  replace h3 : g_at G (a) (.inr (6, [.int (1 : Int32), .int (10 : Int32), .int (0 : Int32), .int 0, .int 0])) H := h3
  replace hz := (g_size h2 h3 oq).trans hz
  replace hq := fun (q : Nat) (h1 : q < n) (h2 : q ≠ a) => (oq q h2).trans (hq q h1 h2)
  clear h2 oq
  refine lv_aload_n hx hb dX6_init_20 rfl (lv_at hl 0 rfl) ?_
  refine lv_iconst (v := 0) hx hb dX6_init_21 (by decide) ?_
  refine g_put hx hb hts in_6 tyX6_ok nmX6 hown hK.1 hS h3 (by omega) rfl 3 (by decide) l_21 rfl rfl rfl rfl (Nat.le_of_ble_eq_true rfl) dX6_init_22 (fun H locs h4 oq hS => ?_)
  replace h4 : g_at G (a) (.inr (6, [.int (1 : Int32), .int (10 : Int32), .int (0 : Int32), .int (0 : Int32), .int 0])) H := h4
  replace hz := (g_size h3 h4 oq).trans hz
  replace hq := fun (q : Nat) (h1 : q < n) (h2 : q ≠ a) => (oq q h2).trans (hq q h1 h2)
  clear h3 oq
  refine lv_aload_n hx hb dX6_init_25 rfl (lv_at hl 0 rfl) ?_
  refine lv_iconst (v := 1) hx hb dX6_init_26 (by decide) ?_
  refine g_put hx hb hts in_6 tyX6_ok nmX6 hown hK.1 hS h4 (by omega) rfl 4 (by decide) l_24 rfl rfl rfl rfl (Nat.le_of_ble_eq_true rfl) dX6_init_27 (fun H locs h5 oq hS => ?_)
  replace h5 : g_at G (a) (.inr (6, [.int (1 : Int32), .int (10 : Int32), .int (0 : Int32), .int (0 : Int32), .int (1 : Int32)])) H := h5
  replace hz := (g_size h4 h5 oq).trans hz
  replace hq := fun (q : Nat) (h1 : q < n) (h2 : q ≠ a) => (oq q h2).trans (hq q h1 h2)
  clear h4 oq
  exact g_vretC hx hb hlocks hr hS h5 hz hq (by omega) (by omega) dX6_init_30
set_option maxHeartbeats 4000000 in
set_option maxRecDepth 100000 in
theorem c1_init (l : Launch) (G : gG) (a n : Nat) (hg : G.2.2 ≤ a) (han : a < n) : Met l yX1_init wsX1_init ({ frames := 1, cells := 0, slots := 0, locals := 16 } : Room) (g_PreC G (a) (.inr (1, [.int 0, .int 0, .int 0, .int 0, .int 0, .int 0, .int 0, .int 0, .int 0, .int 0])) (n)) (g_QC (a) (n) (n) (fun H => g_at G a (.inr (1, [.int 0, .int 0, .int 0, .int 0, .int 0, .int 0, .int 0, .int 0, .int 0, .int 0])) H)) 0 0 (g_A G) := by
  refine Met.ofW (cc := cX1_init) (maxL := 1) (ret := none) (by decide) rfl ?_
  intro p e s m args below meth c s₁ B hml hv
  obtain ⟨rfl, hz, h0, hK⟩ := hv
  have hx := B.exec
  have hb := B.bytes
  have hr := B.returns
  have hts := atoms_spec (ws := wsX1_init) B.pre
  have hown : s.vm.findClass RX1 = some m.cls := findClass_of_methodNamed B.named
  have hlocks := B.notSynchronized
  have hin : meth.name = "<init>" := (name_of_methodNamed B.named B.method).1
  have hS : va_S (g_A G) s.heap s.heap [] := va_S.rf
  have hq : ∀ q : Nat, q < n → q ≠ a → s.heap[q]? = s.heap[q]? := fun _ _ _ => rfl
  have hl := lv_entry ([.ref (a)]) (n := 1) (Nat.le_of_ble_eq_true rfl)
  rw [lg_entry_eq]
  generalize (lg_sl ([.ref (a)]) ++ List.replicate (1 - (lg_sl ([.ref (a)])).length) Slot.unset).toArray = ls at hl ⊢
  have hl : lv_has ls 1 [(0, .ref (a))] := hl
  have o_1 := hts (.methodLink RX1 1 objectInit) (by decide +kernel)
  have o2_1 := hts (.instanceMethod objectInit) (by decide +kernel)
  have o3_1 := hts (.code objectInit ⟨#[0xb1]⟩ 1 none) (by decide +kernel)
  have in_1 : ∀ w ∈ u_ws RX1 TX1 10, w ∈ wsX1_init := ifX1_init_1
  have l_7 := hts (.fieldLink RX1 7 "GlassRacks$Cutting" "turned" "Z") (by decide +kernel)
  have l_13 := hts (.fieldLink RX1 13 "GlassRacks$Cutting" "besideWidth" "I") (by decide +kernel)
  have l_17 := hts (.fieldLink RX1 17 "GlassRacks$Cutting" "besideHeight" "I") (by decide +kernel)
  have l_20 := hts (.fieldLink RX1 20 "GlassRacks$Cutting" "besideArea" "I") (by decide +kernel)
  have l_23 := hts (.fieldLink RX1 23 "GlassRacks$Cutting" "aboveWidth" "I") (by decide +kernel)
  have l_26 := hts (.fieldLink RX1 26 "GlassRacks$Cutting" "aboveHeight" "I") (by decide +kernel)
  have l_29 := hts (.fieldLink RX1 29 "GlassRacks$Cutting" "aboveArea" "I") (by decide +kernel)
  have l_32 := hts (.fieldLink RX1 32 "GlassRacks$Cutting" "keptArea" "I") (by decide +kernel)
  have l_35 := hts (.fieldLink RX1 35 "GlassRacks$Cutting" "scrapArea" "I") (by decide +kernel)
  have l_38 := hts (.fieldLink RX1 38 "GlassRacks$Cutting" "lostArea" "I") (by decide +kernel)
  refine lv_aload_n hx hb dX1_init_0 rfl (lv_at hl 0 rfl) ?_
  refine W.objInit hx hb hown o_1 o2_1 o3_1 rfl (by rw [hml]; exact hl.1) rfl dX1_init_1 (Nat.le_of_ble_eq_true rfl) (Nat.le_of_ble_eq_true rfl) ?_
  refine W.eq (g2 := F0 m 4 ls []) rfl ?_
  refine lv_aload_n hx hb dX1_init_4 rfl (lv_at hl 0 rfl) ?_
  refine lv_iconst (v := 0) hx hb dX1_init_5 (by decide) ?_
  refine g_put hx hb hts in_1 tyX1_ok nmX1 hown hK.1 hS h0 (by omega) rfl 0 (by decide) l_7 rfl rfl rfl rfl (Nat.le_of_ble_eq_true rfl) dX1_init_6 (fun H locs h1 oq hS => ?_)
  replace h1 : g_at G (a) (.inr (1, [.int (0 : Int32), .int 0, .int 0, .int 0, .int 0, .int 0, .int 0, .int 0, .int 0, .int 0])) H := h1
  replace hz := (g_size h0 h1 oq).trans hz
  replace hq := fun (q : Nat) (h1 : q < n) (h2 : q ≠ a) => (oq q h2).trans (hq q h1 h2)
  clear h0 oq
  refine lv_aload_n hx hb dX1_init_9 rfl (lv_at hl 0 rfl) ?_
  refine lv_iconst (v := 0) hx hb dX1_init_10 (by decide) ?_
  refine g_put hx hb hts in_1 tyX1_ok nmX1 hown hK.1 hS h1 (by omega) rfl 1 (by decide) l_13 rfl rfl rfl rfl (Nat.le_of_ble_eq_true rfl) dX1_init_11 (fun H locs h2 oq hS => ?_)
  replace h2 : g_at G (a) (.inr (1, [.int (0 : Int32), .int (0 : Int32), .int 0, .int 0, .int 0, .int 0, .int 0, .int 0, .int 0, .int 0])) H := h2
  replace hz := (g_size h1 h2 oq).trans hz
  replace hq := fun (q : Nat) (h1 : q < n) (h2 : q ≠ a) => (oq q h2).trans (hq q h1 h2)
  clear h1 oq
  refine lv_aload_n hx hb dX1_init_14 rfl (lv_at hl 0 rfl) ?_
  refine lv_iconst (v := 0) hx hb dX1_init_15 (by decide) ?_
  refine g_put hx hb hts in_1 tyX1_ok nmX1 hown hK.1 hS h2 (by omega) rfl 2 (by decide) l_17 rfl rfl rfl rfl (Nat.le_of_ble_eq_true rfl) dX1_init_16 (fun H locs h3 oq hS => ?_)
  replace h3 : g_at G (a) (.inr (1, [.int (0 : Int32), .int (0 : Int32), .int (0 : Int32), .int 0, .int 0, .int 0, .int 0, .int 0, .int 0, .int 0])) H := h3
  replace hz := (g_size h2 h3 oq).trans hz
  replace hq := fun (q : Nat) (h1 : q < n) (h2 : q ≠ a) => (oq q h2).trans (hq q h1 h2)
  clear h2 oq
  refine lv_aload_n hx hb dX1_init_19 rfl (lv_at hl 0 rfl) ?_
  refine lv_iconst (v := 0) hx hb dX1_init_20 (by decide) ?_
  refine g_put hx hb hts in_1 tyX1_ok nmX1 hown hK.1 hS h3 (by omega) rfl 3 (by decide) l_20 rfl rfl rfl rfl (Nat.le_of_ble_eq_true rfl) dX1_init_21 (fun H locs h4 oq hS => ?_)
  replace h4 : g_at G (a) (.inr (1, [.int (0 : Int32), .int (0 : Int32), .int (0 : Int32), .int (0 : Int32), .int 0, .int 0, .int 0, .int 0, .int 0, .int 0])) H := h4
  replace hz := (g_size h3 h4 oq).trans hz
  replace hq := fun (q : Nat) (h1 : q < n) (h2 : q ≠ a) => (oq q h2).trans (hq q h1 h2)
  clear h3 oq
  refine lv_aload_n hx hb dX1_init_24 rfl (lv_at hl 0 rfl) ?_
  refine lv_iconst (v := 0) hx hb dX1_init_25 (by decide) ?_
  refine g_put hx hb hts in_1 tyX1_ok nmX1 hown hK.1 hS h4 (by omega) rfl 4 (by decide) l_23 rfl rfl rfl rfl (Nat.le_of_ble_eq_true rfl) dX1_init_26 (fun H locs h5 oq hS => ?_)
  replace h5 : g_at G (a) (.inr (1, [.int (0 : Int32), .int (0 : Int32), .int (0 : Int32), .int (0 : Int32), .int (0 : Int32), .int 0, .int 0, .int 0, .int 0, .int 0])) H := h5
  replace hz := (g_size h4 h5 oq).trans hz
  replace hq := fun (q : Nat) (h1 : q < n) (h2 : q ≠ a) => (oq q h2).trans (hq q h1 h2)
  clear h4 oq
  refine lv_aload_n hx hb dX1_init_29 rfl (lv_at hl 0 rfl) ?_
  refine lv_iconst (v := 0) hx hb dX1_init_30 (by decide) ?_
  refine g_put hx hb hts in_1 tyX1_ok nmX1 hown hK.1 hS h5 (by omega) rfl 5 (by decide) l_26 rfl rfl rfl rfl (Nat.le_of_ble_eq_true rfl) dX1_init_31 (fun H locs h6 oq hS => ?_)
  replace h6 : g_at G (a) (.inr (1, [.int (0 : Int32), .int (0 : Int32), .int (0 : Int32), .int (0 : Int32), .int (0 : Int32), .int (0 : Int32), .int 0, .int 0, .int 0, .int 0])) H := h6
  replace hz := (g_size h5 h6 oq).trans hz
  replace hq := fun (q : Nat) (h1 : q < n) (h2 : q ≠ a) => (oq q h2).trans (hq q h1 h2)
  clear h5 oq
  refine lv_aload_n hx hb dX1_init_34 rfl (lv_at hl 0 rfl) ?_
  refine lv_iconst (v := 0) hx hb dX1_init_35 (by decide) ?_
  refine g_put hx hb hts in_1 tyX1_ok nmX1 hown hK.1 hS h6 (by omega) rfl 6 (by decide) l_29 rfl rfl rfl rfl (Nat.le_of_ble_eq_true rfl) dX1_init_36 (fun H locs h7 oq hS => ?_)
  replace h7 : g_at G (a) (.inr (1, [.int (0 : Int32), .int (0 : Int32), .int (0 : Int32), .int (0 : Int32), .int (0 : Int32), .int (0 : Int32), .int (0 : Int32), .int 0, .int 0, .int 0])) H := h7
  replace hz := (g_size h6 h7 oq).trans hz
  replace hq := fun (q : Nat) (h1 : q < n) (h2 : q ≠ a) => (oq q h2).trans (hq q h1 h2)
  clear h6 oq
  refine lv_aload_n hx hb dX1_init_39 rfl (lv_at hl 0 rfl) ?_
  refine lv_iconst (v := 0) hx hb dX1_init_40 (by decide) ?_
  refine g_put hx hb hts in_1 tyX1_ok nmX1 hown hK.1 hS h7 (by omega) rfl 7 (by decide) l_32 rfl rfl rfl rfl (Nat.le_of_ble_eq_true rfl) dX1_init_41 (fun H locs h8 oq hS => ?_)
  replace h8 : g_at G (a) (.inr (1, [.int (0 : Int32), .int (0 : Int32), .int (0 : Int32), .int (0 : Int32), .int (0 : Int32), .int (0 : Int32), .int (0 : Int32), .int (0 : Int32), .int 0, .int 0])) H := h8
  replace hz := (g_size h7 h8 oq).trans hz
  replace hq := fun (q : Nat) (h1 : q < n) (h2 : q ≠ a) => (oq q h2).trans (hq q h1 h2)
  clear h7 oq
  refine lv_aload_n hx hb dX1_init_44 rfl (lv_at hl 0 rfl) ?_
  refine lv_iconst (v := 0) hx hb dX1_init_45 (by decide) ?_
  refine g_put hx hb hts in_1 tyX1_ok nmX1 hown hK.1 hS h8 (by omega) rfl 8 (by decide) l_35 rfl rfl rfl rfl (Nat.le_of_ble_eq_true rfl) dX1_init_46 (fun H locs h9 oq hS => ?_)
  replace h9 : g_at G (a) (.inr (1, [.int (0 : Int32), .int (0 : Int32), .int (0 : Int32), .int (0 : Int32), .int (0 : Int32), .int (0 : Int32), .int (0 : Int32), .int (0 : Int32), .int (0 : Int32), .int 0])) H := h9
  replace hz := (g_size h8 h9 oq).trans hz
  replace hq := fun (q : Nat) (h1 : q < n) (h2 : q ≠ a) => (oq q h2).trans (hq q h1 h2)
  clear h8 oq
  refine lv_aload_n hx hb dX1_init_49 rfl (lv_at hl 0 rfl) ?_
  refine lv_iconst (v := 0) hx hb dX1_init_50 (by decide) ?_
  refine g_put hx hb hts in_1 tyX1_ok nmX1 hown hK.1 hS h9 (by omega) rfl 9 (by decide) l_38 rfl rfl rfl rfl (Nat.le_of_ble_eq_true rfl) dX1_init_51 (fun H locs h10 oq hS => ?_)
  replace h10 : g_at G (a) (.inr (1, [.int (0 : Int32), .int (0 : Int32), .int (0 : Int32), .int (0 : Int32), .int (0 : Int32), .int (0 : Int32), .int (0 : Int32), .int (0 : Int32), .int (0 : Int32), .int (0 : Int32)])) H := h10
  replace hz := (g_size h9 h10 oq).trans hz
  replace hq := fun (q : Nat) (h1 : q < n) (h2 : q ≠ a) => (oq q h2).trans (hq q h1 h2)
  clear h9 oq
  exact g_vretC hx hb hlocks hr hS h10 hz hq (by omega) (by omega) dX1_init_54
set_option maxHeartbeats 4000000 in
set_option maxRecDepth 100000 in
theorem c5_init (l : Launch) (G : gG) (a : Nat) (hg : G.2.2 ≤ a) : Met l yX5_init wsX5_init ({ frames := 1, cells := 1, slots := 32, locals := 16 } : Room) (g_PreC G (a) (.inr (5, [.null, .int 0])) (a + 1)) (g_QC (a) (a + 1) (a + 2) (fun H => g_at G a (.inr (5, [.ref (a + 1), .int 0])) H ∧ g_at G (a + 1) (g_aq (G.2.1 2) 32 (fun _ => none)) H)) 1 32 (g_A G) := by
  refine Met.ofW (cc := cX5_init) (maxL := 1) (ret := none) (by decide) rfl ?_
  intro p e s m args below meth c s₁ B hml hv
  obtain ⟨rfl, hz, h0, hK⟩ := hv
  have hx := B.exec
  have hb := B.bytes
  have hr := B.returns
  have hts := atoms_spec (ws := wsX5_init) B.pre
  have hown : s.vm.findClass RX5 = some m.cls := findClass_of_methodNamed B.named
  have hlocks := B.notSynchronized
  have hin : meth.name = "<init>" := (name_of_methodNamed B.named B.method).1
  have hS : va_S (g_A G) s.heap s.heap [] := va_S.rf
  have hq : ∀ q : Nat, q < a + 1 → q ≠ a → s.heap[q]? = s.heap[q]? := fun _ _ _ => rfl
  have hl := lv_entry ([.ref (a)]) (n := 1) (Nat.le_of_ble_eq_true rfl)
  rw [lg_entry_eq]
  generalize (lg_sl ([.ref (a)]) ++ List.replicate (1 - (lg_sl ([.ref (a)])).length) Slot.unset).toArray = ls at hl ⊢
  have hl : lv_has ls 1 [(0, .ref (a))] := hl
  have o_3 := hts (.methodLink RX5 3 objectInit) (by decide +kernel)
  have o2_3 := hts (.instanceMethod objectInit) (by decide +kernel)
  have o3_3 := hts (.code objectInit ⟨#[0xb1]⟩ 1 none) (by decide +kernel)
  have n_9 := hts (.classLink RX5 9 RX7) (by decide +kernel)
  have in_5 : ∀ w ∈ u_ws RX5 TX5 2, w ∈ wsX5_init := ifX5_init_5
  have l_11 := hts (.fieldLink RX5 11 "GlassRacks$Racks" "slots" "[LGlassRacks$Sheet;") (by decide +kernel)
  have l_17 := hts (.fieldLink RX5 17 "GlassRacks$Racks" "sheetsMade" "I") (by decide +kernel)
  refine lv_aload_n hx hb dX5_init_0 rfl (lv_at hl 0 rfl) ?_
  refine W.objInit hx hb hown o_3 o2_3 o3_3 rfl (by rw [hml]; exact hl.1) rfl dX5_init_1 (Nat.le_of_ble_eq_true rfl) (Nat.le_of_ble_eq_true rfl) ?_
  refine W.eq (g2 := F0 m 4 ls []) rfl ?_
  refine lv_aload_n hx hb dX5_init_4 rfl (lv_at hl 0 rfl) ?_
  refine lv_bipush (v := 32) hx hb dX5_init_5 (by decide) ?_
  refine g_newq (n := a + 1) (t0 := 2) hx hb hown n_9 hK.2.1 hK rfl hz hS (by decide) (N := 32) (by decide) (by decide) (by show _ ≤ 1; omega) (by show _ ≤ 32; omega) dX5_init_7 (fun H h1 hz oq hS => ?_)
  replace h0 := g_at.kept h0 (oq _ (g_lt (x := a) (a := 0) (b := 1) rfl))
  replace hq := fun (q : Nat) (h1 : q < a + 1) (h2 : q ≠ a) => (oq q (g_hl (x := a) (n := 1) (b := 1) h1 rfl)).trans (hq q h1 h2)
  clear oq
  replace hz : H.size = a + 2 := hz
  refine g_putF hx hb hts in_5 tyX5_ok nmX5 hown hK.1 hS h0 (by omega) rfl 0 (by decide) l_11 rfl rfl hin rfl rfl rfl (Nat.le_of_ble_eq_true rfl) dX5_init_10 (fun H locs h2 oq hS => ?_)
  replace h2 : g_at G (a) (.inr (5, [.ref (a + 1), .int 0])) H := h2
  replace hz := (g_size h0 h2 oq).trans hz
  replace h1 := g_at.kept h1 (oq _ (g_ne (x := a) (a := 1) (b := 0) rfl))
  replace hq := fun (q : Nat) (h1 : q < a + 1) (h2 : q ≠ a) => (oq q h2).trans (hq q h1 h2)
  clear h0 oq
  refine lv_aload_n hx hb dX5_init_13 rfl (lv_at hl 0 rfl) ?_
  refine lv_iconst (v := 0) hx hb dX5_init_14 (by decide) ?_
  refine g_put hx hb hts in_5 tyX5_ok nmX5 hown hK.1 hS h2 (by omega) rfl 1 (by decide) l_17 rfl rfl rfl rfl (Nat.le_of_ble_eq_true rfl) dX5_init_15 (fun H locs h3 oq hS => ?_)
  replace h3 : g_at G (a) (.inr (5, [.ref (a + 1), .int (0 : Int32)])) H := h3
  replace hz := (g_size h2 h3 oq).trans hz
  replace h1 := g_at.kept h1 (oq _ (g_ne (x := a) (a := 1) (b := 0) rfl))
  replace hq := fun (q : Nat) (h1 : q < a + 1) (h2 : q ≠ a) => (oq q h2).trans (hq q h1 h2)
  clear h2 oq
  exact g_vretC hx hb hlocks hr hS ⟨h3, h1⟩ hz hq (by omega) (by omega) dX5_init_18
set_option maxHeartbeats 4000000 in
set_option maxRecDepth 100000 in
theorem c4_init (l : Launch) (G : gG) (a : Nat) (hg : G.2.2 ≤ a) : Met l yX4_init wsX4_init ({ frames := 1, cells := 1, slots := 12, locals := 16 } : Room) (g_PreC G (a) (.inr (4, [.null, .int 0])) (a + 1)) (g_QC (a) (a + 1) (a + 2) (fun H => g_at G a (.inr (4, [.ref (a + 1), .int 0])) H ∧ g_at G (a + 1) (g_aq (G.2.1 3) 12 (fun _ => none)) H)) 1 12 (g_A G) := by
  refine Met.ofW (cc := cX4_init) (maxL := 1) (ret := none) (by decide) rfl ?_
  intro p e s m args below meth c s₁ B hml hv
  obtain ⟨rfl, hz, h0, hK⟩ := hv
  have hx := B.exec
  have hb := B.bytes
  have hr := B.returns
  have hts := atoms_spec (ws := wsX4_init) B.pre
  have hown : s.vm.findClass RX4 = some m.cls := findClass_of_methodNamed B.named
  have hlocks := B.notSynchronized
  have hin : meth.name = "<init>" := (name_of_methodNamed B.named B.method).1
  have hS : va_S (g_A G) s.heap s.heap [] := va_S.rf
  have hq : ∀ q : Nat, q < a + 1 → q ≠ a → s.heap[q]? = s.heap[q]? := fun _ _ _ => rfl
  have hl := lv_entry ([.ref (a)]) (n := 1) (Nat.le_of_ble_eq_true rfl)
  rw [lg_entry_eq]
  generalize (lg_sl ([.ref (a)]) ++ List.replicate (1 - (lg_sl ([.ref (a)])).length) Slot.unset).toArray = ls at hl ⊢
  have hl : lv_has ls 1 [(0, .ref (a))] := hl
  have o_3 := hts (.methodLink RX4 3 objectInit) (by decide +kernel)
  have o2_3 := hts (.instanceMethod objectInit) (by decide +kernel)
  have o3_3 := hts (.code objectInit ⟨#[0xb1]⟩ 1 none) (by decide +kernel)
  have n_9 := hts (.classLink RX4 9 RX3) (by decide +kernel)
  have in_4 : ∀ w ∈ u_ws RX4 TX4 2, w ∈ wsX4_init := ifX4_init_4
  have l_11 := hts (.fieldLink RX4 11 "GlassRacks$Orders" "list" "[LGlassRacks$Order;") (by decide +kernel)
  have l_17 := hts (.fieldLink RX4 17 "GlassRacks$Orders" "taken" "I") (by decide +kernel)
  refine lv_aload_n hx hb dX4_init_0 rfl (lv_at hl 0 rfl) ?_
  refine W.objInit hx hb hown o_3 o2_3 o3_3 rfl (by rw [hml]; exact hl.1) rfl dX4_init_1 (Nat.le_of_ble_eq_true rfl) (Nat.le_of_ble_eq_true rfl) ?_
  refine W.eq (g2 := F0 m 4 ls []) rfl ?_
  refine lv_aload_n hx hb dX4_init_4 rfl (lv_at hl 0 rfl) ?_
  refine lv_bipush (v := 12) hx hb dX4_init_5 (by decide) ?_
  refine g_newq (n := a + 1) (t0 := 3) hx hb hown n_9 hK.2.2.1 hK rfl hz hS (by decide) (N := 12) (by decide) (by decide) (by show _ ≤ 1; omega) (by show _ ≤ 12; omega) dX4_init_7 (fun H h1 hz oq hS => ?_)
  replace h0 := g_at.kept h0 (oq _ (g_lt (x := a) (a := 0) (b := 1) rfl))
  replace hq := fun (q : Nat) (h1 : q < a + 1) (h2 : q ≠ a) => (oq q (g_hl (x := a) (n := 1) (b := 1) h1 rfl)).trans (hq q h1 h2)
  clear oq
  replace hz : H.size = a + 2 := hz
  refine g_putF hx hb hts in_4 tyX4_ok nmX4 hown hK.1 hS h0 (by omega) rfl 0 (by decide) l_11 rfl rfl hin rfl rfl rfl (Nat.le_of_ble_eq_true rfl) dX4_init_10 (fun H locs h2 oq hS => ?_)
  replace h2 : g_at G (a) (.inr (4, [.ref (a + 1), .int 0])) H := h2
  replace hz := (g_size h0 h2 oq).trans hz
  replace h1 := g_at.kept h1 (oq _ (g_ne (x := a) (a := 1) (b := 0) rfl))
  replace hq := fun (q : Nat) (h1 : q < a + 1) (h2 : q ≠ a) => (oq q h2).trans (hq q h1 h2)
  clear h0 oq
  refine lv_aload_n hx hb dX4_init_13 rfl (lv_at hl 0 rfl) ?_
  refine lv_iconst (v := 0) hx hb dX4_init_14 (by decide) ?_
  refine g_put hx hb hts in_4 tyX4_ok nmX4 hown hK.1 hS h2 (by omega) rfl 1 (by decide) l_17 rfl rfl rfl rfl (Nat.le_of_ble_eq_true rfl) dX4_init_15 (fun H locs h3 oq hS => ?_)
  replace h3 : g_at G (a) (.inr (4, [.ref (a + 1), .int (0 : Int32)])) H := h3
  replace hz := (g_size h2 h3 oq).trans hz
  replace h1 := g_at.kept h1 (oq _ (g_ne (x := a) (a := 1) (b := 0) rfl))
  replace hq := fun (q : Nat) (h1 : q < a + 1) (h2 : q ≠ a) => (oq q h2).trans (hq q h1 h2)
  clear h2 oq
  exact g_vretC hx hb hlocks hr hS ⟨h3, h1⟩ hz hq (by omega) (by omega) dX4_init_18
set_option maxHeartbeats 4000000 in
set_option maxRecDepth 100000 in
theorem c0_init (l : Launch) (G : gG)  : Met l yX0_init wsX0_init ({ frames := 1, cells := 1, slots := 60, locals := 16 } : Room) (g_PreC G (G.2.2 + 52) (.inr (0, [.null, .int 0, .int 0, .int 0, .int 0, .int 0, .int 0, .int 0, .int 0, .int 0, .int 0, .int 0])) (G.2.2 + 53)) (g_QC (G.2.2 + 52) (G.2.2 + 53) (G.2.2 + 54) (fun H => g_Tp G g_t0 H)) 1 60 (g_A G) := by
  refine Met.ofW (cc := cX0_init) (maxL := 1) (ret := none) (by decide) rfl ?_
  intro p e s m args below meth c s₁ B hml hv
  obtain ⟨rfl, hz, h0, hK⟩ := hv
  have hx := B.exec
  have hb := B.bytes
  have hr := B.returns
  have hts := atoms_spec (ws := wsX0_init) B.pre
  have hown : s.vm.findClass RX0 = some m.cls := findClass_of_methodNamed B.named
  have hlocks := B.notSynchronized
  have hin : meth.name = "<init>" := (name_of_methodNamed B.named B.method).1
  have hS : va_S (g_A G) s.heap s.heap [] := va_S.rf
  have hq : ∀ q : Nat, q < G.2.2 + 53 → q ≠ G.2.2 + 52 → s.heap[q]? = s.heap[q]? := fun _ _ _ => rfl
  have hl := lv_entry ([.ref (G.2.2 + 52)]) (n := 1) (Nat.le_of_ble_eq_true rfl)
  rw [lg_entry_eq]
  generalize (lg_sl ([.ref (G.2.2 + 52)]) ++ List.replicate (1 - (lg_sl ([.ref (G.2.2 + 52)])).length) Slot.unset).toArray = ls at hl ⊢
  have hl : lv_has ls 1 [(0, .ref (G.2.2 + 52))] := hl
  have o_3 := hts (.methodLink RX0 3 objectInit) (by decide +kernel)
  have o2_3 := hts (.instanceMethod objectInit) (by decide +kernel)
  have o3_3 := hts (.code objectInit ⟨#[0xb1]⟩ 1 none) (by decide +kernel)
  have ac_char := hts (.arrayClass .char) (by decide +kernel)
  have in_0 : ∀ w ∈ u_ws RX0 TX0 12, w ∈ wsX0_init := ifX0_init_0
  have l_9 := hts (.fieldLink RX0 9 "GlassRacks$CommandText" "characters" "[C") (by decide +kernel)
  have l_15 := hts (.fieldLink RX0 15 "GlassRacks$CommandText" "length" "I") (by decide +kernel)
  have l_19 := hts (.fieldLink RX0 19 "GlassRacks$CommandText" "position" "I") (by decide +kernel)
  have l_22 := hts (.fieldLink RX0 22 "GlassRacks$CommandText" "faulty" "Z") (by decide +kernel)
  have l_26 := hts (.fieldLink RX0 26 "GlassRacks$CommandText" "command" "I") (by decide +kernel)
  have l_29 := hts (.fieldLink RX0 29 "GlassRacks$CommandText" "rack" "I") (by decide +kernel)
  have l_32 := hts (.fieldLink RX0 32 "GlassRacks$CommandText" "sort" "I") (by decide +kernel)
  have l_35 := hts (.fieldLink RX0 35 "GlassRacks$CommandText" "width" "I") (by decide +kernel)
  have l_38 := hts (.fieldLink RX0 38 "GlassRacks$CommandText" "height" "I") (by decide +kernel)
  have l_41 := hts (.fieldLink RX0 41 "GlassRacks$CommandText" "day" "I") (by decide +kernel)
  have l_44 := hts (.fieldLink RX0 44 "GlassRacks$CommandText" "choice" "I") (by decide +kernel)
  have l_47 := hts (.fieldLink RX0 47 "GlassRacks$CommandText" "days" "I") (by decide +kernel)
  refine lv_aload_n hx hb dX0_init_0 rfl (lv_at hl 0 rfl) ?_
  refine W.objInit hx hb hown o_3 o2_3 o3_3 rfl (by rw [hml]; exact hl.1) rfl dX0_init_1 (Nat.le_of_ble_eq_true rfl) (Nat.le_of_ble_eq_true rfl) ?_
  refine W.eq (g2 := F0 m 4 ls []) rfl ?_
  refine lv_aload_n hx hb dX0_init_4 rfl (lv_at hl 0 rfl) ?_
  refine lv_bipush (v := 60) hx hb dX0_init_5 (by decide) ?_
  refine g_newc (n := G.2.2 + 53) hx hb ac_char hK hz hS (by decide) (N := 60) (by decide) (by decide) (by show _ ≤ 1; omega) (by show _ ≤ 60; omega) dX0_init_7 (fun H h1 hz oq hS => ?_)
  replace h0 := g_at.kept h0 (oq _ (g_lt (x := G.2.2) (a := 52) (b := 53) rfl))
  replace hq := fun (q : Nat) (h1 : q < G.2.2 + 53) (h2 : q ≠ G.2.2 + 52) => (oq q (g_hl (x := G.2.2) (n := 53) (b := 53) h1 rfl)).trans (hq q h1 h2)
  clear oq
  replace hz : H.size = G.2.2 + 54 := hz
  refine g_putF hx hb hts in_0 tyX0_ok nmX0 hown hK.1 hS h0 (by omega) rfl 0 (by decide) l_9 rfl rfl hin rfl rfl rfl (Nat.le_of_ble_eq_true rfl) dX0_init_9 (fun H locs h2 oq hS => ?_)
  replace h2 : g_at G (G.2.2 + 52) (.inr (0, [.ref (G.2.2 + 53), .int 0, .int 0, .int 0, .int 0, .int 0, .int 0, .int 0, .int 0, .int 0, .int 0, .int 0])) H := h2
  replace hz := (g_size h0 h2 oq).trans hz
  replace h1 := g_at.kept h1 (oq _ (g_ne (x := G.2.2) (a := 53) (b := 52) rfl))
  replace hq := fun (q : Nat) (h1 : q < G.2.2 + 53) (h2 : q ≠ G.2.2 + 52) => (oq q h2).trans (hq q h1 h2)
  clear h0 oq
  refine lv_aload_n hx hb dX0_init_12 rfl (lv_at hl 0 rfl) ?_
  refine lv_iconst (v := 0) hx hb dX0_init_13 (by decide) ?_
  refine g_put hx hb hts in_0 tyX0_ok nmX0 hown hK.1 hS h2 (by omega) rfl 1 (by decide) l_15 rfl rfl rfl rfl (Nat.le_of_ble_eq_true rfl) dX0_init_14 (fun H locs h3 oq hS => ?_)
  replace h3 : g_at G (G.2.2 + 52) (.inr (0, [.ref (G.2.2 + 53), .int (0 : Int32), .int 0, .int 0, .int 0, .int 0, .int 0, .int 0, .int 0, .int 0, .int 0, .int 0])) H := h3
  replace hz := (g_size h2 h3 oq).trans hz
  replace h1 := g_at.kept h1 (oq _ (g_ne (x := G.2.2) (a := 53) (b := 52) rfl))
  replace hq := fun (q : Nat) (h1 : q < G.2.2 + 53) (h2 : q ≠ G.2.2 + 52) => (oq q h2).trans (hq q h1 h2)
  clear h2 oq
  refine lv_aload_n hx hb dX0_init_17 rfl (lv_at hl 0 rfl) ?_
  refine lv_iconst (v := 0) hx hb dX0_init_18 (by decide) ?_
  refine g_put hx hb hts in_0 tyX0_ok nmX0 hown hK.1 hS h3 (by omega) rfl 2 (by decide) l_19 rfl rfl rfl rfl (Nat.le_of_ble_eq_true rfl) dX0_init_19 (fun H locs h4 oq hS => ?_)
  replace h4 : g_at G (G.2.2 + 52) (.inr (0, [.ref (G.2.2 + 53), .int (0 : Int32), .int (0 : Int32), .int 0, .int 0, .int 0, .int 0, .int 0, .int 0, .int 0, .int 0, .int 0])) H := h4
  replace hz := (g_size h3 h4 oq).trans hz
  replace h1 := g_at.kept h1 (oq _ (g_ne (x := G.2.2) (a := 53) (b := 52) rfl))
  replace hq := fun (q : Nat) (h1 : q < G.2.2 + 53) (h2 : q ≠ G.2.2 + 52) => (oq q h2).trans (hq q h1 h2)
  clear h3 oq
  refine lv_aload_n hx hb dX0_init_22 rfl (lv_at hl 0 rfl) ?_
  refine lv_iconst (v := 0) hx hb dX0_init_23 (by decide) ?_
  refine g_put hx hb hts in_0 tyX0_ok nmX0 hown hK.1 hS h4 (by omega) rfl 3 (by decide) l_22 rfl rfl rfl rfl (Nat.le_of_ble_eq_true rfl) dX0_init_24 (fun H locs h5 oq hS => ?_)
  replace h5 : g_at G (G.2.2 + 52) (.inr (0, [.ref (G.2.2 + 53), .int (0 : Int32), .int (0 : Int32), .int (0 : Int32), .int 0, .int 0, .int 0, .int 0, .int 0, .int 0, .int 0, .int 0])) H := h5
  replace hz := (g_size h4 h5 oq).trans hz
  replace h1 := g_at.kept h1 (oq _ (g_ne (x := G.2.2) (a := 53) (b := 52) rfl))
  replace hq := fun (q : Nat) (h1 : q < G.2.2 + 53) (h2 : q ≠ G.2.2 + 52) => (oq q h2).trans (hq q h1 h2)
  clear h4 oq
  refine lv_aload_n hx hb dX0_init_27 rfl (lv_at hl 0 rfl) ?_
  refine lv_iconst (v := 0) hx hb dX0_init_28 (by decide) ?_
  refine g_put hx hb hts in_0 tyX0_ok nmX0 hown hK.1 hS h5 (by omega) rfl 4 (by decide) l_26 rfl rfl rfl rfl (Nat.le_of_ble_eq_true rfl) dX0_init_29 (fun H locs h6 oq hS => ?_)
  replace h6 : g_at G (G.2.2 + 52) (.inr (0, [.ref (G.2.2 + 53), .int (0 : Int32), .int (0 : Int32), .int (0 : Int32), .int (0 : Int32), .int 0, .int 0, .int 0, .int 0, .int 0, .int 0, .int 0])) H := h6
  replace hz := (g_size h5 h6 oq).trans hz
  replace h1 := g_at.kept h1 (oq _ (g_ne (x := G.2.2) (a := 53) (b := 52) rfl))
  replace hq := fun (q : Nat) (h1 : q < G.2.2 + 53) (h2 : q ≠ G.2.2 + 52) => (oq q h2).trans (hq q h1 h2)
  clear h5 oq
  refine lv_aload_n hx hb dX0_init_32 rfl (lv_at hl 0 rfl) ?_
  refine lv_iconst (v := 0) hx hb dX0_init_33 (by decide) ?_
  refine g_put hx hb hts in_0 tyX0_ok nmX0 hown hK.1 hS h6 (by omega) rfl 5 (by decide) l_29 rfl rfl rfl rfl (Nat.le_of_ble_eq_true rfl) dX0_init_34 (fun H locs h7 oq hS => ?_)
  replace h7 : g_at G (G.2.2 + 52) (.inr (0, [.ref (G.2.2 + 53), .int (0 : Int32), .int (0 : Int32), .int (0 : Int32), .int (0 : Int32), .int (0 : Int32), .int 0, .int 0, .int 0, .int 0, .int 0, .int 0])) H := h7
  replace hz := (g_size h6 h7 oq).trans hz
  replace h1 := g_at.kept h1 (oq _ (g_ne (x := G.2.2) (a := 53) (b := 52) rfl))
  replace hq := fun (q : Nat) (h1 : q < G.2.2 + 53) (h2 : q ≠ G.2.2 + 52) => (oq q h2).trans (hq q h1 h2)
  clear h6 oq
  refine lv_aload_n hx hb dX0_init_37 rfl (lv_at hl 0 rfl) ?_
  refine lv_iconst (v := 0) hx hb dX0_init_38 (by decide) ?_
  refine g_put hx hb hts in_0 tyX0_ok nmX0 hown hK.1 hS h7 (by omega) rfl 6 (by decide) l_32 rfl rfl rfl rfl (Nat.le_of_ble_eq_true rfl) dX0_init_39 (fun H locs h8 oq hS => ?_)
  replace h8 : g_at G (G.2.2 + 52) (.inr (0, [.ref (G.2.2 + 53), .int (0 : Int32), .int (0 : Int32), .int (0 : Int32), .int (0 : Int32), .int (0 : Int32), .int (0 : Int32), .int 0, .int 0, .int 0, .int 0, .int 0])) H := h8
  replace hz := (g_size h7 h8 oq).trans hz
  replace h1 := g_at.kept h1 (oq _ (g_ne (x := G.2.2) (a := 53) (b := 52) rfl))
  replace hq := fun (q : Nat) (h1 : q < G.2.2 + 53) (h2 : q ≠ G.2.2 + 52) => (oq q h2).trans (hq q h1 h2)
  clear h7 oq
  refine lv_aload_n hx hb dX0_init_42 rfl (lv_at hl 0 rfl) ?_
  refine lv_iconst (v := 0) hx hb dX0_init_43 (by decide) ?_
  refine g_put hx hb hts in_0 tyX0_ok nmX0 hown hK.1 hS h8 (by omega) rfl 7 (by decide) l_35 rfl rfl rfl rfl (Nat.le_of_ble_eq_true rfl) dX0_init_44 (fun H locs h9 oq hS => ?_)
  replace h9 : g_at G (G.2.2 + 52) (.inr (0, [.ref (G.2.2 + 53), .int (0 : Int32), .int (0 : Int32), .int (0 : Int32), .int (0 : Int32), .int (0 : Int32), .int (0 : Int32), .int (0 : Int32), .int 0, .int 0, .int 0, .int 0])) H := h9
  replace hz := (g_size h8 h9 oq).trans hz
  replace h1 := g_at.kept h1 (oq _ (g_ne (x := G.2.2) (a := 53) (b := 52) rfl))
  replace hq := fun (q : Nat) (h1 : q < G.2.2 + 53) (h2 : q ≠ G.2.2 + 52) => (oq q h2).trans (hq q h1 h2)
  clear h8 oq
  refine lv_aload_n hx hb dX0_init_47 rfl (lv_at hl 0 rfl) ?_
  refine lv_iconst (v := 0) hx hb dX0_init_48 (by decide) ?_
  refine g_put hx hb hts in_0 tyX0_ok nmX0 hown hK.1 hS h9 (by omega) rfl 8 (by decide) l_38 rfl rfl rfl rfl (Nat.le_of_ble_eq_true rfl) dX0_init_49 (fun H locs h10 oq hS => ?_)
  replace h10 : g_at G (G.2.2 + 52) (.inr (0, [.ref (G.2.2 + 53), .int (0 : Int32), .int (0 : Int32), .int (0 : Int32), .int (0 : Int32), .int (0 : Int32), .int (0 : Int32), .int (0 : Int32), .int (0 : Int32), .int 0, .int 0, .int 0])) H := h10
  replace hz := (g_size h9 h10 oq).trans hz
  replace h1 := g_at.kept h1 (oq _ (g_ne (x := G.2.2) (a := 53) (b := 52) rfl))
  replace hq := fun (q : Nat) (h1 : q < G.2.2 + 53) (h2 : q ≠ G.2.2 + 52) => (oq q h2).trans (hq q h1 h2)
  clear h9 oq
  refine lv_aload_n hx hb dX0_init_52 rfl (lv_at hl 0 rfl) ?_
  refine lv_iconst (v := 0) hx hb dX0_init_53 (by decide) ?_
  refine g_put hx hb hts in_0 tyX0_ok nmX0 hown hK.1 hS h10 (by omega) rfl 9 (by decide) l_41 rfl rfl rfl rfl (Nat.le_of_ble_eq_true rfl) dX0_init_54 (fun H locs h11 oq hS => ?_)
  replace h11 : g_at G (G.2.2 + 52) (.inr (0, [.ref (G.2.2 + 53), .int (0 : Int32), .int (0 : Int32), .int (0 : Int32), .int (0 : Int32), .int (0 : Int32), .int (0 : Int32), .int (0 : Int32), .int (0 : Int32), .int (0 : Int32), .int 0, .int 0])) H := h11
  replace hz := (g_size h10 h11 oq).trans hz
  replace h1 := g_at.kept h1 (oq _ (g_ne (x := G.2.2) (a := 53) (b := 52) rfl))
  replace hq := fun (q : Nat) (h1 : q < G.2.2 + 53) (h2 : q ≠ G.2.2 + 52) => (oq q h2).trans (hq q h1 h2)
  clear h10 oq
  refine lv_aload_n hx hb dX0_init_57 rfl (lv_at hl 0 rfl) ?_
  refine lv_iconst (v := 0) hx hb dX0_init_58 (by decide) ?_
  refine g_put hx hb hts in_0 tyX0_ok nmX0 hown hK.1 hS h11 (by omega) rfl 10 (by decide) l_44 rfl rfl rfl rfl (Nat.le_of_ble_eq_true rfl) dX0_init_59 (fun H locs h12 oq hS => ?_)
  replace h12 : g_at G (G.2.2 + 52) (.inr (0, [.ref (G.2.2 + 53), .int (0 : Int32), .int (0 : Int32), .int (0 : Int32), .int (0 : Int32), .int (0 : Int32), .int (0 : Int32), .int (0 : Int32), .int (0 : Int32), .int (0 : Int32), .int (0 : Int32), .int 0])) H := h12
  replace hz := (g_size h11 h12 oq).trans hz
  replace h1 := g_at.kept h1 (oq _ (g_ne (x := G.2.2) (a := 53) (b := 52) rfl))
  replace hq := fun (q : Nat) (h1 : q < G.2.2 + 53) (h2 : q ≠ G.2.2 + 52) => (oq q h2).trans (hq q h1 h2)
  clear h11 oq
  refine lv_aload_n hx hb dX0_init_62 rfl (lv_at hl 0 rfl) ?_
  refine lv_iconst (v := 0) hx hb dX0_init_63 (by decide) ?_
  refine g_put hx hb hts in_0 tyX0_ok nmX0 hown hK.1 hS h12 (by omega) rfl 11 (by decide) l_47 rfl rfl rfl rfl (Nat.le_of_ble_eq_true rfl) dX0_init_64 (fun H locs h13 oq hS => ?_)
  replace h13 : g_at G (G.2.2 + 52) (.inr (0, [.ref (G.2.2 + 53), .int (0 : Int32), .int (0 : Int32), .int (0 : Int32), .int (0 : Int32), .int (0 : Int32), .int (0 : Int32), .int (0 : Int32), .int (0 : Int32), .int (0 : Int32), .int (0 : Int32), .int (0 : Int32)])) H := h13
  replace hz := (g_size h12 h13 oq).trans hz
  replace h1 := g_at.kept h1 (oq _ (g_ne (x := G.2.2) (a := 53) (b := 52) rfl))
  replace hq := fun (q : Nat) (h1 : q < G.2.2 + 53) (h2 : q ≠ G.2.2 + 52) => (oq q h2).trans (hq q h1 h2)
  clear h12 oq
  exact g_vretC hx hb hlocks hr hS ⟨h13, h1⟩ hz hq (by omega) (by omega) dX0_init_67
set_option maxHeartbeats 4000000 in
set_option maxRecDepth 100000 in
theorem c8_init (l : Launch) (G : gG) (i : Nat) (hi : i < 7) : Met l yX8_init wsX8_init ({ frames := 2, cells := 6, slots := 63, locals := 36 } : Room) (g_PreC G (g_stA G i) (.inr (8, [.null, .null, .null, .null, .int 0, .int 0, .int 0, .int 0, .int 0, .int 0, .int 0])) (g_stA G i + 1)) (g_QC (g_stA G i) (g_stA G i + 1) (g_stA G i + 7) (fun H => g_S G g_E0 i g_s0 H)) 6 63 (g_A G) := by
  refine Met.ofW (cc := cX8_init) (maxL := 1) (ret := none) (by decide) rfl ?_
  intro p e s m args below meth c s₁ B hml hv
  obtain ⟨rfl, hz, h0, hK⟩ := hv
  have hx := B.exec
  have hb := B.bytes
  have hr := B.returns
  have hts := atoms_spec (ws := wsX8_init) B.pre
  have hown : s.vm.findClass RX8 = some m.cls := findClass_of_methodNamed B.named
  have hlocks := B.notSynchronized
  have hin : meth.name = "<init>" := (name_of_methodNamed B.named B.method).1
  have hS : va_S (g_A G) s.heap s.heap [] := va_S.rf
  have hq : ∀ q : Nat, q < g_stA G i + 1 → q ≠ g_stA G i → s.heap[q]? = s.heap[q]? := fun _ _ _ => rfl
  have hl := lv_entry ([.ref (g_stA G i)]) (n := 1) (Nat.le_of_ble_eq_true rfl)
  rw [lg_entry_eq]
  generalize (lg_sl ([.ref (g_stA G i)]) ++ List.replicate (1 - (lg_sl ([.ref (g_stA G i)])).length) Slot.unset).toArray = ls at hl ⊢
  have hl : lv_has ls 1 [(0, .ref (g_stA G i))] := hl
  have hlo := g_stA_lo G hi
  have o_3 := hts (.methodLink RX8 3 objectInit) (by decide +kernel)
  have o2_3 := hts (.instanceMethod objectInit) (by decide +kernel)
  have o3_3 := hts (.code objectInit ⟨#[0xb1]⟩ 1 none) (by decide +kernel)
  have in_6 : ∀ w ∈ u_ws RX6 TX6 5, w ∈ wsX8_init := ifX8_init_6
  have n_9 := hts (.classLink RX8 9 RX6) (by decide +kernel)
  have n2_9 := hts (.instantiable RX6 5) (by decide +kernel)
  have n3_9 := hts (.initialized RX6) (by decide +kernel)
  have i1_11 := hts (.initialized RX6) (by decide +kernel)
  have i3_11 := hts (.instanceMethod yX6_init) (by decide +kernel)
  have i2_11 := hK.1.2 (RX8, 11, yX6_init) (by decide +kernel)
  have in_8 : ∀ w ∈ u_ws RX8 TX8 11, w ∈ wsX8_init := ifX8_init_8
  have l_12 := hts (.fieldLink RX8 12 "GlassRacks$State" "settings" "LGlassRacks$Settings;") (by decide +kernel)
  have in_5 : ∀ w ∈ u_ws RX5 TX5 2, w ∈ wsX8_init := ifX8_init_5
  have n_18 := hts (.classLink RX8 18 RX5) (by decide +kernel)
  have n2_18 := hts (.instantiable RX5 2) (by decide +kernel)
  have n3_18 := hts (.initialized RX5) (by decide +kernel)
  have i1_20 := hts (.initialized RX5) (by decide +kernel)
  have i3_20 := hts (.instanceMethod yX5_init) (by decide +kernel)
  have i2_20 := hK.1.2 (RX8, 20, yX5_init) (by decide +kernel)
  have l_21 := hts (.fieldLink RX8 21 "GlassRacks$State" "racks" "LGlassRacks$Racks;") (by decide +kernel)
  have in_4 : ∀ w ∈ u_ws RX4 TX4 2, w ∈ wsX8_init := ifX8_init_4
  have n_25 := hts (.classLink RX8 25 RX4) (by decide +kernel)
  have n2_25 := hts (.instantiable RX4 2) (by decide +kernel)
  have n3_25 := hts (.initialized RX4) (by decide +kernel)
  have i1_27 := hts (.initialized RX4) (by decide +kernel)
  have i3_27 := hts (.instanceMethod yX4_init) (by decide +kernel)
  have i2_27 := hK.1.2 (RX8, 27, yX4_init) (by decide +kernel)
  have l_28 := hts (.fieldLink RX8 28 "GlassRacks$State" "orders" "LGlassRacks$Orders;") (by decide +kernel)
  have in_1 : ∀ w ∈ u_ws RX1 TX1 10, w ∈ wsX8_init := ifX8_init_1
  have n_32 := hts (.classLink RX8 32 RX1) (by decide +kernel)
  have n2_32 := hts (.instantiable RX1 10) (by decide +kernel)
  have n3_32 := hts (.initialized RX1) (by decide +kernel)
  have i1_34 := hts (.initialized RX1) (by decide +kernel)
  have i3_34 := hts (.instanceMethod yX1_init) (by decide +kernel)
  have i2_34 := hK.1.2 (RX8, 34, yX1_init) (by decide +kernel)
  have l_35 := hts (.fieldLink RX8 35 "GlassRacks$State" "cutting" "LGlassRacks$Cutting;") (by decide +kernel)
  have l_39 := hts (.fieldLink RX8 39 "GlassRacks$State" "day" "I") (by decide +kernel)
  have l_43 := hts (.fieldLink RX8 43 "GlassRacks$State" "boughtArea" "I") (by decide +kernel)
  have l_46 := hts (.fieldLink RX8 46 "GlassRacks$State" "paneArea" "I") (by decide +kernel)
  have l_49 := hts (.fieldLink RX8 49 "GlassRacks$State" "scrapArea" "I") (by decide +kernel)
  have l_52 := hts (.fieldLink RX8 52 "GlassRacks$State" "brokenArea" "I") (by decide +kernel)
  have l_55 := hts (.fieldLink RX8 55 "GlassRacks$State" "lostArea" "I") (by decide +kernel)
  have l_58 := hts (.fieldLink RX8 58 "GlassRacks$State" "liftings" "I") (by decide +kernel)
  refine lv_aload_n hx hb dX8_init_0 rfl (lv_at hl 0 rfl) ?_
  refine W.objInit hx hb hown o_3 o2_3 o3_3 rfl (by rw [hml]; exact hl.1) rfl dX8_init_1 (Nat.le_of_ble_eq_true rfl) (Nat.le_of_ble_eq_true rfl) ?_
  refine W.eq (g2 := F0 m 4 ls []) rfl ?_
  refine lv_aload_n hx hb dX8_init_4 rfl (lv_at hl 0 rfl) ?_
  refine g_newC (n := g_stA G i + 1) (ci := 6) (fs := [.int 0, .int 0, .int 0, .int 0, .int 0]) hx hb hts in_6 tyX6_ok hown n_9 n2_9 n3_9 hK hz hS rfl (fun j hj => by rcases (show j = 0 ∨ j = 1 ∨ j = 2 ∨ j = 3 ∨ j = 4 by omega) with rfl | rfl | rfl | rfl | rfl <;> rfl) (by show _ ≤ 6; omega) (by show _ ≤ 63; omega) dX8_init_5 (fun H h1 hz oq hS => ?_)
  replace h0 := g_at.kept h0 (oq _ (g_lt (x := g_stA G i) (a := 0) (b := 1) rfl))
  replace hq := fun (q : Nat) (h1 : q < g_stA G i + 1) (h2 : q ≠ g_stA G i) => (oq q (g_hl (x := g_stA G i) (n := 1) (b := 1) h1 rfl)).trans (hq q h1 h2)
  clear oq
  replace hz : H.size = g_stA G i + 2 := hz
  refine lv_dup hx hb dX8_init_8 rfl ?_
  refine g_callC (va_runIN (host := "GlassRacks") (As := []) (rest := [.ref (g_stA G i + 1), .ref (g_stA G i)]) ⟨hx, hb, hml, hown, hts⟩ (c6_init l G (g_stA G i + 1) (g_stA G i + 1 + 1) (by omega) (by omega)) ⟨va_cnB 0 hts gX8_init_X6_init_n11 rfl rfl rfl i2_11 i1_11 (by decide +kernel) ⟨Nat.le_of_ble_eq_true rfl, Nat.le_of_ble_eq_true rfl⟩, rfl, i3_11⟩ (g_preC hz h1 hK) rfl rfl hl.1 rfl (lv_room (Nat.le_of_ble_eq_true rfl)) dX8_init_9 ⟨by show _ ≤ 6; omega, by show _ ≤ 63; omega⟩) hz (by omega) (by omega) (by omega) hS (fun w3 H locs hv hp2 hz oq hS => ?_)
  subst hv
  clear h1
  replace h0 := g_at.kept h0 (oq _ (g_lt (x := g_stA G i) (a := 0) (b := 2) rfl) (g_ne (x := g_stA G i) (a := 0) (b := 1) rfl))
  replace hq := fun (q : Nat) (h1 : q < g_stA G i + 1) (h2 : q ≠ g_stA G i) => (oq q (g_hl (x := g_stA G i) (n := 1) (b := 2) h1 rfl) (g_hn (x := g_stA G i) (n := 1) (b := 1) h1 rfl)).trans (hq q h1 h2)
  clear oq
  replace hz : H.size = g_stA G i + 2 := hz
  refine g_putF hx hb hts in_8 tyX8_ok nmX8 hown hK.1 hS h0 (by omega) rfl 0 (by decide) l_12 rfl rfl hin rfl rfl rfl (Nat.le_of_ble_eq_true rfl) dX8_init_12 (fun H locs h4 oq hS => ?_)
  replace h4 : g_at G (g_stA G i) (.inr (8, [.ref (g_stA G i + 1), .null, .null, .null, .int 0, .int 0, .int 0, .int 0, .int 0, .int 0, .int 0])) H := h4
  replace hz := (g_size h0 h4 oq).trans hz
  replace hp2 := g_at.kept hp2 (oq _ (g_ne (x := g_stA G i) (a := 1) (b := 0) rfl))
  replace hq := fun (q : Nat) (h1 : q < g_stA G i + 1) (h2 : q ≠ g_stA G i) => (oq q h2).trans (hq q h1 h2)
  clear h0 oq
  refine lv_aload_n hx hb dX8_init_15 rfl (lv_at hl 0 rfl) ?_
  refine g_newC (n := g_stA G i + 2) (ci := 5) (fs := [.null, .int 0]) hx hb hts in_5 tyX5_ok hown n_18 n2_18 n3_18 hK hz hS rfl (fun j hj => by rcases (show j = 0 ∨ j = 1 by omega) with rfl | rfl <;> rfl) (by show _ ≤ 6; omega) (by show _ ≤ 63; omega) dX8_init_16 (fun H h5 hz oq hS => ?_)
  replace h4 := g_at.kept h4 (oq _ (g_lt (x := g_stA G i) (a := 0) (b := 2) rfl))
  replace hp2 := g_at.kept hp2 (oq _ (g_lt (x := g_stA G i) (a := 1) (b := 2) rfl))
  replace hq := fun (q : Nat) (h1 : q < g_stA G i + 1) (h2 : q ≠ g_stA G i) => (oq q (g_hl (x := g_stA G i) (n := 1) (b := 2) h1 rfl)).trans (hq q h1 h2)
  clear oq
  replace hz : H.size = g_stA G i + 3 := hz
  refine lv_dup hx hb dX8_init_19 rfl ?_
  refine g_callC (va_runIN (host := "GlassRacks") (As := []) (rest := [.ref (g_stA G i + 2), .ref (g_stA G i)]) ⟨hx, hb, hml, hown, hts⟩ (c5_init l G (g_stA G i + 2) (by omega)) ⟨va_cnB 0 hts gX8_init_X5_init_n20 rfl rfl rfl i2_20 i1_20 (by decide +kernel) ⟨Nat.le_of_ble_eq_true rfl, Nat.le_of_ble_eq_true rfl⟩, rfl, i3_20⟩ (g_preC hz h5 hK) rfl rfl hl.1 rfl (lv_room (Nat.le_of_ble_eq_true rfl)) dX8_init_20 ⟨by show _ ≤ 6; omega, by show _ ≤ 63; omega⟩) hz (by omega) (by omega) (by omega) hS (fun w7 H locs hv hp6 hz oq hS => ?_)
  subst hv
  clear h5
  replace h4 := g_at.kept h4 (oq _ (g_lt (x := g_stA G i) (a := 0) (b := 3) rfl) (g_ne (x := g_stA G i) (a := 0) (b := 2) rfl))
  replace hp2 := g_at.kept hp2 (oq _ (g_lt (x := g_stA G i) (a := 1) (b := 3) rfl) (g_ne (x := g_stA G i) (a := 1) (b := 2) rfl))
  replace hq := fun (q : Nat) (h1 : q < g_stA G i + 1) (h2 : q ≠ g_stA G i) => (oq q (g_hl (x := g_stA G i) (n := 1) (b := 3) h1 rfl) (g_hn (x := g_stA G i) (n := 1) (b := 2) h1 rfl)).trans (hq q h1 h2)
  clear oq
  obtain ⟨h8, h9⟩ := hp6
  replace hz : H.size = g_stA G i + 4 := hz
  refine g_putF hx hb hts in_8 tyX8_ok nmX8 hown hK.1 hS h4 (by omega) rfl 1 (by decide) l_21 rfl rfl hin rfl rfl rfl (Nat.le_of_ble_eq_true rfl) dX8_init_23 (fun H locs h10 oq hS => ?_)
  replace h10 : g_at G (g_stA G i) (.inr (8, [.ref (g_stA G i + 1), .ref (g_stA G i + 2), .null, .null, .int 0, .int 0, .int 0, .int 0, .int 0, .int 0, .int 0])) H := h10
  replace hz := (g_size h4 h10 oq).trans hz
  replace hp2 := g_at.kept hp2 (oq _ (g_ne (x := g_stA G i) (a := 1) (b := 0) rfl))
  replace h8 := g_at.kept h8 (oq _ (g_ne (x := g_stA G i) (a := 2) (b := 0) rfl))
  replace h9 := g_at.kept h9 (oq _ (g_ne (x := g_stA G i) (a := 3) (b := 0) rfl))
  replace hq := fun (q : Nat) (h1 : q < g_stA G i + 1) (h2 : q ≠ g_stA G i) => (oq q h2).trans (hq q h1 h2)
  clear h4 oq
  refine lv_aload_n hx hb dX8_init_26 rfl (lv_at hl 0 rfl) ?_
  refine g_newC (n := g_stA G i + 4) (ci := 4) (fs := [.null, .int 0]) hx hb hts in_4 tyX4_ok hown n_25 n2_25 n3_25 hK hz hS rfl (fun j hj => by rcases (show j = 0 ∨ j = 1 by omega) with rfl | rfl <;> rfl) (by show _ ≤ 6; omega) (by show _ ≤ 63; omega) dX8_init_27 (fun H h11 hz oq hS => ?_)
  replace h10 := g_at.kept h10 (oq _ (g_lt (x := g_stA G i) (a := 0) (b := 4) rfl))
  replace hp2 := g_at.kept hp2 (oq _ (g_lt (x := g_stA G i) (a := 1) (b := 4) rfl))
  replace h8 := g_at.kept h8 (oq _ (g_lt (x := g_stA G i) (a := 2) (b := 4) rfl))
  replace h9 := g_at.kept h9 (oq _ (g_lt (x := g_stA G i) (a := 3) (b := 4) rfl))
  replace hq := fun (q : Nat) (h1 : q < g_stA G i + 1) (h2 : q ≠ g_stA G i) => (oq q (g_hl (x := g_stA G i) (n := 1) (b := 4) h1 rfl)).trans (hq q h1 h2)
  clear oq
  replace hz : H.size = g_stA G i + 5 := hz
  refine lv_dup hx hb dX8_init_30 rfl ?_
  refine g_callC (va_runIN (host := "GlassRacks") (As := []) (rest := [.ref (g_stA G i + 4), .ref (g_stA G i)]) ⟨hx, hb, hml, hown, hts⟩ (c4_init l G (g_stA G i + 4) (by omega)) ⟨va_cnB 0 hts gX8_init_X4_init_n27 rfl rfl rfl i2_27 i1_27 (by decide +kernel) ⟨Nat.le_of_ble_eq_true rfl, Nat.le_of_ble_eq_true rfl⟩, rfl, i3_27⟩ (g_preC hz h11 hK) rfl rfl hl.1 rfl (lv_room (Nat.le_of_ble_eq_true rfl)) dX8_init_31 ⟨by show _ ≤ 6; omega, by show _ ≤ 63; omega⟩) hz (by omega) (by omega) (by omega) hS (fun w13 H locs hv hp12 hz oq hS => ?_)
  subst hv
  clear h11
  replace h10 := g_at.kept h10 (oq _ (g_lt (x := g_stA G i) (a := 0) (b := 5) rfl) (g_ne (x := g_stA G i) (a := 0) (b := 4) rfl))
  replace hp2 := g_at.kept hp2 (oq _ (g_lt (x := g_stA G i) (a := 1) (b := 5) rfl) (g_ne (x := g_stA G i) (a := 1) (b := 4) rfl))
  replace h8 := g_at.kept h8 (oq _ (g_lt (x := g_stA G i) (a := 2) (b := 5) rfl) (g_ne (x := g_stA G i) (a := 2) (b := 4) rfl))
  replace h9 := g_at.kept h9 (oq _ (g_lt (x := g_stA G i) (a := 3) (b := 5) rfl) (g_ne (x := g_stA G i) (a := 3) (b := 4) rfl))
  replace hq := fun (q : Nat) (h1 : q < g_stA G i + 1) (h2 : q ≠ g_stA G i) => (oq q (g_hl (x := g_stA G i) (n := 1) (b := 5) h1 rfl) (g_hn (x := g_stA G i) (n := 1) (b := 4) h1 rfl)).trans (hq q h1 h2)
  clear oq
  obtain ⟨h14, h15⟩ := hp12
  replace hz : H.size = g_stA G i + 6 := hz
  refine g_putF hx hb hts in_8 tyX8_ok nmX8 hown hK.1 hS h10 (by omega) rfl 2 (by decide) l_28 rfl rfl hin rfl rfl rfl (Nat.le_of_ble_eq_true rfl) dX8_init_34 (fun H locs h16 oq hS => ?_)
  replace h16 : g_at G (g_stA G i) (.inr (8, [.ref (g_stA G i + 1), .ref (g_stA G i + 2), .ref (g_stA G i + 4), .null, .int 0, .int 0, .int 0, .int 0, .int 0, .int 0, .int 0])) H := h16
  replace hz := (g_size h10 h16 oq).trans hz
  replace hp2 := g_at.kept hp2 (oq _ (g_ne (x := g_stA G i) (a := 1) (b := 0) rfl))
  replace h8 := g_at.kept h8 (oq _ (g_ne (x := g_stA G i) (a := 2) (b := 0) rfl))
  replace h9 := g_at.kept h9 (oq _ (g_ne (x := g_stA G i) (a := 3) (b := 0) rfl))
  replace h14 := g_at.kept h14 (oq _ (g_ne (x := g_stA G i) (a := 4) (b := 0) rfl))
  replace h15 := g_at.kept h15 (oq _ (g_ne (x := g_stA G i) (a := 5) (b := 0) rfl))
  replace hq := fun (q : Nat) (h1 : q < g_stA G i + 1) (h2 : q ≠ g_stA G i) => (oq q h2).trans (hq q h1 h2)
  clear h10 oq
  refine lv_aload_n hx hb dX8_init_37 rfl (lv_at hl 0 rfl) ?_
  refine g_newC (n := g_stA G i + 6) (ci := 1) (fs := [.int 0, .int 0, .int 0, .int 0, .int 0, .int 0, .int 0, .int 0, .int 0, .int 0]) hx hb hts in_1 tyX1_ok hown n_32 n2_32 n3_32 hK hz hS rfl (fun j hj => by rcases (show j = 0 ∨ j = 1 ∨ j = 2 ∨ j = 3 ∨ j = 4 ∨ j = 5 ∨ j = 6 ∨ j = 7 ∨ j = 8 ∨ j = 9 by omega) with rfl | rfl | rfl | rfl | rfl | rfl | rfl | rfl | rfl | rfl <;> rfl) (by show _ ≤ 6; omega) (by show _ ≤ 63; omega) dX8_init_38 (fun H h17 hz oq hS => ?_)
  replace h16 := g_at.kept h16 (oq _ (g_lt (x := g_stA G i) (a := 0) (b := 6) rfl))
  replace hp2 := g_at.kept hp2 (oq _ (g_lt (x := g_stA G i) (a := 1) (b := 6) rfl))
  replace h8 := g_at.kept h8 (oq _ (g_lt (x := g_stA G i) (a := 2) (b := 6) rfl))
  replace h9 := g_at.kept h9 (oq _ (g_lt (x := g_stA G i) (a := 3) (b := 6) rfl))
  replace h14 := g_at.kept h14 (oq _ (g_lt (x := g_stA G i) (a := 4) (b := 6) rfl))
  replace h15 := g_at.kept h15 (oq _ (g_lt (x := g_stA G i) (a := 5) (b := 6) rfl))
  replace hq := fun (q : Nat) (h1 : q < g_stA G i + 1) (h2 : q ≠ g_stA G i) => (oq q (g_hl (x := g_stA G i) (n := 1) (b := 6) h1 rfl)).trans (hq q h1 h2)
  clear oq
  replace hz : H.size = g_stA G i + 7 := hz
  refine lv_dup hx hb dX8_init_41 rfl ?_
  refine g_callC (va_runIN (host := "GlassRacks") (As := []) (rest := [.ref (g_stA G i + 6), .ref (g_stA G i)]) ⟨hx, hb, hml, hown, hts⟩ (c1_init l G (g_stA G i + 6) (g_stA G i + 6 + 1) (by omega) (by omega)) ⟨va_cnB 0 hts gX8_init_X1_init_n34 rfl rfl rfl i2_34 i1_34 (by decide +kernel) ⟨Nat.le_of_ble_eq_true rfl, Nat.le_of_ble_eq_true rfl⟩, rfl, i3_34⟩ (g_preC hz h17 hK) rfl rfl hl.1 rfl (lv_room (Nat.le_of_ble_eq_true rfl)) dX8_init_42 ⟨by show _ ≤ 6; omega, by show _ ≤ 63; omega⟩) hz (by omega) (by omega) (by omega) hS (fun w19 H locs hv hp18 hz oq hS => ?_)
  subst hv
  clear h17
  replace h16 := g_at.kept h16 (oq _ (g_lt (x := g_stA G i) (a := 0) (b := 7) rfl) (g_ne (x := g_stA G i) (a := 0) (b := 6) rfl))
  replace hp2 := g_at.kept hp2 (oq _ (g_lt (x := g_stA G i) (a := 1) (b := 7) rfl) (g_ne (x := g_stA G i) (a := 1) (b := 6) rfl))
  replace h8 := g_at.kept h8 (oq _ (g_lt (x := g_stA G i) (a := 2) (b := 7) rfl) (g_ne (x := g_stA G i) (a := 2) (b := 6) rfl))
  replace h9 := g_at.kept h9 (oq _ (g_lt (x := g_stA G i) (a := 3) (b := 7) rfl) (g_ne (x := g_stA G i) (a := 3) (b := 6) rfl))
  replace h14 := g_at.kept h14 (oq _ (g_lt (x := g_stA G i) (a := 4) (b := 7) rfl) (g_ne (x := g_stA G i) (a := 4) (b := 6) rfl))
  replace h15 := g_at.kept h15 (oq _ (g_lt (x := g_stA G i) (a := 5) (b := 7) rfl) (g_ne (x := g_stA G i) (a := 5) (b := 6) rfl))
  replace hq := fun (q : Nat) (h1 : q < g_stA G i + 1) (h2 : q ≠ g_stA G i) => (oq q (g_hl (x := g_stA G i) (n := 1) (b := 7) h1 rfl) (g_hn (x := g_stA G i) (n := 1) (b := 6) h1 rfl)).trans (hq q h1 h2)
  clear oq
  replace hz : H.size = g_stA G i + 7 := hz
  refine g_putF hx hb hts in_8 tyX8_ok nmX8 hown hK.1 hS h16 (by omega) rfl 3 (by decide) l_35 rfl rfl hin rfl rfl rfl (Nat.le_of_ble_eq_true rfl) dX8_init_45 (fun H locs h20 oq hS => ?_)
  replace h20 : g_at G (g_stA G i) (.inr (8, [.ref (g_stA G i + 1), .ref (g_stA G i + 2), .ref (g_stA G i + 4), .ref (g_stA G i + 6), .int 0, .int 0, .int 0, .int 0, .int 0, .int 0, .int 0])) H := h20
  replace hz := (g_size h16 h20 oq).trans hz
  replace hp2 := g_at.kept hp2 (oq _ (g_ne (x := g_stA G i) (a := 1) (b := 0) rfl))
  replace h8 := g_at.kept h8 (oq _ (g_ne (x := g_stA G i) (a := 2) (b := 0) rfl))
  replace h9 := g_at.kept h9 (oq _ (g_ne (x := g_stA G i) (a := 3) (b := 0) rfl))
  replace h14 := g_at.kept h14 (oq _ (g_ne (x := g_stA G i) (a := 4) (b := 0) rfl))
  replace h15 := g_at.kept h15 (oq _ (g_ne (x := g_stA G i) (a := 5) (b := 0) rfl))
  replace hp18 := g_at.kept hp18 (oq _ (g_ne (x := g_stA G i) (a := 6) (b := 0) rfl))
  replace hq := fun (q : Nat) (h1 : q < g_stA G i + 1) (h2 : q ≠ g_stA G i) => (oq q h2).trans (hq q h1 h2)
  clear h16 oq
  refine lv_aload_n hx hb dX8_init_48 rfl (lv_at hl 0 rfl) ?_
  refine lv_iconst (v := 0) hx hb dX8_init_49 (by decide) ?_
  refine g_put hx hb hts in_8 tyX8_ok nmX8 hown hK.1 hS h20 (by omega) rfl 4 (by decide) l_39 rfl rfl rfl rfl (Nat.le_of_ble_eq_true rfl) dX8_init_50 (fun H locs h21 oq hS => ?_)
  replace h21 : g_at G (g_stA G i) (.inr (8, [.ref (g_stA G i + 1), .ref (g_stA G i + 2), .ref (g_stA G i + 4), .ref (g_stA G i + 6), .int (0 : Int32), .int 0, .int 0, .int 0, .int 0, .int 0, .int 0])) H := h21
  replace hz := (g_size h20 h21 oq).trans hz
  replace hp2 := g_at.kept hp2 (oq _ (g_ne (x := g_stA G i) (a := 1) (b := 0) rfl))
  replace h8 := g_at.kept h8 (oq _ (g_ne (x := g_stA G i) (a := 2) (b := 0) rfl))
  replace h9 := g_at.kept h9 (oq _ (g_ne (x := g_stA G i) (a := 3) (b := 0) rfl))
  replace h14 := g_at.kept h14 (oq _ (g_ne (x := g_stA G i) (a := 4) (b := 0) rfl))
  replace h15 := g_at.kept h15 (oq _ (g_ne (x := g_stA G i) (a := 5) (b := 0) rfl))
  replace hp18 := g_at.kept hp18 (oq _ (g_ne (x := g_stA G i) (a := 6) (b := 0) rfl))
  replace hq := fun (q : Nat) (h1 : q < g_stA G i + 1) (h2 : q ≠ g_stA G i) => (oq q h2).trans (hq q h1 h2)
  clear h20 oq
  refine lv_aload_n hx hb dX8_init_53 rfl (lv_at hl 0 rfl) ?_
  refine lv_iconst (v := 0) hx hb dX8_init_54 (by decide) ?_
  refine g_put hx hb hts in_8 tyX8_ok nmX8 hown hK.1 hS h21 (by omega) rfl 5 (by decide) l_43 rfl rfl rfl rfl (Nat.le_of_ble_eq_true rfl) dX8_init_55 (fun H locs h22 oq hS => ?_)
  replace h22 : g_at G (g_stA G i) (.inr (8, [.ref (g_stA G i + 1), .ref (g_stA G i + 2), .ref (g_stA G i + 4), .ref (g_stA G i + 6), .int (0 : Int32), .int (0 : Int32), .int 0, .int 0, .int 0, .int 0, .int 0])) H := h22
  replace hz := (g_size h21 h22 oq).trans hz
  replace hp2 := g_at.kept hp2 (oq _ (g_ne (x := g_stA G i) (a := 1) (b := 0) rfl))
  replace h8 := g_at.kept h8 (oq _ (g_ne (x := g_stA G i) (a := 2) (b := 0) rfl))
  replace h9 := g_at.kept h9 (oq _ (g_ne (x := g_stA G i) (a := 3) (b := 0) rfl))
  replace h14 := g_at.kept h14 (oq _ (g_ne (x := g_stA G i) (a := 4) (b := 0) rfl))
  replace h15 := g_at.kept h15 (oq _ (g_ne (x := g_stA G i) (a := 5) (b := 0) rfl))
  replace hp18 := g_at.kept hp18 (oq _ (g_ne (x := g_stA G i) (a := 6) (b := 0) rfl))
  replace hq := fun (q : Nat) (h1 : q < g_stA G i + 1) (h2 : q ≠ g_stA G i) => (oq q h2).trans (hq q h1 h2)
  clear h21 oq
  refine lv_aload_n hx hb dX8_init_58 rfl (lv_at hl 0 rfl) ?_
  refine lv_iconst (v := 0) hx hb dX8_init_59 (by decide) ?_
  refine g_put hx hb hts in_8 tyX8_ok nmX8 hown hK.1 hS h22 (by omega) rfl 6 (by decide) l_46 rfl rfl rfl rfl (Nat.le_of_ble_eq_true rfl) dX8_init_60 (fun H locs h23 oq hS => ?_)
  replace h23 : g_at G (g_stA G i) (.inr (8, [.ref (g_stA G i + 1), .ref (g_stA G i + 2), .ref (g_stA G i + 4), .ref (g_stA G i + 6), .int (0 : Int32), .int (0 : Int32), .int (0 : Int32), .int 0, .int 0, .int 0, .int 0])) H := h23
  replace hz := (g_size h22 h23 oq).trans hz
  replace hp2 := g_at.kept hp2 (oq _ (g_ne (x := g_stA G i) (a := 1) (b := 0) rfl))
  replace h8 := g_at.kept h8 (oq _ (g_ne (x := g_stA G i) (a := 2) (b := 0) rfl))
  replace h9 := g_at.kept h9 (oq _ (g_ne (x := g_stA G i) (a := 3) (b := 0) rfl))
  replace h14 := g_at.kept h14 (oq _ (g_ne (x := g_stA G i) (a := 4) (b := 0) rfl))
  replace h15 := g_at.kept h15 (oq _ (g_ne (x := g_stA G i) (a := 5) (b := 0) rfl))
  replace hp18 := g_at.kept hp18 (oq _ (g_ne (x := g_stA G i) (a := 6) (b := 0) rfl))
  replace hq := fun (q : Nat) (h1 : q < g_stA G i + 1) (h2 : q ≠ g_stA G i) => (oq q h2).trans (hq q h1 h2)
  clear h22 oq
  refine lv_aload_n hx hb dX8_init_63 rfl (lv_at hl 0 rfl) ?_
  refine lv_iconst (v := 0) hx hb dX8_init_64 (by decide) ?_
  refine g_put hx hb hts in_8 tyX8_ok nmX8 hown hK.1 hS h23 (by omega) rfl 7 (by decide) l_49 rfl rfl rfl rfl (Nat.le_of_ble_eq_true rfl) dX8_init_65 (fun H locs h24 oq hS => ?_)
  replace h24 : g_at G (g_stA G i) (.inr (8, [.ref (g_stA G i + 1), .ref (g_stA G i + 2), .ref (g_stA G i + 4), .ref (g_stA G i + 6), .int (0 : Int32), .int (0 : Int32), .int (0 : Int32), .int (0 : Int32), .int 0, .int 0, .int 0])) H := h24
  replace hz := (g_size h23 h24 oq).trans hz
  replace hp2 := g_at.kept hp2 (oq _ (g_ne (x := g_stA G i) (a := 1) (b := 0) rfl))
  replace h8 := g_at.kept h8 (oq _ (g_ne (x := g_stA G i) (a := 2) (b := 0) rfl))
  replace h9 := g_at.kept h9 (oq _ (g_ne (x := g_stA G i) (a := 3) (b := 0) rfl))
  replace h14 := g_at.kept h14 (oq _ (g_ne (x := g_stA G i) (a := 4) (b := 0) rfl))
  replace h15 := g_at.kept h15 (oq _ (g_ne (x := g_stA G i) (a := 5) (b := 0) rfl))
  replace hp18 := g_at.kept hp18 (oq _ (g_ne (x := g_stA G i) (a := 6) (b := 0) rfl))
  replace hq := fun (q : Nat) (h1 : q < g_stA G i + 1) (h2 : q ≠ g_stA G i) => (oq q h2).trans (hq q h1 h2)
  clear h23 oq
  refine lv_aload_n hx hb dX8_init_68 rfl (lv_at hl 0 rfl) ?_
  refine lv_iconst (v := 0) hx hb dX8_init_69 (by decide) ?_
  refine g_put hx hb hts in_8 tyX8_ok nmX8 hown hK.1 hS h24 (by omega) rfl 8 (by decide) l_52 rfl rfl rfl rfl (Nat.le_of_ble_eq_true rfl) dX8_init_70 (fun H locs h25 oq hS => ?_)
  replace h25 : g_at G (g_stA G i) (.inr (8, [.ref (g_stA G i + 1), .ref (g_stA G i + 2), .ref (g_stA G i + 4), .ref (g_stA G i + 6), .int (0 : Int32), .int (0 : Int32), .int (0 : Int32), .int (0 : Int32), .int (0 : Int32), .int 0, .int 0])) H := h25
  replace hz := (g_size h24 h25 oq).trans hz
  replace hp2 := g_at.kept hp2 (oq _ (g_ne (x := g_stA G i) (a := 1) (b := 0) rfl))
  replace h8 := g_at.kept h8 (oq _ (g_ne (x := g_stA G i) (a := 2) (b := 0) rfl))
  replace h9 := g_at.kept h9 (oq _ (g_ne (x := g_stA G i) (a := 3) (b := 0) rfl))
  replace h14 := g_at.kept h14 (oq _ (g_ne (x := g_stA G i) (a := 4) (b := 0) rfl))
  replace h15 := g_at.kept h15 (oq _ (g_ne (x := g_stA G i) (a := 5) (b := 0) rfl))
  replace hp18 := g_at.kept hp18 (oq _ (g_ne (x := g_stA G i) (a := 6) (b := 0) rfl))
  replace hq := fun (q : Nat) (h1 : q < g_stA G i + 1) (h2 : q ≠ g_stA G i) => (oq q h2).trans (hq q h1 h2)
  clear h24 oq
  refine lv_aload_n hx hb dX8_init_73 rfl (lv_at hl 0 rfl) ?_
  refine lv_iconst (v := 0) hx hb dX8_init_74 (by decide) ?_
  refine g_put hx hb hts in_8 tyX8_ok nmX8 hown hK.1 hS h25 (by omega) rfl 9 (by decide) l_55 rfl rfl rfl rfl (Nat.le_of_ble_eq_true rfl) dX8_init_75 (fun H locs h26 oq hS => ?_)
  replace h26 : g_at G (g_stA G i) (.inr (8, [.ref (g_stA G i + 1), .ref (g_stA G i + 2), .ref (g_stA G i + 4), .ref (g_stA G i + 6), .int (0 : Int32), .int (0 : Int32), .int (0 : Int32), .int (0 : Int32), .int (0 : Int32), .int (0 : Int32), .int 0])) H := h26
  replace hz := (g_size h25 h26 oq).trans hz
  replace hp2 := g_at.kept hp2 (oq _ (g_ne (x := g_stA G i) (a := 1) (b := 0) rfl))
  replace h8 := g_at.kept h8 (oq _ (g_ne (x := g_stA G i) (a := 2) (b := 0) rfl))
  replace h9 := g_at.kept h9 (oq _ (g_ne (x := g_stA G i) (a := 3) (b := 0) rfl))
  replace h14 := g_at.kept h14 (oq _ (g_ne (x := g_stA G i) (a := 4) (b := 0) rfl))
  replace h15 := g_at.kept h15 (oq _ (g_ne (x := g_stA G i) (a := 5) (b := 0) rfl))
  replace hp18 := g_at.kept hp18 (oq _ (g_ne (x := g_stA G i) (a := 6) (b := 0) rfl))
  replace hq := fun (q : Nat) (h1 : q < g_stA G i + 1) (h2 : q ≠ g_stA G i) => (oq q h2).trans (hq q h1 h2)
  clear h25 oq
  refine lv_aload_n hx hb dX8_init_78 rfl (lv_at hl 0 rfl) ?_
  refine lv_iconst (v := 0) hx hb dX8_init_79 (by decide) ?_
  refine g_put hx hb hts in_8 tyX8_ok nmX8 hown hK.1 hS h26 (by omega) rfl 10 (by decide) l_58 rfl rfl rfl rfl (Nat.le_of_ble_eq_true rfl) dX8_init_80 (fun H locs h27 oq hS => ?_)
  replace h27 : g_at G (g_stA G i) (.inr (8, [.ref (g_stA G i + 1), .ref (g_stA G i + 2), .ref (g_stA G i + 4), .ref (g_stA G i + 6), .int (0 : Int32), .int (0 : Int32), .int (0 : Int32), .int (0 : Int32), .int (0 : Int32), .int (0 : Int32), .int (0 : Int32)])) H := h27
  replace hz := (g_size h26 h27 oq).trans hz
  replace hp2 := g_at.kept hp2 (oq _ (g_ne (x := g_stA G i) (a := 1) (b := 0) rfl))
  replace h8 := g_at.kept h8 (oq _ (g_ne (x := g_stA G i) (a := 2) (b := 0) rfl))
  replace h9 := g_at.kept h9 (oq _ (g_ne (x := g_stA G i) (a := 3) (b := 0) rfl))
  replace h14 := g_at.kept h14 (oq _ (g_ne (x := g_stA G i) (a := 4) (b := 0) rfl))
  replace h15 := g_at.kept h15 (oq _ (g_ne (x := g_stA G i) (a := 5) (b := 0) rfl))
  replace hp18 := g_at.kept hp18 (oq _ (g_ne (x := g_stA G i) (a := 6) (b := 0) rfl))
  replace hq := fun (q : Nat) (h1 : q < g_stA G i + 1) (h2 : q ≠ g_stA G i) => (oq q h2).trans (hq q h1 h2)
  clear h26 oq
  exact g_vretC hx hb hlocks hr hS ⟨h27, hp2, h8, ⟨_, fun _ _ => rfl, h9⟩, h14, ⟨_, fun _ _ => rfl, h15⟩, hp18⟩ hz hq (by omega) (by omega) dX8_init_83
set_option maxHeartbeats 4000000 in
set_option maxRecDepth 100000 in
theorem c2_init (l : Launch) (G : gG)  : Met l yX2_init wsX2_init ({ frames := 3, cells := 29, slots := 300, locals := 56 } : Room) (g_PreC G (G.2.2 + 22) (.inr (2, [.null, .int 0])) (G.2.2 + 23)) (g_QC (G.2.2 + 22) (G.2.2 + 23) (G.2.2 + 52) (fun H => g_Hp G g_h0 H ∧ g_S G g_E0 3 g_s0 H ∧ g_S G g_E0 4 g_s0 H ∧ g_S G g_E0 5 g_s0 H ∧ g_S G g_E0 6 g_s0 H)) 29 300 (g_A G) := by
  refine Met.ofW (cc := cX2_init) (maxL := 2) (ret := none) (by decide) rfl ?_
  intro p e s m args below meth c s₁ B hml hv
  obtain ⟨rfl, hz, h0, hK⟩ := hv
  have hx := B.exec
  have hb := B.bytes
  have hr := B.returns
  have hts := atoms_spec (ws := wsX2_init) B.pre
  have hown : s.vm.findClass RX2 = some m.cls := findClass_of_methodNamed B.named
  have hlocks := B.notSynchronized
  have hin : meth.name = "<init>" := (name_of_methodNamed B.named B.method).1
  have hS : va_S (g_A G) s.heap s.heap [] := va_S.rf
  have hq : ∀ q : Nat, q < G.2.2 + 23 → q ≠ G.2.2 + 22 → s.heap[q]? = s.heap[q]? := fun _ _ _ => rfl
  have hl := lv_entry ([.ref (G.2.2 + 22)]) (n := 2) (Nat.le_of_ble_eq_true rfl)
  rw [lg_entry_eq]
  generalize (lg_sl ([.ref (G.2.2 + 22)]) ++ List.replicate (2 - (lg_sl ([.ref (G.2.2 + 22)])).length) Slot.unset).toArray = ls at hl ⊢
  have hl : lv_has ls 2 [(0, .ref (G.2.2 + 22))] := hl
  have st0 : g_stA G 0 = G.2.2 + 1 := rfl
  have st1 : g_stA G 1 = G.2.2 + 8 := rfl
  have st2 : g_stA G 2 = G.2.2 + 15 := rfl
  have st3 : g_stA G 3 = G.2.2 + 24 := rfl
  have st4 : g_stA G 4 = G.2.2 + 31 := rfl
  have st5 : g_stA G 5 = G.2.2 + 38 := rfl
  have st6 : g_stA G 6 = G.2.2 + 45 := rfl
  have o_3 := hts (.methodLink RX2 3 objectInit) (by decide +kernel)
  have o2_3 := hts (.instanceMethod objectInit) (by decide +kernel)
  have o3_3 := hts (.code objectInit ⟨#[0xb1]⟩ 1 none) (by decide +kernel)
  have n_9 := hts (.classLink RX2 9 RX8) (by decide +kernel)
  have in_2 : ∀ w ∈ u_ws RX2 TX2 2, w ∈ wsX2_init := ifX2_init_2
  have l_11 := hts (.fieldLink RX2 11 "GlassRacks$History" "states" "[LGlassRacks$State;") (by decide +kernel)
  have l_17 := hts (.fieldLink RX2 17 "GlassRacks$History" "recorded" "I") (by decide +kernel)
  have in_8 : ∀ w ∈ u_ws RX8 TX8 11, w ∈ wsX2_init := ifX2_init_8
  have n2_9 := hts (.instantiable RX8 11) (by decide +kernel)
  have n3_9 := hts (.initialized RX8) (by decide +kernel)
  have i1_21 := hts (.initialized RX8) (by decide +kernel)
  have i3_21 := hts (.instanceMethod yX8_init) (by decide +kernel)
  have i2_21 := hK.1.2 (RX2, 21, yX8_init) (by decide +kernel)
  refine lv_aload_n hx hb dX2_init_0 rfl (lv_at hl 0 rfl) ?_
  refine W.objInit hx hb hown o_3 o2_3 o3_3 rfl (by rw [hml]; exact hl.1) rfl dX2_init_1 (Nat.le_of_ble_eq_true rfl) (Nat.le_of_ble_eq_true rfl) ?_
  refine W.eq (g2 := F0 m 4 ls []) rfl ?_
  refine lv_aload_n hx hb dX2_init_4 rfl (lv_at hl 0 rfl) ?_
  refine lv_iconst (v := 4) hx hb dX2_init_5 (by decide) ?_
  refine g_newq (n := G.2.2 + 23) (t0 := 4) hx hb hown n_9 hK.2.2.2 hK rfl hz hS (by decide) (N := 4) (by decide) (by decide) (by show _ ≤ 29; omega) (by show _ ≤ 300; omega) dX2_init_6 (fun H h1 hz oq hS => ?_)
  replace h0 := g_at.kept h0 (oq _ (g_lt (x := G.2.2) (a := 22) (b := 23) rfl))
  replace hq := fun (q : Nat) (h1 : q < G.2.2 + 23) (h2 : q ≠ G.2.2 + 22) => (oq q (g_hl (x := G.2.2) (n := 23) (b := 23) h1 rfl)).trans (hq q h1 h2)
  clear oq
  replace hz : H.size = G.2.2 + 24 := hz
  refine g_putF hx hb hts in_2 tyX2_ok nmX2 hown hK.1 hS h0 (by omega) rfl 0 (by decide) l_11 rfl rfl hin rfl rfl rfl (Nat.le_of_ble_eq_true rfl) dX2_init_9 (fun H locs h2 oq hS => ?_)
  replace h2 : g_at G (G.2.2 + 22) (.inr (2, [.ref (G.2.2 + 23), .int 0])) H := h2
  replace hz := (g_size h0 h2 oq).trans hz
  replace h1 := g_at.kept h1 (oq _ (g_ne (x := G.2.2) (a := 23) (b := 22) rfl))
  replace hq := fun (q : Nat) (h1 : q < G.2.2 + 23) (h2 : q ≠ G.2.2 + 22) => (oq q h2).trans (hq q h1 h2)
  clear h0 oq
  refine lv_aload_n hx hb dX2_init_12 rfl (lv_at hl 0 rfl) ?_
  refine lv_iconst (v := 0) hx hb dX2_init_13 (by decide) ?_
  refine g_put hx hb hts in_2 tyX2_ok nmX2 hown hK.1 hS h2 (by omega) rfl 1 (by decide) l_17 rfl rfl rfl rfl (Nat.le_of_ble_eq_true rfl) dX2_init_14 (fun H locs h3 oq hS => ?_)
  replace h3 : g_at G (G.2.2 + 22) (.inr (2, [.ref (G.2.2 + 23), .int (0 : Int32)])) H := h3
  replace hz := (g_size h2 h3 oq).trans hz
  replace h1 := g_at.kept h1 (oq _ (g_ne (x := G.2.2) (a := 23) (b := 22) rfl))
  replace hq := fun (q : Nat) (h1 : q < G.2.2 + 23) (h2 : q ≠ G.2.2 + 22) => (oq q h2).trans (hq q h1 h2)
  clear h2 oq
  refine lv_iconst (v := 0) hx hb dX2_init_17 (by decide) ?_
  refine lv_istore_n (lv' := [(1, .int (0 : Int32)), (0, .ref (G.2.2 + 22))]) hx hb dX2_init_18 rfl hl (by decide) rfl (fun ls hl => ?_)
  refine lv_iload_n hx hb dX2_init_19 rfl (lv_at hl 0 rfl) ?_
  refine lv_aload_n hx hb dX2_init_20 rfl (lv_at hl 1 rfl) ?_
  refine g_get hx hb hts in_2 hown hK.1 h3 rfl 0 (by decide) l_11 rfl rfl dX2_init_21 ?_
  refine g_ilen hx hb hK.1 h1 rfl (v := 4) rfl dX2_init_24 ?_
  refine lv_icmp_ge (tgt := 47) hx hb dX2_init_25 (by decide) (fun cc => absurd cc (by decide)) (fun _ => ?_)
  refine lv_aload_n hx hb dX2_init_28 rfl (lv_at hl 1 rfl) ?_
  refine g_get hx hb hts in_2 hown hK.1 h3 rfl 0 (by decide) l_11 rfl rfl dX2_init_29 ?_
  refine lv_iload_n hx hb dX2_init_32 rfl (lv_at hl 0 rfl) ?_
  refine g_newC (n := G.2.2 + 24) (ci := 8) (fs := [.null, .null, .null, .null, .int 0, .int 0, .int 0, .int 0, .int 0, .int 0, .int 0]) hx hb hts in_8 tyX8_ok hown n_9 n2_9 n3_9 hK hz hS rfl (fun j hj => by rcases (show j = 0 ∨ j = 1 ∨ j = 2 ∨ j = 3 ∨ j = 4 ∨ j = 5 ∨ j = 6 ∨ j = 7 ∨ j = 8 ∨ j = 9 ∨ j = 10 by omega) with rfl | rfl | rfl | rfl | rfl | rfl | rfl | rfl | rfl | rfl | rfl <;> rfl) (by show _ ≤ 29; omega) (by show _ ≤ 300; omega) dX2_init_33 (fun H h4 hz oq hS => ?_)
  replace h3 := g_at.kept h3 (oq _ (g_lt (x := G.2.2) (a := 22) (b := 24) rfl))
  replace h1 := g_at.kept h1 (oq _ (g_lt (x := G.2.2) (a := 23) (b := 24) rfl))
  replace hq := fun (q : Nat) (h1 : q < G.2.2 + 23) (h2 : q ≠ G.2.2 + 22) => (oq q (g_hl (x := G.2.2) (n := 23) (b := 24) h1 rfl)).trans (hq q h1 h2)
  clear oq
  replace hz : H.size = G.2.2 + 25 := hz
  refine lv_dup hx hb dX2_init_36 rfl ?_
  refine g_callC (va_runIN (host := "GlassRacks") (As := []) (rest := [.ref (G.2.2 + 24), .int (0 : Int32), .ref (G.2.2 + 23)]) ⟨hx, hb, hml, hown, hts⟩ (c8_init l G 3 (by decide)) ⟨va_cnB 0 hts gX2_init_X8_init_n21 rfl rfl rfl i2_21 i1_21 (by decide +kernel) ⟨Nat.le_of_ble_eq_true rfl, Nat.le_of_ble_eq_true rfl⟩, rfl, i3_21⟩ (g_preC hz h4 hK) rfl rfl hl.1 rfl (lv_room (Nat.le_of_ble_eq_true rfl)) dX2_init_37 ⟨by show _ ≤ 29; omega, by show _ ≤ 300; omega⟩) hz (by omega) (by omega) (by omega) hS (fun w6 H locs hv hp5 hz oq hS => ?_)
  subst hv
  clear h4
  replace h3 := g_at.kept h3 (oq _ (g_lt (x := G.2.2) (a := 22) (b := 25) rfl) (g_ne (x := G.2.2) (a := 22) (b := 24) rfl))
  replace h1 := g_at.kept h1 (oq _ (g_lt (x := G.2.2) (a := 23) (b := 25) rfl) (g_ne (x := G.2.2) (a := 23) (b := 24) rfl))
  replace hq := fun (q : Nat) (h1 : q < G.2.2 + 23) (h2 : q ≠ G.2.2 + 22) => (oq q (g_hl (x := G.2.2) (n := 23) (b := 25) h1 rfl) (g_hn (x := G.2.2) (n := 23) (b := 24) h1 rfl)).trans (hq q h1 h2)
  clear oq
  replace hz : H.size = G.2.2 + 31 := hz
  refine g_aast (ci := 8) hx hb hK.1 hS h1 (by omega) rfl hp5.1 rfl (by decide) dX2_init_40 (fun H locs h7 oq hS => ?_)
  replace h7 : g_at G (G.2.2 + 23) (g_aq (G.2.1 4) 4 (va_up (fun _ => none) 0 (some (G.2.2 + 24)))) H := h7
  replace hz := (g_size h1 h7 oq).trans hz
  replace h3 := g_at.kept h3 (oq _ (g_ne (x := G.2.2) (a := 22) (b := 23) rfl))
  replace hp5 := hp5.kept (fun q h1 h2 => oq q (g_n7 (x := G.2.2) (b := 23) st3 h1 h2 rfl))
  replace hq := fun (q : Nat) (h1 : q < G.2.2 + 23) (h2 : q ≠ G.2.2 + 22) => (oq q (g_hn (x := G.2.2) (n := 23) (b := 23) h1 rfl)).trans (hq q h1 h2)
  clear h1 oq
  refine lv_iinc (v := 1) (lv' := [(1, .int (1 : Int32)), (0, .ref (G.2.2 + 22))]) hx hb dX2_init_41 hl (k := 0) rfl (by decide) (by decide) rfl (fun ls hl => ?_)
  refine lv_goto (tgt := 19) hx hb dX2_init_44 (by decide) ?_
  refine lv_iload_n hx hb dX2_init_19 rfl (lv_at hl 0 rfl) ?_
  refine lv_aload_n hx hb dX2_init_20 rfl (lv_at hl 1 rfl) ?_
  refine g_get hx hb hts in_2 hown hK.1 h3 rfl 0 (by decide) l_11 rfl rfl dX2_init_21 ?_
  refine g_ilen hx hb hK.1 h7 rfl (v := 4) rfl dX2_init_24 ?_
  refine lv_icmp_ge (tgt := 47) hx hb dX2_init_25 (by decide) (fun cc => absurd cc (by decide)) (fun _ => ?_)
  refine lv_aload_n hx hb dX2_init_28 rfl (lv_at hl 1 rfl) ?_
  refine g_get hx hb hts in_2 hown hK.1 h3 rfl 0 (by decide) l_11 rfl rfl dX2_init_29 ?_
  refine lv_iload_n hx hb dX2_init_32 rfl (lv_at hl 0 rfl) ?_
  refine g_newC (n := G.2.2 + 31) (ci := 8) (fs := [.null, .null, .null, .null, .int 0, .int 0, .int 0, .int 0, .int 0, .int 0, .int 0]) hx hb hts in_8 tyX8_ok hown n_9 n2_9 n3_9 hK hz hS rfl (fun j hj => by rcases (show j = 0 ∨ j = 1 ∨ j = 2 ∨ j = 3 ∨ j = 4 ∨ j = 5 ∨ j = 6 ∨ j = 7 ∨ j = 8 ∨ j = 9 ∨ j = 10 by omega) with rfl | rfl | rfl | rfl | rfl | rfl | rfl | rfl | rfl | rfl | rfl <;> rfl) (by show _ ≤ 29; omega) (by show _ ≤ 300; omega) dX2_init_33 (fun H h8 hz oq hS => ?_)
  replace h3 := g_at.kept h3 (oq _ (g_lt (x := G.2.2) (a := 22) (b := 31) rfl))
  replace h7 := g_at.kept h7 (oq _ (g_lt (x := G.2.2) (a := 23) (b := 31) rfl))
  replace hp5 := hp5.kept (fun q h1 h2 => oq q (g_l7 (x := G.2.2) (n := 31) st3 h2 rfl))
  replace hq := fun (q : Nat) (h1 : q < G.2.2 + 23) (h2 : q ≠ G.2.2 + 22) => (oq q (g_hl (x := G.2.2) (n := 23) (b := 31) h1 rfl)).trans (hq q h1 h2)
  clear oq
  replace hz : H.size = G.2.2 + 32 := hz
  refine lv_dup hx hb dX2_init_36 rfl ?_
  refine g_callC (va_runIN (host := "GlassRacks") (As := []) (rest := [.ref (G.2.2 + 31), .int (1 : Int32), .ref (G.2.2 + 23)]) ⟨hx, hb, hml, hown, hts⟩ (c8_init l G 4 (by decide)) ⟨va_cnB 0 hts gX2_init_X8_init_n21 rfl rfl rfl i2_21 i1_21 (by decide +kernel) ⟨Nat.le_of_ble_eq_true rfl, Nat.le_of_ble_eq_true rfl⟩, rfl, i3_21⟩ (g_preC hz h8 hK) rfl rfl hl.1 rfl (lv_room (Nat.le_of_ble_eq_true rfl)) dX2_init_37 ⟨by show _ ≤ 29; omega, by show _ ≤ 300; omega⟩) hz (by omega) (by omega) (by omega) hS (fun w10 H locs hv hp9 hz oq hS => ?_)
  subst hv
  clear h8
  replace h3 := g_at.kept h3 (oq _ (g_lt (x := G.2.2) (a := 22) (b := 32) rfl) (g_ne (x := G.2.2) (a := 22) (b := 31) rfl))
  replace h7 := g_at.kept h7 (oq _ (g_lt (x := G.2.2) (a := 23) (b := 32) rfl) (g_ne (x := G.2.2) (a := 23) (b := 31) rfl))
  replace hp5 := hp5.kept (fun q h1 h2 => oq q (g_l7 (x := G.2.2) (n := 32) st3 h2 rfl) (g_n7 (x := G.2.2) (b := 31) st3 h1 h2 rfl))
  replace hq := fun (q : Nat) (h1 : q < G.2.2 + 23) (h2 : q ≠ G.2.2 + 22) => (oq q (g_hl (x := G.2.2) (n := 23) (b := 32) h1 rfl) (g_hn (x := G.2.2) (n := 23) (b := 31) h1 rfl)).trans (hq q h1 h2)
  clear oq
  replace hz : H.size = G.2.2 + 38 := hz
  refine g_aast (ci := 8) hx hb hK.1 hS h7 (by omega) rfl hp9.1 rfl (by decide) dX2_init_40 (fun H locs h11 oq hS => ?_)
  replace h11 : g_at G (G.2.2 + 23) (g_aq (G.2.1 4) 4 (va_up (va_up (fun _ => none) 0 (some (G.2.2 + 24))) 1 (some (G.2.2 + 31)))) H := h11
  replace hz := (g_size h7 h11 oq).trans hz
  replace h3 := g_at.kept h3 (oq _ (g_ne (x := G.2.2) (a := 22) (b := 23) rfl))
  replace hp5 := hp5.kept (fun q h1 h2 => oq q (g_n7 (x := G.2.2) (b := 23) st3 h1 h2 rfl))
  replace hp9 := hp9.kept (fun q h1 h2 => oq q (g_n7 (x := G.2.2) (b := 23) st4 h1 h2 rfl))
  replace hq := fun (q : Nat) (h1 : q < G.2.2 + 23) (h2 : q ≠ G.2.2 + 22) => (oq q (g_hn (x := G.2.2) (n := 23) (b := 23) h1 rfl)).trans (hq q h1 h2)
  clear h7 oq
  refine lv_iinc (v := 2) (lv' := [(1, .int (2 : Int32)), (0, .ref (G.2.2 + 22))]) hx hb dX2_init_41 hl (k := 0) rfl (by decide) (by decide) rfl (fun ls hl => ?_)
  refine lv_goto (tgt := 19) hx hb dX2_init_44 (by decide) ?_
  refine lv_iload_n hx hb dX2_init_19 rfl (lv_at hl 0 rfl) ?_
  refine lv_aload_n hx hb dX2_init_20 rfl (lv_at hl 1 rfl) ?_
  refine g_get hx hb hts in_2 hown hK.1 h3 rfl 0 (by decide) l_11 rfl rfl dX2_init_21 ?_
  refine g_ilen hx hb hK.1 h11 rfl (v := 4) rfl dX2_init_24 ?_
  refine lv_icmp_ge (tgt := 47) hx hb dX2_init_25 (by decide) (fun cc => absurd cc (by decide)) (fun _ => ?_)
  refine lv_aload_n hx hb dX2_init_28 rfl (lv_at hl 1 rfl) ?_
  refine g_get hx hb hts in_2 hown hK.1 h3 rfl 0 (by decide) l_11 rfl rfl dX2_init_29 ?_
  refine lv_iload_n hx hb dX2_init_32 rfl (lv_at hl 0 rfl) ?_
  refine g_newC (n := G.2.2 + 38) (ci := 8) (fs := [.null, .null, .null, .null, .int 0, .int 0, .int 0, .int 0, .int 0, .int 0, .int 0]) hx hb hts in_8 tyX8_ok hown n_9 n2_9 n3_9 hK hz hS rfl (fun j hj => by rcases (show j = 0 ∨ j = 1 ∨ j = 2 ∨ j = 3 ∨ j = 4 ∨ j = 5 ∨ j = 6 ∨ j = 7 ∨ j = 8 ∨ j = 9 ∨ j = 10 by omega) with rfl | rfl | rfl | rfl | rfl | rfl | rfl | rfl | rfl | rfl | rfl <;> rfl) (by show _ ≤ 29; omega) (by show _ ≤ 300; omega) dX2_init_33 (fun H h12 hz oq hS => ?_)
  replace h3 := g_at.kept h3 (oq _ (g_lt (x := G.2.2) (a := 22) (b := 38) rfl))
  replace h11 := g_at.kept h11 (oq _ (g_lt (x := G.2.2) (a := 23) (b := 38) rfl))
  replace hp5 := hp5.kept (fun q h1 h2 => oq q (g_l7 (x := G.2.2) (n := 38) st3 h2 rfl))
  replace hp9 := hp9.kept (fun q h1 h2 => oq q (g_l7 (x := G.2.2) (n := 38) st4 h2 rfl))
  replace hq := fun (q : Nat) (h1 : q < G.2.2 + 23) (h2 : q ≠ G.2.2 + 22) => (oq q (g_hl (x := G.2.2) (n := 23) (b := 38) h1 rfl)).trans (hq q h1 h2)
  clear oq
  replace hz : H.size = G.2.2 + 39 := hz
  refine lv_dup hx hb dX2_init_36 rfl ?_
  refine g_callC (va_runIN (host := "GlassRacks") (As := []) (rest := [.ref (G.2.2 + 38), .int (2 : Int32), .ref (G.2.2 + 23)]) ⟨hx, hb, hml, hown, hts⟩ (c8_init l G 5 (by decide)) ⟨va_cnB 0 hts gX2_init_X8_init_n21 rfl rfl rfl i2_21 i1_21 (by decide +kernel) ⟨Nat.le_of_ble_eq_true rfl, Nat.le_of_ble_eq_true rfl⟩, rfl, i3_21⟩ (g_preC hz h12 hK) rfl rfl hl.1 rfl (lv_room (Nat.le_of_ble_eq_true rfl)) dX2_init_37 ⟨by show _ ≤ 29; omega, by show _ ≤ 300; omega⟩) hz (by omega) (by omega) (by omega) hS (fun w14 H locs hv hp13 hz oq hS => ?_)
  subst hv
  clear h12
  replace h3 := g_at.kept h3 (oq _ (g_lt (x := G.2.2) (a := 22) (b := 39) rfl) (g_ne (x := G.2.2) (a := 22) (b := 38) rfl))
  replace h11 := g_at.kept h11 (oq _ (g_lt (x := G.2.2) (a := 23) (b := 39) rfl) (g_ne (x := G.2.2) (a := 23) (b := 38) rfl))
  replace hp5 := hp5.kept (fun q h1 h2 => oq q (g_l7 (x := G.2.2) (n := 39) st3 h2 rfl) (g_n7 (x := G.2.2) (b := 38) st3 h1 h2 rfl))
  replace hp9 := hp9.kept (fun q h1 h2 => oq q (g_l7 (x := G.2.2) (n := 39) st4 h2 rfl) (g_n7 (x := G.2.2) (b := 38) st4 h1 h2 rfl))
  replace hq := fun (q : Nat) (h1 : q < G.2.2 + 23) (h2 : q ≠ G.2.2 + 22) => (oq q (g_hl (x := G.2.2) (n := 23) (b := 39) h1 rfl) (g_hn (x := G.2.2) (n := 23) (b := 38) h1 rfl)).trans (hq q h1 h2)
  clear oq
  replace hz : H.size = G.2.2 + 45 := hz
  refine g_aast (ci := 8) hx hb hK.1 hS h11 (by omega) rfl hp13.1 rfl (by decide) dX2_init_40 (fun H locs h15 oq hS => ?_)
  replace h15 : g_at G (G.2.2 + 23) (g_aq (G.2.1 4) 4 (va_up (va_up (va_up (fun _ => none) 0 (some (G.2.2 + 24))) 1 (some (G.2.2 + 31))) 2 (some (G.2.2 + 38)))) H := h15
  replace hz := (g_size h11 h15 oq).trans hz
  replace h3 := g_at.kept h3 (oq _ (g_ne (x := G.2.2) (a := 22) (b := 23) rfl))
  replace hp5 := hp5.kept (fun q h1 h2 => oq q (g_n7 (x := G.2.2) (b := 23) st3 h1 h2 rfl))
  replace hp9 := hp9.kept (fun q h1 h2 => oq q (g_n7 (x := G.2.2) (b := 23) st4 h1 h2 rfl))
  replace hp13 := hp13.kept (fun q h1 h2 => oq q (g_n7 (x := G.2.2) (b := 23) st5 h1 h2 rfl))
  replace hq := fun (q : Nat) (h1 : q < G.2.2 + 23) (h2 : q ≠ G.2.2 + 22) => (oq q (g_hn (x := G.2.2) (n := 23) (b := 23) h1 rfl)).trans (hq q h1 h2)
  clear h11 oq
  refine lv_iinc (v := 3) (lv' := [(1, .int (3 : Int32)), (0, .ref (G.2.2 + 22))]) hx hb dX2_init_41 hl (k := 0) rfl (by decide) (by decide) rfl (fun ls hl => ?_)
  refine lv_goto (tgt := 19) hx hb dX2_init_44 (by decide) ?_
  refine lv_iload_n hx hb dX2_init_19 rfl (lv_at hl 0 rfl) ?_
  refine lv_aload_n hx hb dX2_init_20 rfl (lv_at hl 1 rfl) ?_
  refine g_get hx hb hts in_2 hown hK.1 h3 rfl 0 (by decide) l_11 rfl rfl dX2_init_21 ?_
  refine g_ilen hx hb hK.1 h15 rfl (v := 4) rfl dX2_init_24 ?_
  refine lv_icmp_ge (tgt := 47) hx hb dX2_init_25 (by decide) (fun cc => absurd cc (by decide)) (fun _ => ?_)
  refine lv_aload_n hx hb dX2_init_28 rfl (lv_at hl 1 rfl) ?_
  refine g_get hx hb hts in_2 hown hK.1 h3 rfl 0 (by decide) l_11 rfl rfl dX2_init_29 ?_
  refine lv_iload_n hx hb dX2_init_32 rfl (lv_at hl 0 rfl) ?_
  refine g_newC (n := G.2.2 + 45) (ci := 8) (fs := [.null, .null, .null, .null, .int 0, .int 0, .int 0, .int 0, .int 0, .int 0, .int 0]) hx hb hts in_8 tyX8_ok hown n_9 n2_9 n3_9 hK hz hS rfl (fun j hj => by rcases (show j = 0 ∨ j = 1 ∨ j = 2 ∨ j = 3 ∨ j = 4 ∨ j = 5 ∨ j = 6 ∨ j = 7 ∨ j = 8 ∨ j = 9 ∨ j = 10 by omega) with rfl | rfl | rfl | rfl | rfl | rfl | rfl | rfl | rfl | rfl | rfl <;> rfl) (by show _ ≤ 29; omega) (by show _ ≤ 300; omega) dX2_init_33 (fun H h16 hz oq hS => ?_)
  replace h3 := g_at.kept h3 (oq _ (g_lt (x := G.2.2) (a := 22) (b := 45) rfl))
  replace h15 := g_at.kept h15 (oq _ (g_lt (x := G.2.2) (a := 23) (b := 45) rfl))
  replace hp5 := hp5.kept (fun q h1 h2 => oq q (g_l7 (x := G.2.2) (n := 45) st3 h2 rfl))
  replace hp9 := hp9.kept (fun q h1 h2 => oq q (g_l7 (x := G.2.2) (n := 45) st4 h2 rfl))
  replace hp13 := hp13.kept (fun q h1 h2 => oq q (g_l7 (x := G.2.2) (n := 45) st5 h2 rfl))
  replace hq := fun (q : Nat) (h1 : q < G.2.2 + 23) (h2 : q ≠ G.2.2 + 22) => (oq q (g_hl (x := G.2.2) (n := 23) (b := 45) h1 rfl)).trans (hq q h1 h2)
  clear oq
  replace hz : H.size = G.2.2 + 46 := hz
  refine lv_dup hx hb dX2_init_36 rfl ?_
  refine g_callC (va_runIN (host := "GlassRacks") (As := []) (rest := [.ref (G.2.2 + 45), .int (3 : Int32), .ref (G.2.2 + 23)]) ⟨hx, hb, hml, hown, hts⟩ (c8_init l G 6 (by decide)) ⟨va_cnB 0 hts gX2_init_X8_init_n21 rfl rfl rfl i2_21 i1_21 (by decide +kernel) ⟨Nat.le_of_ble_eq_true rfl, Nat.le_of_ble_eq_true rfl⟩, rfl, i3_21⟩ (g_preC hz h16 hK) rfl rfl hl.1 rfl (lv_room (Nat.le_of_ble_eq_true rfl)) dX2_init_37 ⟨by show _ ≤ 29; omega, by show _ ≤ 300; omega⟩) hz (by omega) (by omega) (by omega) hS (fun w18 H locs hv hp17 hz oq hS => ?_)
  subst hv
  clear h16
  replace h3 := g_at.kept h3 (oq _ (g_lt (x := G.2.2) (a := 22) (b := 46) rfl) (g_ne (x := G.2.2) (a := 22) (b := 45) rfl))
  replace h15 := g_at.kept h15 (oq _ (g_lt (x := G.2.2) (a := 23) (b := 46) rfl) (g_ne (x := G.2.2) (a := 23) (b := 45) rfl))
  replace hp5 := hp5.kept (fun q h1 h2 => oq q (g_l7 (x := G.2.2) (n := 46) st3 h2 rfl) (g_n7 (x := G.2.2) (b := 45) st3 h1 h2 rfl))
  replace hp9 := hp9.kept (fun q h1 h2 => oq q (g_l7 (x := G.2.2) (n := 46) st4 h2 rfl) (g_n7 (x := G.2.2) (b := 45) st4 h1 h2 rfl))
  replace hp13 := hp13.kept (fun q h1 h2 => oq q (g_l7 (x := G.2.2) (n := 46) st5 h2 rfl) (g_n7 (x := G.2.2) (b := 45) st5 h1 h2 rfl))
  replace hq := fun (q : Nat) (h1 : q < G.2.2 + 23) (h2 : q ≠ G.2.2 + 22) => (oq q (g_hl (x := G.2.2) (n := 23) (b := 46) h1 rfl) (g_hn (x := G.2.2) (n := 23) (b := 45) h1 rfl)).trans (hq q h1 h2)
  clear oq
  replace hz : H.size = G.2.2 + 52 := hz
  refine g_aast (ci := 8) hx hb hK.1 hS h15 (by omega) rfl hp17.1 rfl (by decide) dX2_init_40 (fun H locs h19 oq hS => ?_)
  replace h19 : g_at G (G.2.2 + 23) (g_aq (G.2.1 4) 4 (va_up (va_up (va_up (va_up (fun _ => none) 0 (some (G.2.2 + 24))) 1 (some (G.2.2 + 31))) 2 (some (G.2.2 + 38))) 3 (some (G.2.2 + 45)))) H := h19
  replace hz := (g_size h15 h19 oq).trans hz
  replace h3 := g_at.kept h3 (oq _ (g_ne (x := G.2.2) (a := 22) (b := 23) rfl))
  replace hp5 := hp5.kept (fun q h1 h2 => oq q (g_n7 (x := G.2.2) (b := 23) st3 h1 h2 rfl))
  replace hp9 := hp9.kept (fun q h1 h2 => oq q (g_n7 (x := G.2.2) (b := 23) st4 h1 h2 rfl))
  replace hp13 := hp13.kept (fun q h1 h2 => oq q (g_n7 (x := G.2.2) (b := 23) st5 h1 h2 rfl))
  replace hp17 := hp17.kept (fun q h1 h2 => oq q (g_n7 (x := G.2.2) (b := 23) st6 h1 h2 rfl))
  replace hq := fun (q : Nat) (h1 : q < G.2.2 + 23) (h2 : q ≠ G.2.2 + 22) => (oq q (g_hn (x := G.2.2) (n := 23) (b := 23) h1 rfl)).trans (hq q h1 h2)
  clear h15 oq
  refine lv_iinc (v := 4) (lv' := [(1, .int (4 : Int32)), (0, .ref (G.2.2 + 22))]) hx hb dX2_init_41 hl (k := 0) rfl (by decide) (by decide) rfl (fun ls hl => ?_)
  refine lv_goto (tgt := 19) hx hb dX2_init_44 (by decide) ?_
  refine lv_iload_n hx hb dX2_init_19 rfl (lv_at hl 0 rfl) ?_
  refine lv_aload_n hx hb dX2_init_20 rfl (lv_at hl 1 rfl) ?_
  refine g_get hx hb hts in_2 hown hK.1 h3 rfl 0 (by decide) l_11 rfl rfl dX2_init_21 ?_
  refine g_ilen hx hb hK.1 h19 rfl (v := 4) rfl dX2_init_24 ?_
  refine lv_icmp_ge (tgt := 47) hx hb dX2_init_25 (by decide) (fun _ => ?_) (fun cc => absurd (by decide) cc)
  have hr4 : g_at G (G.2.2 + 23) (g_aq (G.2.1 4) 4 (fun k => some (g_stA G (g_h0.1 k)))) H := g_aq_to h19 (fun k hk => by rcases (show k = 0 ∨ k = 1 ∨ k = 2 ∨ k = 3 by omega) with rfl | rfl | rfl | rfl <;> rfl)
  exact g_vretC hx hb hlocks hr hS ⟨⟨fun k hk => by show k + 3 < 7; omega, h3, hr4⟩, hp5, hp9, hp13, hp17⟩ hz hq (by omega) (by omega) dX2_init_47
set_option maxHeartbeats 4000000 in
set_option maxRecDepth 100000 in
theorem c9_init (l : Launch) (G : gG)  : Met l yX9_init wsX9_init ({ frames := 4, cells := 53, slots := 596, locals := 77 } : Room) (g_PreC G (G.2.2) (.inr (9, [.null, .null, .null, .int 0, .null, .null])) (G.2.2 + 1)) (g_QC (G.2.2) (G.2.2 + 1) (G.2.2 + 54) (fun H => (∀ i, i < 7 → g_S G g_E0 i g_s0 H) ∧ g_Hp G g_h0 H ∧ g_Tp G g_t0 H ∧ g_Gp G 0 H)) 53 596 (g_A G) := by
  refine Met.ofW (cc := cX9_init) (maxL := 1) (ret := none) (by decide) rfl ?_
  intro p e s m args below meth c s₁ B hml hv
  obtain ⟨rfl, hz, h0, hK⟩ := hv
  have hx := B.exec
  have hb := B.bytes
  have hr := B.returns
  have hts := atoms_spec (ws := wsX9_init) B.pre
  have hown : s.vm.findClass RX9 = some m.cls := findClass_of_methodNamed B.named
  have hlocks := B.notSynchronized
  have hin : meth.name = "<init>" := (name_of_methodNamed B.named B.method).1
  have hS : va_S (g_A G) s.heap s.heap [] := va_S.rf
  have hq : ∀ q : Nat, q < G.2.2 + 1 → q ≠ G.2.2 → s.heap[q]? = s.heap[q]? := fun _ _ _ => rfl
  have hl := lv_entry ([.ref (G.2.2)]) (n := 1) (Nat.le_of_ble_eq_true rfl)
  rw [lg_entry_eq]
  generalize (lg_sl ([.ref (G.2.2)]) ++ List.replicate (1 - (lg_sl ([.ref (G.2.2)])).length) Slot.unset).toArray = ls at hl ⊢
  have hl : lv_has ls 1 [(0, .ref (G.2.2))] := hl
  have st0 : g_stA G 0 = G.2.2 + 1 := rfl
  have st1 : g_stA G 1 = G.2.2 + 8 := rfl
  have st2 : g_stA G 2 = G.2.2 + 15 := rfl
  have st3 : g_stA G 3 = G.2.2 + 24 := rfl
  have st4 : g_stA G 4 = G.2.2 + 31 := rfl
  have st5 : g_stA G 5 = G.2.2 + 38 := rfl
  have st6 : g_stA G 6 = G.2.2 + 45 := rfl
  have o_3 := hts (.methodLink RX9 3 objectInit) (by decide +kernel)
  have o2_3 := hts (.instanceMethod objectInit) (by decide +kernel)
  have o3_3 := hts (.code objectInit ⟨#[0xb1]⟩ 1 none) (by decide +kernel)
  have in_8 : ∀ w ∈ u_ws RX8 TX8 11, w ∈ wsX9_init := ifX9_init_8
  have n_9 := hts (.classLink RX9 9 RX8) (by decide +kernel)
  have n2_9 := hts (.instantiable RX8 11) (by decide +kernel)
  have n3_9 := hts (.initialized RX8) (by decide +kernel)
  have i1_11 := hts (.initialized RX8) (by decide +kernel)
  have i3_11 := hts (.instanceMethod yX8_init) (by decide +kernel)
  have i2_11 := hK.1.2 (RX9, 11, yX8_init) (by decide +kernel)
  have in_9 : ∀ w ∈ u_ws RX9 TX9 6, w ∈ wsX9_init := ifX9_init_9
  have l_12 := hts (.fieldLink RX9 12 "GlassRacks" "now" "LGlassRacks$State;") (by decide +kernel)
  have l_16 := hts (.fieldLink RX9 16 "GlassRacks" "before" "LGlassRacks$State;") (by decide +kernel)
  have l_19 := hts (.fieldLink RX9 19 "GlassRacks" "snapshot" "LGlassRacks$State;") (by decide +kernel)
  have l_22 := hts (.fieldLink RX9 22 "GlassRacks" "snapshotTaken" "Z") (by decide +kernel)
  have in_2 : ∀ w ∈ u_ws RX2 TX2 2, w ∈ wsX9_init := ifX9_init_2
  have n_26 := hts (.classLink RX9 26 RX2) (by decide +kernel)
  have n2_26 := hts (.instantiable RX2 2) (by decide +kernel)
  have n3_26 := hts (.initialized RX2) (by decide +kernel)
  have i1_28 := hts (.initialized RX2) (by decide +kernel)
  have i3_28 := hts (.instanceMethod yX2_init) (by decide +kernel)
  have i2_28 := hts (.methodLink RX9 28 yX2_init) (by decide +kernel)
  have l_29 := hts (.fieldLink RX9 29 "GlassRacks" "history" "LGlassRacks$History;") (by decide +kernel)
  have in_0 : ∀ w ∈ u_ws RX0 TX0 12, w ∈ wsX9_init := ifX9_init_0
  have n_33 := hts (.classLink RX9 33 RX0) (by decide +kernel)
  have n2_33 := hts (.instantiable RX0 12) (by decide +kernel)
  have n3_33 := hts (.initialized RX0) (by decide +kernel)
  have i1_35 := hts (.initialized RX0) (by decide +kernel)
  have i3_35 := hts (.instanceMethod yX0_init) (by decide +kernel)
  have i2_35 := hK.1.2 (RX9, 35, yX0_init) (by decide +kernel)
  have l_36 := hts (.fieldLink RX9 36 "GlassRacks" "text" "LGlassRacks$CommandText;") (by decide +kernel)
  refine lv_aload_n hx hb dX9_init_0 rfl (lv_at hl 0 rfl) ?_
  refine W.objInit hx hb hown o_3 o2_3 o3_3 rfl (by rw [hml]; exact hl.1) rfl dX9_init_1 (Nat.le_of_ble_eq_true rfl) (Nat.le_of_ble_eq_true rfl) ?_
  refine W.eq (g2 := F0 m 4 ls []) rfl ?_
  refine lv_aload_n hx hb dX9_init_4 rfl (lv_at hl 0 rfl) ?_
  refine g_newC (n := G.2.2 + 1) (ci := 8) (fs := [.null, .null, .null, .null, .int 0, .int 0, .int 0, .int 0, .int 0, .int 0, .int 0]) hx hb hts in_8 tyX8_ok hown n_9 n2_9 n3_9 hK hz hS rfl (fun j hj => by rcases (show j = 0 ∨ j = 1 ∨ j = 2 ∨ j = 3 ∨ j = 4 ∨ j = 5 ∨ j = 6 ∨ j = 7 ∨ j = 8 ∨ j = 9 ∨ j = 10 by omega) with rfl | rfl | rfl | rfl | rfl | rfl | rfl | rfl | rfl | rfl | rfl <;> rfl) (by show _ ≤ 53; omega) (by show _ ≤ 596; omega) dX9_init_5 (fun H h1 hz oq hS => ?_)
  replace h0 := g_at.kept h0 (oq _ (g_lt (x := G.2.2) (a := 0) (b := 1) rfl))
  replace hq := fun (q : Nat) (h1 : q < G.2.2 + 1) (h2 : q ≠ G.2.2) => (oq q (g_hl (x := G.2.2) (n := 1) (b := 1) h1 rfl)).trans (hq q h1 h2)
  clear oq
  replace hz : H.size = G.2.2 + 2 := hz
  refine lv_dup hx hb dX9_init_8 rfl ?_
  refine g_callC (va_runIN (host := "GlassRacks") (As := []) (rest := [.ref (G.2.2 + 1), .ref G.2.2]) ⟨hx, hb, hml, hown, hts⟩ (c8_init l G 0 (by decide)) ⟨va_cnB 0 hts gX9_init_X8_init_n11 rfl rfl rfl i2_11 i1_11 (by decide +kernel) ⟨Nat.le_of_ble_eq_true rfl, Nat.le_of_ble_eq_true rfl⟩, rfl, i3_11⟩ (g_preC hz h1 hK) rfl rfl hl.1 rfl (lv_room (Nat.le_of_ble_eq_true rfl)) dX9_init_9 ⟨by show _ ≤ 53; omega, by show _ ≤ 596; omega⟩) hz (by omega) (by omega) (by omega) hS (fun w3 H locs hv hp2 hz oq hS => ?_)
  subst hv
  clear h1
  replace h0 := g_at.kept h0 (oq _ (g_lt (x := G.2.2) (a := 0) (b := 2) rfl) (g_ne (x := G.2.2) (a := 0) (b := 1) rfl))
  replace hq := fun (q : Nat) (h1 : q < G.2.2 + 1) (h2 : q ≠ G.2.2) => (oq q (g_hl (x := G.2.2) (n := 1) (b := 2) h1 rfl) (g_hn (x := G.2.2) (n := 1) (b := 1) h1 rfl)).trans (hq q h1 h2)
  clear oq
  replace hz : H.size = G.2.2 + 8 := hz
  refine g_putF hx hb hts in_9 tyX9_ok nmX9 hown hK.1 hS h0 (by omega) rfl 0 (by decide) l_12 rfl rfl hin rfl rfl rfl (Nat.le_of_ble_eq_true rfl) dX9_init_12 (fun H locs h4 oq hS => ?_)
  replace h4 : g_at G (G.2.2) (.inr (9, [.ref (G.2.2 + 1), .null, .null, .int 0, .null, .null])) H := h4
  replace hz := (g_size h0 h4 oq).trans hz
  replace hp2 := hp2.kept (fun q h1 h2 => oq q (g_n7 (x := G.2.2) (b := 0) st0 h1 h2 rfl))
  replace hq := fun (q : Nat) (h1 : q < G.2.2 + 1) (h2 : q ≠ G.2.2) => (oq q h2).trans (hq q h1 h2)
  clear h0 oq
  refine lv_aload_n hx hb dX9_init_15 rfl (lv_at hl 0 rfl) ?_
  refine g_newC (n := G.2.2 + 8) (ci := 8) (fs := [.null, .null, .null, .null, .int 0, .int 0, .int 0, .int 0, .int 0, .int 0, .int 0]) hx hb hts in_8 tyX8_ok hown n_9 n2_9 n3_9 hK hz hS rfl (fun j hj => by rcases (show j = 0 ∨ j = 1 ∨ j = 2 ∨ j = 3 ∨ j = 4 ∨ j = 5 ∨ j = 6 ∨ j = 7 ∨ j = 8 ∨ j = 9 ∨ j = 10 by omega) with rfl | rfl | rfl | rfl | rfl | rfl | rfl | rfl | rfl | rfl | rfl <;> rfl) (by show _ ≤ 53; omega) (by show _ ≤ 596; omega) dX9_init_16 (fun H h5 hz oq hS => ?_)
  replace h4 := g_at.kept h4 (oq _ (g_lt (x := G.2.2) (a := 0) (b := 8) rfl))
  replace hp2 := hp2.kept (fun q h1 h2 => oq q (g_l7 (x := G.2.2) (n := 8) st0 h2 rfl))
  replace hq := fun (q : Nat) (h1 : q < G.2.2 + 1) (h2 : q ≠ G.2.2) => (oq q (g_hl (x := G.2.2) (n := 1) (b := 8) h1 rfl)).trans (hq q h1 h2)
  clear oq
  replace hz : H.size = G.2.2 + 9 := hz
  refine lv_dup hx hb dX9_init_19 rfl ?_
  refine g_callC (va_runIN (host := "GlassRacks") (As := []) (rest := [.ref (G.2.2 + 8), .ref G.2.2]) ⟨hx, hb, hml, hown, hts⟩ (c8_init l G 1 (by decide)) ⟨va_cnB 0 hts gX9_init_X8_init_n11 rfl rfl rfl i2_11 i1_11 (by decide +kernel) ⟨Nat.le_of_ble_eq_true rfl, Nat.le_of_ble_eq_true rfl⟩, rfl, i3_11⟩ (g_preC hz h5 hK) rfl rfl hl.1 rfl (lv_room (Nat.le_of_ble_eq_true rfl)) dX9_init_20 ⟨by show _ ≤ 53; omega, by show _ ≤ 596; omega⟩) hz (by omega) (by omega) (by omega) hS (fun w7 H locs hv hp6 hz oq hS => ?_)
  subst hv
  clear h5
  replace h4 := g_at.kept h4 (oq _ (g_lt (x := G.2.2) (a := 0) (b := 9) rfl) (g_ne (x := G.2.2) (a := 0) (b := 8) rfl))
  replace hp2 := hp2.kept (fun q h1 h2 => oq q (g_l7 (x := G.2.2) (n := 9) st0 h2 rfl) (g_n7 (x := G.2.2) (b := 8) st0 h1 h2 rfl))
  replace hq := fun (q : Nat) (h1 : q < G.2.2 + 1) (h2 : q ≠ G.2.2) => (oq q (g_hl (x := G.2.2) (n := 1) (b := 9) h1 rfl) (g_hn (x := G.2.2) (n := 1) (b := 8) h1 rfl)).trans (hq q h1 h2)
  clear oq
  replace hz : H.size = G.2.2 + 15 := hz
  refine g_putF hx hb hts in_9 tyX9_ok nmX9 hown hK.1 hS h4 (by omega) rfl 1 (by decide) l_16 rfl rfl hin rfl rfl rfl (Nat.le_of_ble_eq_true rfl) dX9_init_23 (fun H locs h8 oq hS => ?_)
  replace h8 : g_at G (G.2.2) (.inr (9, [.ref (G.2.2 + 1), .ref (G.2.2 + 8), .null, .int 0, .null, .null])) H := h8
  replace hz := (g_size h4 h8 oq).trans hz
  replace hp2 := hp2.kept (fun q h1 h2 => oq q (g_n7 (x := G.2.2) (b := 0) st0 h1 h2 rfl))
  replace hp6 := hp6.kept (fun q h1 h2 => oq q (g_n7 (x := G.2.2) (b := 0) st1 h1 h2 rfl))
  replace hq := fun (q : Nat) (h1 : q < G.2.2 + 1) (h2 : q ≠ G.2.2) => (oq q h2).trans (hq q h1 h2)
  clear h4 oq
  refine lv_aload_n hx hb dX9_init_26 rfl (lv_at hl 0 rfl) ?_
  refine g_newC (n := G.2.2 + 15) (ci := 8) (fs := [.null, .null, .null, .null, .int 0, .int 0, .int 0, .int 0, .int 0, .int 0, .int 0]) hx hb hts in_8 tyX8_ok hown n_9 n2_9 n3_9 hK hz hS rfl (fun j hj => by rcases (show j = 0 ∨ j = 1 ∨ j = 2 ∨ j = 3 ∨ j = 4 ∨ j = 5 ∨ j = 6 ∨ j = 7 ∨ j = 8 ∨ j = 9 ∨ j = 10 by omega) with rfl | rfl | rfl | rfl | rfl | rfl | rfl | rfl | rfl | rfl | rfl <;> rfl) (by show _ ≤ 53; omega) (by show _ ≤ 596; omega) dX9_init_27 (fun H h9 hz oq hS => ?_)
  replace h8 := g_at.kept h8 (oq _ (g_lt (x := G.2.2) (a := 0) (b := 15) rfl))
  replace hp2 := hp2.kept (fun q h1 h2 => oq q (g_l7 (x := G.2.2) (n := 15) st0 h2 rfl))
  replace hp6 := hp6.kept (fun q h1 h2 => oq q (g_l7 (x := G.2.2) (n := 15) st1 h2 rfl))
  replace hq := fun (q : Nat) (h1 : q < G.2.2 + 1) (h2 : q ≠ G.2.2) => (oq q (g_hl (x := G.2.2) (n := 1) (b := 15) h1 rfl)).trans (hq q h1 h2)
  clear oq
  replace hz : H.size = G.2.2 + 16 := hz
  refine lv_dup hx hb dX9_init_30 rfl ?_
  refine g_callC (va_runIN (host := "GlassRacks") (As := []) (rest := [.ref (G.2.2 + 15), .ref G.2.2]) ⟨hx, hb, hml, hown, hts⟩ (c8_init l G 2 (by decide)) ⟨va_cnB 0 hts gX9_init_X8_init_n11 rfl rfl rfl i2_11 i1_11 (by decide +kernel) ⟨Nat.le_of_ble_eq_true rfl, Nat.le_of_ble_eq_true rfl⟩, rfl, i3_11⟩ (g_preC hz h9 hK) rfl rfl hl.1 rfl (lv_room (Nat.le_of_ble_eq_true rfl)) dX9_init_31 ⟨by show _ ≤ 53; omega, by show _ ≤ 596; omega⟩) hz (by omega) (by omega) (by omega) hS (fun w11 H locs hv hp10 hz oq hS => ?_)
  subst hv
  clear h9
  replace h8 := g_at.kept h8 (oq _ (g_lt (x := G.2.2) (a := 0) (b := 16) rfl) (g_ne (x := G.2.2) (a := 0) (b := 15) rfl))
  replace hp2 := hp2.kept (fun q h1 h2 => oq q (g_l7 (x := G.2.2) (n := 16) st0 h2 rfl) (g_n7 (x := G.2.2) (b := 15) st0 h1 h2 rfl))
  replace hp6 := hp6.kept (fun q h1 h2 => oq q (g_l7 (x := G.2.2) (n := 16) st1 h2 rfl) (g_n7 (x := G.2.2) (b := 15) st1 h1 h2 rfl))
  replace hq := fun (q : Nat) (h1 : q < G.2.2 + 1) (h2 : q ≠ G.2.2) => (oq q (g_hl (x := G.2.2) (n := 1) (b := 16) h1 rfl) (g_hn (x := G.2.2) (n := 1) (b := 15) h1 rfl)).trans (hq q h1 h2)
  clear oq
  replace hz : H.size = G.2.2 + 22 := hz
  refine g_putF hx hb hts in_9 tyX9_ok nmX9 hown hK.1 hS h8 (by omega) rfl 2 (by decide) l_19 rfl rfl hin rfl rfl rfl (Nat.le_of_ble_eq_true rfl) dX9_init_34 (fun H locs h12 oq hS => ?_)
  replace h12 : g_at G (G.2.2) (.inr (9, [.ref (G.2.2 + 1), .ref (G.2.2 + 8), .ref (G.2.2 + 15), .int 0, .null, .null])) H := h12
  replace hz := (g_size h8 h12 oq).trans hz
  replace hp2 := hp2.kept (fun q h1 h2 => oq q (g_n7 (x := G.2.2) (b := 0) st0 h1 h2 rfl))
  replace hp6 := hp6.kept (fun q h1 h2 => oq q (g_n7 (x := G.2.2) (b := 0) st1 h1 h2 rfl))
  replace hp10 := hp10.kept (fun q h1 h2 => oq q (g_n7 (x := G.2.2) (b := 0) st2 h1 h2 rfl))
  replace hq := fun (q : Nat) (h1 : q < G.2.2 + 1) (h2 : q ≠ G.2.2) => (oq q h2).trans (hq q h1 h2)
  clear h8 oq
  refine lv_aload_n hx hb dX9_init_37 rfl (lv_at hl 0 rfl) ?_
  refine lv_iconst (v := 0) hx hb dX9_init_38 (by decide) ?_
  refine g_put hx hb hts in_9 tyX9_ok nmX9 hown hK.1 hS h12 (by omega) rfl 3 (by decide) l_22 rfl rfl rfl rfl (Nat.le_of_ble_eq_true rfl) dX9_init_39 (fun H locs h13 oq hS => ?_)
  replace h13 : g_at G (G.2.2) (.inr (9, [.ref (G.2.2 + 1), .ref (G.2.2 + 8), .ref (G.2.2 + 15), .int (0 : Int32), .null, .null])) H := h13
  replace hz := (g_size h12 h13 oq).trans hz
  replace hp2 := hp2.kept (fun q h1 h2 => oq q (g_n7 (x := G.2.2) (b := 0) st0 h1 h2 rfl))
  replace hp6 := hp6.kept (fun q h1 h2 => oq q (g_n7 (x := G.2.2) (b := 0) st1 h1 h2 rfl))
  replace hp10 := hp10.kept (fun q h1 h2 => oq q (g_n7 (x := G.2.2) (b := 0) st2 h1 h2 rfl))
  replace hq := fun (q : Nat) (h1 : q < G.2.2 + 1) (h2 : q ≠ G.2.2) => (oq q h2).trans (hq q h1 h2)
  clear h12 oq
  refine lv_aload_n hx hb dX9_init_42 rfl (lv_at hl 0 rfl) ?_
  refine g_newC (n := G.2.2 + 22) (ci := 2) (fs := [.null, .int 0]) hx hb hts in_2 tyX2_ok hown n_26 n2_26 n3_26 hK hz hS rfl (fun j hj => by rcases (show j = 0 ∨ j = 1 by omega) with rfl | rfl <;> rfl) (by show _ ≤ 53; omega) (by show _ ≤ 596; omega) dX9_init_43 (fun H h14 hz oq hS => ?_)
  replace h13 := g_at.kept h13 (oq _ (g_lt (x := G.2.2) (a := 0) (b := 22) rfl))
  replace hp2 := hp2.kept (fun q h1 h2 => oq q (g_l7 (x := G.2.2) (n := 22) st0 h2 rfl))
  replace hp6 := hp6.kept (fun q h1 h2 => oq q (g_l7 (x := G.2.2) (n := 22) st1 h2 rfl))
  replace hp10 := hp10.kept (fun q h1 h2 => oq q (g_l7 (x := G.2.2) (n := 22) st2 h2 rfl))
  replace hq := fun (q : Nat) (h1 : q < G.2.2 + 1) (h2 : q ≠ G.2.2) => (oq q (g_hl (x := G.2.2) (n := 1) (b := 22) h1 rfl)).trans (hq q h1 h2)
  clear oq
  replace hz : H.size = G.2.2 + 23 := hz
  refine lv_dup hx hb dX9_init_46 rfl ?_
  refine g_callC (va_runI (As := []) (rest := [.ref (G.2.2 + 22), .ref G.2.2]) ⟨hx, hb, hml, hown, hts⟩ (c2_init l G) (cwI 0 hts gX9_init_X2_init rfl rfl rfl i1_28 i2_28 i3_28 rfl (by decide +kernel) ⟨Nat.le_of_ble_eq_true rfl, Nat.le_of_ble_eq_true rfl⟩) (g_preC hz h14 hK) rfl rfl hl.1 rfl (lv_room (Nat.le_of_ble_eq_true rfl)) dX9_init_47 ⟨by show _ ≤ 53; omega, by show _ ≤ 596; omega⟩) hz (by omega) (by omega) (by omega) hS (fun w16 H locs hv hp15 hz oq hS => ?_)
  subst hv
  clear h14
  replace h13 := g_at.kept h13 (oq _ (g_lt (x := G.2.2) (a := 0) (b := 23) rfl) (g_ne (x := G.2.2) (a := 0) (b := 22) rfl))
  replace hp2 := hp2.kept (fun q h1 h2 => oq q (g_l7 (x := G.2.2) (n := 23) st0 h2 rfl) (g_n7 (x := G.2.2) (b := 22) st0 h1 h2 rfl))
  replace hp6 := hp6.kept (fun q h1 h2 => oq q (g_l7 (x := G.2.2) (n := 23) st1 h2 rfl) (g_n7 (x := G.2.2) (b := 22) st1 h1 h2 rfl))
  replace hp10 := hp10.kept (fun q h1 h2 => oq q (g_l7 (x := G.2.2) (n := 23) st2 h2 rfl) (g_n7 (x := G.2.2) (b := 22) st2 h1 h2 rfl))
  replace hq := fun (q : Nat) (h1 : q < G.2.2 + 1) (h2 : q ≠ G.2.2) => (oq q (g_hl (x := G.2.2) (n := 1) (b := 23) h1 rfl) (g_hn (x := G.2.2) (n := 1) (b := 22) h1 rfl)).trans (hq q h1 h2)
  clear oq
  obtain ⟨h17, h18, h19, h20, h21⟩ := hp15
  replace hz : H.size = G.2.2 + 52 := hz
  refine g_putF hx hb hts in_9 tyX9_ok nmX9 hown hK.1 hS h13 (by omega) rfl 4 (by decide) l_29 rfl rfl hin rfl rfl rfl (Nat.le_of_ble_eq_true rfl) dX9_init_50 (fun H locs h22 oq hS => ?_)
  replace h22 : g_at G (G.2.2) (.inr (9, [.ref (G.2.2 + 1), .ref (G.2.2 + 8), .ref (G.2.2 + 15), .int (0 : Int32), .ref (G.2.2 + 22), .null])) H := h22
  replace hz := (g_size h13 h22 oq).trans hz
  replace hp2 := hp2.kept (fun q h1 h2 => oq q (g_n7 (x := G.2.2) (b := 0) st0 h1 h2 rfl))
  replace hp6 := hp6.kept (fun q h1 h2 => oq q (g_n7 (x := G.2.2) (b := 0) st1 h1 h2 rfl))
  replace hp10 := hp10.kept (fun q h1 h2 => oq q (g_n7 (x := G.2.2) (b := 0) st2 h1 h2 rfl))
  replace h17 := h17.kept (oq _ (g_ne (x := G.2.2) (a := 22) (b := 0) rfl)) (oq _ (g_ne (x := G.2.2) (a := 23) (b := 0) rfl))
  replace h18 := h18.kept (fun q h1 h2 => oq q (g_n7 (x := G.2.2) (b := 0) st3 h1 h2 rfl))
  replace h19 := h19.kept (fun q h1 h2 => oq q (g_n7 (x := G.2.2) (b := 0) st4 h1 h2 rfl))
  replace h20 := h20.kept (fun q h1 h2 => oq q (g_n7 (x := G.2.2) (b := 0) st5 h1 h2 rfl))
  replace h21 := h21.kept (fun q h1 h2 => oq q (g_n7 (x := G.2.2) (b := 0) st6 h1 h2 rfl))
  replace hq := fun (q : Nat) (h1 : q < G.2.2 + 1) (h2 : q ≠ G.2.2) => (oq q h2).trans (hq q h1 h2)
  clear h13 oq
  refine lv_aload_n hx hb dX9_init_53 rfl (lv_at hl 0 rfl) ?_
  refine g_newC (n := G.2.2 + 52) (ci := 0) (fs := [.null, .int 0, .int 0, .int 0, .int 0, .int 0, .int 0, .int 0, .int 0, .int 0, .int 0, .int 0]) hx hb hts in_0 tyX0_ok hown n_33 n2_33 n3_33 hK hz hS rfl (fun j hj => by rcases (show j = 0 ∨ j = 1 ∨ j = 2 ∨ j = 3 ∨ j = 4 ∨ j = 5 ∨ j = 6 ∨ j = 7 ∨ j = 8 ∨ j = 9 ∨ j = 10 ∨ j = 11 by omega) with rfl | rfl | rfl | rfl | rfl | rfl | rfl | rfl | rfl | rfl | rfl | rfl <;> rfl) (by show _ ≤ 53; omega) (by show _ ≤ 596; omega) dX9_init_54 (fun H h23 hz oq hS => ?_)
  replace h22 := g_at.kept h22 (oq _ (g_lt (x := G.2.2) (a := 0) (b := 52) rfl))
  replace hp2 := hp2.kept (fun q h1 h2 => oq q (g_l7 (x := G.2.2) (n := 52) st0 h2 rfl))
  replace hp6 := hp6.kept (fun q h1 h2 => oq q (g_l7 (x := G.2.2) (n := 52) st1 h2 rfl))
  replace hp10 := hp10.kept (fun q h1 h2 => oq q (g_l7 (x := G.2.2) (n := 52) st2 h2 rfl))
  replace h17 := h17.kept (oq _ (g_lt (x := G.2.2) (a := 22) (b := 52) rfl)) (oq _ (g_lt (x := G.2.2) (a := 23) (b := 52) rfl))
  replace h18 := h18.kept (fun q h1 h2 => oq q (g_l7 (x := G.2.2) (n := 52) st3 h2 rfl))
  replace h19 := h19.kept (fun q h1 h2 => oq q (g_l7 (x := G.2.2) (n := 52) st4 h2 rfl))
  replace h20 := h20.kept (fun q h1 h2 => oq q (g_l7 (x := G.2.2) (n := 52) st5 h2 rfl))
  replace h21 := h21.kept (fun q h1 h2 => oq q (g_l7 (x := G.2.2) (n := 52) st6 h2 rfl))
  replace hq := fun (q : Nat) (h1 : q < G.2.2 + 1) (h2 : q ≠ G.2.2) => (oq q (g_hl (x := G.2.2) (n := 1) (b := 52) h1 rfl)).trans (hq q h1 h2)
  clear oq
  replace hz : H.size = G.2.2 + 53 := hz
  refine lv_dup hx hb dX9_init_57 rfl ?_
  refine g_callC (va_runIN (host := "GlassRacks") (As := []) (rest := [.ref (G.2.2 + 52), .ref G.2.2]) ⟨hx, hb, hml, hown, hts⟩ (c0_init l G) ⟨va_cnB 0 hts gX9_init_X0_init_n35 rfl rfl rfl i2_35 i1_35 (by decide +kernel) ⟨Nat.le_of_ble_eq_true rfl, Nat.le_of_ble_eq_true rfl⟩, rfl, i3_35⟩ (g_preC hz h23 hK) rfl rfl hl.1 rfl (lv_room (Nat.le_of_ble_eq_true rfl)) dX9_init_58 ⟨by show _ ≤ 53; omega, by show _ ≤ 596; omega⟩) hz (by omega) (by omega) (by omega) hS (fun w25 H locs hv hp24 hz oq hS => ?_)
  subst hv
  clear h23
  replace h22 := g_at.kept h22 (oq _ (g_lt (x := G.2.2) (a := 0) (b := 53) rfl) (g_ne (x := G.2.2) (a := 0) (b := 52) rfl))
  replace hp2 := hp2.kept (fun q h1 h2 => oq q (g_l7 (x := G.2.2) (n := 53) st0 h2 rfl) (g_n7 (x := G.2.2) (b := 52) st0 h1 h2 rfl))
  replace hp6 := hp6.kept (fun q h1 h2 => oq q (g_l7 (x := G.2.2) (n := 53) st1 h2 rfl) (g_n7 (x := G.2.2) (b := 52) st1 h1 h2 rfl))
  replace hp10 := hp10.kept (fun q h1 h2 => oq q (g_l7 (x := G.2.2) (n := 53) st2 h2 rfl) (g_n7 (x := G.2.2) (b := 52) st2 h1 h2 rfl))
  replace h17 := h17.kept (oq _ (g_lt (x := G.2.2) (a := 22) (b := 53) rfl) (g_ne (x := G.2.2) (a := 22) (b := 52) rfl)) (oq _ (g_lt (x := G.2.2) (a := 23) (b := 53) rfl) (g_ne (x := G.2.2) (a := 23) (b := 52) rfl))
  replace h18 := h18.kept (fun q h1 h2 => oq q (g_l7 (x := G.2.2) (n := 53) st3 h2 rfl) (g_n7 (x := G.2.2) (b := 52) st3 h1 h2 rfl))
  replace h19 := h19.kept (fun q h1 h2 => oq q (g_l7 (x := G.2.2) (n := 53) st4 h2 rfl) (g_n7 (x := G.2.2) (b := 52) st4 h1 h2 rfl))
  replace h20 := h20.kept (fun q h1 h2 => oq q (g_l7 (x := G.2.2) (n := 53) st5 h2 rfl) (g_n7 (x := G.2.2) (b := 52) st5 h1 h2 rfl))
  replace h21 := h21.kept (fun q h1 h2 => oq q (g_l7 (x := G.2.2) (n := 53) st6 h2 rfl) (g_n7 (x := G.2.2) (b := 52) st6 h1 h2 rfl))
  replace hq := fun (q : Nat) (h1 : q < G.2.2 + 1) (h2 : q ≠ G.2.2) => (oq q (g_hl (x := G.2.2) (n := 1) (b := 53) h1 rfl) (g_hn (x := G.2.2) (n := 1) (b := 52) h1 rfl)).trans (hq q h1 h2)
  clear oq
  replace hz : H.size = G.2.2 + 54 := hz
  refine g_putF hx hb hts in_9 tyX9_ok nmX9 hown hK.1 hS h22 (by omega) rfl 5 (by decide) l_36 rfl rfl hin rfl rfl rfl (Nat.le_of_ble_eq_true rfl) dX9_init_61 (fun H locs h26 oq hS => ?_)
  replace h26 : g_at G (G.2.2) (.inr (9, [.ref (G.2.2 + 1), .ref (G.2.2 + 8), .ref (G.2.2 + 15), .int (0 : Int32), .ref (G.2.2 + 22), .ref (G.2.2 + 52)])) H := h26
  replace hz := (g_size h22 h26 oq).trans hz
  replace hp2 := hp2.kept (fun q h1 h2 => oq q (g_n7 (x := G.2.2) (b := 0) st0 h1 h2 rfl))
  replace hp6 := hp6.kept (fun q h1 h2 => oq q (g_n7 (x := G.2.2) (b := 0) st1 h1 h2 rfl))
  replace hp10 := hp10.kept (fun q h1 h2 => oq q (g_n7 (x := G.2.2) (b := 0) st2 h1 h2 rfl))
  replace h17 := h17.kept (oq _ (g_ne (x := G.2.2) (a := 22) (b := 0) rfl)) (oq _ (g_ne (x := G.2.2) (a := 23) (b := 0) rfl))
  replace h18 := h18.kept (fun q h1 h2 => oq q (g_n7 (x := G.2.2) (b := 0) st3 h1 h2 rfl))
  replace h19 := h19.kept (fun q h1 h2 => oq q (g_n7 (x := G.2.2) (b := 0) st4 h1 h2 rfl))
  replace h20 := h20.kept (fun q h1 h2 => oq q (g_n7 (x := G.2.2) (b := 0) st5 h1 h2 rfl))
  replace h21 := h21.kept (fun q h1 h2 => oq q (g_n7 (x := G.2.2) (b := 0) st6 h1 h2 rfl))
  replace hp24 := hp24.kept (oq _ (g_ne (x := G.2.2) (a := 52) (b := 0) rfl)) (oq _ (g_ne (x := G.2.2) (a := 53) (b := 0) rfl))
  replace hq := fun (q : Nat) (h1 : q < G.2.2 + 1) (h2 : q ≠ G.2.2) => (oq q h2).trans (hq q h1 h2)
  clear h22 oq
  exact g_vretC hx hb hlocks hr hS ⟨fun i hi => by rcases (show i = 0 ∨ i = 1 ∨ i = 2 ∨ i = 3 ∨ i = 4 ∨ i = 5 ∨ i = 6 by omega) with rfl | rfl | rfl | rfl | rfl | rfl | rfl <;> assumption, h17, hp24, h26⟩ hz hq (by omega) (by omega) dX9_init_64
