/-! the best sheet, and where it stands, as a function -/
def ch_p (a : aSt) (o : gOd) (c : Int32) : Prop := ∃ q : Nat × gSh, q.1 < 32 ∧ ch_b a o c 32 (some q.2) (ch_ms a o c q.1 q.2) ∧ ch_f a o q.1 q.2
noncomputable def ch_at (a : aSt) (o : gOd) (c : Int32) : Option (Nat × Nat × gSh) :=
  @dite _ (ch_p a o c) (Classical.propDecidable _) (fun h => some ((Classical.choose h).1 / 8, (Classical.choose h).1 % 8, (Classical.choose h).2)) (fun _ => none)
theorem ch_at_n {a : aSt} {o : gOd} {c e : Int32} (h : ch_b a o c 32 none e) : ch_at a o c = none := by
  unfold ch_at
  exact dif_neg (fun ⟨q, h1, _, h3⟩ => h q.1 q.2 h1 h3)
theorem ch_at_s {a : aSt} (hu : r_un a.2.1) {o : gOd} {c e : Int32} {w : gSh} (h : ch_b a o c 32 (some w) e) : ∃ r p, r < 4 ∧ (a.2.1 r)[p]? = some w ∧ ¬ c_lie a.1 o w = -1 ∧ ch_at a o c = some (r, p, w) := by
  have hp : ch_p a o c := by
    have h' := h
    obtain ⟨⟨k, hk, hf, he⟩, -⟩ := h'
    exact ⟨(k, w), hk, by rw [← he]; exact h, hf⟩
  obtain ⟨⟨k, hk, hf, he⟩, hmin⟩ := h
  have key : ∀ q : Nat × gSh, q.1 < 32 → ch_b a o c 32 (some q.2) (ch_ms a o c q.1 q.2) → ch_f a o q.1 q.2 → q.1 = k ∧ q.2 = w := by
    intro q q1 q2 q3
    have c1 := hmin q.1 q.2 q1 q3
    have c2 := q2.2 k w hk hf
    rw [← he] at c2
    have e1 : w.1 = q.2.1 := by
      rcases c1 with c1 | c1
      · rcases c2 with c2 | c2
        · exact absurd (Int32.lt_trans c1 c2) (Int32.lt_irrefl)
        · rw [c2.1] at c1
          exact absurd c1 Int32.lt_irrefl
      · rcases c2 with c2 | c2
        · rw [c1.1] at c2
          exact absurd c2 Int32.lt_irrefl
        · exact Int32.le_antisymm c1.2 c2.2
    obtain ⟨d1, d2⟩ := hu _ _ _ _ _ _ (by omega) (by omega) hf.1 q3.1 e1
    have ek : q.1 = k := by omega
    refine ⟨ek, ?_⟩
    rw [ek] at q3
    exact q3.inj hf
  have hc := Classical.choose_spec hp
  obtain ⟨k1, k2⟩ := key _ hc.1 hc.2.1 hc.2.2
  refine ⟨k / 8, k % 8, by omega, hf.1, hf.2, ?_⟩
  unfold ch_at
  refine (dif_pos hp).trans ?_
  rw [k1, k2]
/-- a plan's steps: f at most -/
noncomputable def w_steps (c : Int32) : Nat → aSt → Option gOd → Int32 → Int32 × aSt
  | 0, a, _, n => (n, a)
  | _ + 1, a, none, n => (n, a)
  | f + 1, a, some o, n =>
    match ch_at a o c with
    | none => w_steps c f a (o_best (o_nx (some o)) none a.2.2) n
    | some q => w_steps c f (t_cut a q.1 q.2.1 o.1.toNatClampNeg q.2.2 o).2 (o_best (o_nx (some o)) none (t_cut a q.1 q.2.1 o.1.toNatClampNeg q.2.2 o).2.2.2) (if (t_cut a q.1 q.2.1 o.1.toNatClampNeg q.2.2 o).1 = 10 then n else n + 1)
