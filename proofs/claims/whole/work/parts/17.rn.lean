/-! RUNS: from here the end is reached with Q; k: how deep the calls may go. -/
theorem am_exec_more : ∀ (f : Nat) {d y pc : Nat} {al : AL} {st : List Value} {h : AH} {x : Option Value × AH}, am_exec f d y pc al st h = some x → am_exec (f + 1) d y pc al st h = some x
  | 0, d, y, pc, al, st, h, x, e => by cases e
  | f + 1, d, y, pc, al, st, h, x, e => by
    rw [am_exec] at e
    rw [am_exec]
    cases hs : am_step y pc al st h with
    | none => rw [hs] at e; cases e
    | some a =>
      rw [hs] at e
      rcases a with ⟨pc', al', st', h'⟩ | ⟨y', as, st'⟩ | r
      · exact am_exec_more f e
      · cases d with
        | zero => cases e
        | succ d1 =>
          simp only at e ⊢
          by_cases hn : (am_en as (am_L y')).length = am_L y'
          · simp only [hn, if_true] at e ⊢
            cases hc : am_exec f d1 y' 0 (am_en as (am_L y')) [] h with
            | none => rw [hc] at e; cases e
            | some q =>
              rw [hc] at e
              rw [am_exec_more f hc]
              exact am_exec_more f e
          · rw [if_neg hn] at e
            cases e
      · exact e
theorem am_exec_le {f f' d y pc : Nat} {al : AL} {st : List Value} {h : AH} {x : Option Value × AH} (hf : f ≤ f') (e : am_exec f d y pc al st h = some x) : am_exec f' d y pc al st h = some x := by
  obtain ⟨n, rfl⟩ := Nat.exists_eq_add_of_le hf
  induction n with
  | zero => exact e
  | succ n ih => exact am_exec_more _ (ih (Nat.le_add_right _ _))
def RN (k y pc : Nat) (al : AL) (st : List Value) (h : AH) (Q : Option Value → AH → Prop) : Prop := ∀ d, k ≤ d → ∃ (f : Nat) (r : Option Value) (h' : AH), am_exec f d y pc al st h = some (r, h') ∧ Q r h'
section RN
variable {k y pc pc' len : Nat} {al al' : AL} {st st' : List Value} {h h' : AH} {Q P : Option Value → AH → Prop} {i : Instr}
theorem am_step_eq (hd : decode (am_b y) pc = .ok (i, len)) : am_step y pc al st h = am_ins y i len pc al st h := by
  unfold am_step
  rw [hd]
theorem rn_nx (hd : decode (am_b y) pc = .ok (i, len)) (hs : am_ins y i len pc al st h = some (.inl (pc', al', st', h'))) (kk : RN k y pc' al' st' h' Q) : RN k y pc al st h Q := by
  intro d hd1
  obtain ⟨f, r, h1, e, q⟩ := kk d hd1
  refine ⟨f + 1, r, h1, ?_, q⟩
  rw [am_exec, am_step_eq hd, hs]
  exact e
theorem rn_rt {r : Option Value} (hd : decode (am_b y) pc = .ok (i, len)) (hs : am_ins y i len pc al st h = some (.inr (.inr r))) (q : Q r h) : RN k y pc al st h Q := by
  intro d hd1
  refine ⟨1, r, h, ?_, q⟩
  rw [am_exec, am_step_eq hd, hs]
theorem rn_ca {z : Nat} {as : List Value} (hd : decode (am_b y) pc = .ok (i, len)) (hs : am_ins y i len pc al st h = some (.inr (.inl (z, as, st')))) (hn : (am_en as (am_L z)).length = am_L z) (hc : RN k z 0 (am_en as (am_L z)) [] h P) (kk : ∀ r h', P r h' → RN (k + 1) y (pc + 3) al (r.toList ++ st') h' Q) : RN (k + 1) y pc al st h Q := by
  intro d hd1
  obtain ⟨d1, rfl⟩ : ∃ d1, d = d1 + 1 := ⟨d - 1, by omega⟩
  obtain ⟨f1, r1, h1, e1, q1⟩ := hc d1 (by omega)
  obtain ⟨f2, r2, h2, e2, q2⟩ := kk r1 h1 q1 (d1 + 1) hd1
  refine ⟨(f1 + f2) + 1, r2, h2, ?_, q2⟩
  rw [am_exec, am_step_eq hd, hs]
  simp only [hn, if_true, am_exec_le (Nat.le_add_right f1 f2) e1]
  exact am_exec_le (Nat.le_add_left f2 f1) e2
theorem rn_wk {k' : Nat} (hk : k ≤ k') (kk : RN k y pc al st h Q) : RN k' y pc al st h Q := fun d hd => kk d (Nat.le_trans hk hd)
theorem rn_cq (kk : RN k y pc al st h P) (hq : ∀ r h', P r h' → Q r h') : RN k y pc al st h Q := by
  intro d hd
  obtain ⟨f, r, h1, e, q⟩ := kk d hd
  exact ⟨f, r, h1, e, hq r h1 q⟩
/-- a run says what the heap's length can't fall below -/
theorem rn_gr (kk : RN k y pc al st h Q) : RN k y pc al st h (fun r h' => Q r h' ∧ am_Gr h h') := by
  intro d hd
  obtain ⟨f, r, h1, e, q⟩ := kk d hd
  exact ⟨f, r, h1, e, q, am_exec_gr f e⟩
end RN
