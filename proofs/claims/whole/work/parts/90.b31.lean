/-! Laws: reckoning of sides and laws; printed by wip/whole/gen_b31.py. -/
def eqE (cod : Nat → Nat) (vl : Nat → Nat) (jn : Nat → Nat → Nat → Nat) (F j : Nat) : Bool × Nat := (decide ((tmE cod jn F (prE cod vl jn F 8) j).1 = (tmE cod jn F (prE cod vl jn F 8) ((tmE cod jn F (prE cod vl jn F 8) j).2 + 1)).1), (tmE cod jn F (prE cod vl jn F 8) ((tmE cod jn F (prE cod vl jn F 8) j).2 + 1)).2)
def sdE (cod : Nat → Nat) (vl : Nat → Nat) (jn : Nat → Nat → Nat → Nat) (F : Nat) : Nat → Nat → Bool × Nat
  | 0, j => eqE cod vl jn F j
  | f + 1, j => if cod (eqE cod vl jn F j).2 = 144 then ((eqE cod vl jn F j).1 && (sdE cod vl jn F f ((eqE cod vl jn F j).2 + 1)).1, (sdE cod vl jn F f ((eqE cod vl jn F j).2 + 1)).2) else eqE cod vl jn F j
/-- whether a law is broken -/
def lwB (cod : Nat → Nat) (vl : Nat → Nat) (jn : Nat → Nat → Nat → Nat) (F : Nat) : Bool := if cod (sdE cod vl jn F F 0).2 = 5 then (sdE cod vl jn F F ((sdE cod vl jn F F 0).2 + 1)).1 && !(sdE cod vl jn F F 0).1 else !(sdE cod vl jn F F 0).1
theorem PvC.eq {cod : Nat → Nat} {vl : Nat → Nat} {jn : Nat → Nat → Nat → Nat} {s u : LSt} {a b : Nat} (h : PvC cod vl jn s u (1 + 1) (fun r st => r (b :: a :: st))) : PvC cod vl jn s (u.1, u.2.1, u.2.2 ++ [7]) 0 (fun r st => decide (a = b) && r st) := by
  obtain ⟨a1, c1, a2, a3, a4, a5, a6⟩ := h
  refine ⟨a1, c1 ++ [7], by rw [a2, List.append_assoc], fun rest st => ?_, fun rest d => ?_, by rw [lc_app, lc_op (by decide)]; exact a5, fun q hq => ?_⟩
  · rw [List.append_assoc, a3]
    show rnC vl jn (7 :: rest) (b :: a :: st) = (decide (a = b) && rnC vl jn rest st)
    rw [rnC_e]
    by_cases e : a = b
    · rw [if_pos e, decide_eq_true e, Bool.true_and]
    · rw [if_neg e, decide_eq_false e, Bool.false_and]
  · rw [List.append_assoc, a4]
    exact wfC_e
  · rw [List.mem_append, a6 q hq]
    constructor
    · rintro (z | z)
      · exact z
      · rw [List.mem_singleton] at z
        omega
    · exact Or.inl
/-- a side: its truth, and the token behind it -/
def PvS (cod : Nat → Nat) (vl : Nat → Nat) (jn : Nat → Nat → Nat → Nat) (s u : LSt) (q : Bool × Nat) : Prop := q.2 = u.1 ∧ PvC cod vl jn s u 0 (fun r st => q.1 && r st)
theorem eqn_v {cod : Nat → Nat} {vl : Nat → Nat} {jn : Nat → Nat → Nat → Nat} {F : Nat} (s u : LSt) (e : eqn cod F s = (true, u)) : PvS cod vl jn s u (eqE cod vl jn F s.1) := by
  obtain ⟨r, hr⟩ : ∃ r, trm cod F (prt cod F 8) s = r := ⟨_, rfl⟩
  obtain ⟨r2, hr2⟩ : ∃ r2, trm cod F (prt cod F 8) (r.2.1 + 1, r.2.2.1, r.2.2.2) = r2 := ⟨_, rfl⟩
  rw [eqn_w hr hr2] at e
  by_cases hc : r.1 = true ∧ cod r.2.1 = 161
  · rw [if_pos hc] at e
    by_cases h2 : r2.1 = true
    · rw [if_pos h2] at e
      have e : _ = u := congrArg Prod.snd e
      subst e
      have hr : trm cod F (prt cod F 8) s = (true, r.2) := by rw [hr, ← hc.1]
      have hr2 : trm cod F (prt cod F 8) (r.2.1 + 1, r.2.2.1, r.2.2.2) = (true, r2.2) := by rw [hr2, ← h2]
      have v1 := trm_v (vl := vl) (jn := jn) (prt_v 8) _ _ hr
      have v2 := trm_v (vl := vl) (jn := jn) (prt_v 8) _ _ hr2
      unfold eqE
      rw [v1.1]
      exact ⟨v2.1, (v1.2.cat (by omega) v2.2).eq⟩
    · rw [if_neg h2] at e
      have := congrArg Prod.fst e
      cases this
  · rw [if_neg hc] at e
    have := congrArg Prod.fst e
    cases this
theorem sid_v {cod : Nat → Nat} {vl : Nat → Nat} {jn : Nat → Nat → Nat → Nat} {F : Nat} : ∀ f s u, (match eqn cod F s with
    | (true, u) => sdR cod F f u
    | (false, u) => (false, u)) = (true, u) → PvS cod vl jn s u (sdE cod vl jn F f s.1)
  | 0, s, u, e => by
    rcases hr : eqn cod F s with ⟨b, w⟩
    rw [hr] at e
    cases b
    · have := congrArg Prod.fst e
      cases this
    · have e : w = u := congrArg Prod.snd e
      subst e
      exact eqn_v s w hr
  | f + 1, s, u, e => by
    rcases hr : eqn cod F s with ⟨b, w⟩
    rw [hr] at e
    cases b
    · have := congrArg Prod.fst e
      cases this
    · dsimp only at e
      have v1 := eqn_v (vl := vl) (jn := jn) s w hr
      unfold sdE
      rw [v1.1]
      by_cases hc : cod w.1 = 144
      · rw [sdR_s hc] at e
        rw [if_pos hc]
        have v2 := sid_v (vl := vl) (jn := jn) f (w.1 + 1, w.2.1, w.2.2) u e
        refine ⟨v2.1, ?_⟩
        have h := v1.2.cat (by omega) v2.2
        have e2 : (fun r st => ((eqE cod vl jn F s.1).1 && (sdE cod vl jn F f (w.1 + 1)).1) && r st) = (fun (r : List Nat → Bool) (st : List Nat) => (eqE cod vl jn F s.1).1 && ((sdE cod vl jn F f (w.1 + 1)).1 && r st)) := by
          funext r st
          rw [Bool.and_assoc]
        show PvC cod vl jn s u 0 (fun r st => ((eqE cod vl jn F s.1).1 && (sdE cod vl jn F f (w.1 + 1)).1) && r st)
        rw [e2]
        exact h
      · rw [sdR_n hc] at e
        rw [if_neg hc]
        have e : w = u := congrArg Prod.snd e
        subst e
        exact ⟨v1.1, v1.2⟩
/-- what a law's code is good for -/
def LwV (cod : Nat → Nat) (N F : Nat) (w : List Nat) (i : Nat) : Prop := i ≤ w.length ∧ w.length < 64 ∧ wfC (w.take i) 0 = true ∧ wfC (w.drop i) 0 = true ∧ lcC w ≤ 32 ∧ (∀ k, k ≤ 3 → (k ∈ w ↔ ∃ j, j < N ∧ cod j = k + 1)) ∧ ∀ vl jn, lwB cod vl jn F = (rnC vl jn (w.drop i) [] && !rnC vl jn (w.take i) [])
theorem lw_v {cod : Nat → Nat} {N F : Nat} (hE : CdE cod N) (h : (lwR cod N F).1 = true) : LwV cod N F (lwR cod N F).2.2.1 (lwR cod N F).2.2.2 := by
  obtain ⟨r, hr⟩ : ∃ r, sid cod F (0, 0, []) = r := ⟨_, rfl⟩
  obtain ⟨r2, hr2⟩ : ∃ r2, sid cod F (r.2.1 + 1, r.2.2.1, r.2.2.2) = r2 := ⟨_, rfl⟩
  rw [lwR_w hr hr2] at h ⊢
  have hok := sid_ok (F := F) hE (0, 0, []) (Nat.zero_le _) (Nat.zero_le _)
  rw [hr] at hok
  obtain ⟨o1, o2, o3, o4, o5⟩ := hok
  by_cases hc : r.1 = true
  · rw [if_pos hc] at h ⊢
    have o5 := o5 hc
    simp only [List.length_nil] at o5
    have hr : sid cod F (0, 0, []) = (true, r.2) := by rw [hr, ← hc]
    have v1 : ∀ vl jn, PvS cod vl jn (0, 0, []) r.2 (sdE cod vl jn F F 0) := fun vl jn => sid_v F _ _ hr
    have hw1 : wfC r.2.2.2 0 = true ∧ lcC r.2.2.2 = r.2.2.1 ∧ (∀ k, k ≤ 3 → (k ∈ r.2.2.2 ↔ ∃ j, j < r.2.1 ∧ cod j = k + 1)) ∧ ∀ vl jn, rnC vl jn r.2.2.2 [] = (sdE cod vl jn F F 0).1 := by
      refine ⟨?_, ?_, fun k hk => ?_, fun vl jn => ?_⟩
      · obtain ⟨_, _, c, a2, a3, a4, a5, a6⟩ := v1 (fun _ => 0) (fun _ _ _ => 0)
        have := a4 [] 0
        rw [List.append_nil] at this
        rw [a2, List.nil_append, this]
        rfl
      · obtain ⟨_, _, c, a2, a3, a4, a5, a6⟩ := v1 (fun _ => 0) (fun _ _ _ => 0)
        rw [a2, List.nil_append]
        exact a5
      · obtain ⟨_, _, c, a2, a3, a4, a5, a6⟩ := v1 (fun _ => 0) (fun _ _ _ => 0)
        rw [a2, List.nil_append, a6 k hk]
        constructor
        · rintro ⟨j, _, h2, h3⟩
          exact ⟨j, h2, h3⟩
        · rintro ⟨j, h2, h3⟩
          exact ⟨j, Nat.zero_le _, h2, h3⟩
      · obtain ⟨_, _, c, a2, a3, a4, a5, a6⟩ := v1 vl jn
        have := a3 [] []
        rw [List.append_nil] at this
        rw [a2, List.nil_append, this]
        show ((sdE cod vl jn F F 0).1 && true) = _
        rw [Bool.and_true]
    by_cases h5 : cod r.2.1 = 5
    · rw [if_pos h5] at h ⊢
      by_cases h2 : r2.1 = true
      · rw [if_pos h2] at h ⊢
        have hlt := cd_in hE o2 (by omega)
        have hok2 := sid_ok (F := F) hE (r.2.1 + 1, r.2.2.1, r.2.2.2) (by show r.2.1 + 1 ≤ _; omega) o4
        rw [hr2] at hok2
        obtain ⟨p1, p2, p3, p4, p5⟩ := hok2
        have p5 := p5 h2
        dsimp only at p5
        have hr2 : sid cod F (r.2.1 + 1, r.2.2.1, r.2.2.2) = (true, r2.2) := by rw [hr2, ← h2]
        have v2 : ∀ vl jn, PvS cod vl jn (r.2.1 + 1, r.2.2.1, r.2.2.2) r2.2 (sdE cod vl jn F F (r.2.1 + 1)) := fun vl jn => sid_v F _ _ hr2
        have hN : r2.2.1 = N := of_decide_eq_true h
        have pre : ∃ c, r2.2.2.2 = r.2.2.2 ++ c := by
          obtain ⟨_, _, c, a2, _⟩ := v2 (fun _ => 0) (fun _ _ _ => 0)
          exact ⟨c, a2⟩
        obtain ⟨c0, hc0⟩ := pre
        have t1 : r2.2.2.2.take r.2.2.2.length = r.2.2.2 := by rw [hc0]; exact List.take_left' rfl
        have t2 : r2.2.2.2.drop r.2.2.2.length = c0 := by rw [hc0]; exact List.drop_left' rfl
        refine ⟨?_, ?_, ?_, ?_, ?_, fun k hk => ?_, fun vl jn => ?_⟩
        · dsimp only
          rw [hc0, List.length_append]
          omega
        · dsimp only
          omega
        · dsimp only
          rw [t1]
          exact hw1.1
        · dsimp only
          rw [t2]
          obtain ⟨_, _, c, a2, a3, a4, a5, a6⟩ := v2 (fun _ => 0) (fun _ _ _ => 0)
          have ec : c0 = c := List.append_cancel_left (hc0.symm.trans a2)
          have := a4 [] 0
          rw [List.append_nil] at this
          rw [ec, this]
          rfl
        · obtain ⟨_, _, c, a2, a3, a4, a5, a6⟩ := v2 (fun _ => 0) (fun _ _ _ => 0)
          dsimp only at a2 a5 ⊢
          rw [a2, lc_app, hw1.2.1]
          omega
        · obtain ⟨_, b1, c, a2, a3, a4, a5, a6⟩ := v2 (fun _ => 0) (fun _ _ _ => 0)
          dsimp only at a2 a6 b1 ⊢
          rw [a2, List.mem_append, a6 k hk, hw1.2.2.1 k hk, ← hN, tk_pre hk (by omega) (by omega)]
          constructor
          · rintro (⟨j, z1, z2⟩ | ⟨j, z0, z1, z2⟩)
            · exact ⟨j, by omega, z2⟩
            · exact ⟨j, z1, z2⟩
          · rintro ⟨j, z1, z2⟩
            rcases Nat.lt_or_ge j r.2.1 with z | z
            · exact Or.inl ⟨j, z, z2⟩
            · exact Or.inr ⟨j, z, z1, z2⟩
        · dsimp only
          rw [t1, t2, hw1.2.2.2]
          unfold lwB
          rw [(v1 vl jn).1, if_pos h5]
          obtain ⟨_, b1, c, a2, a3, a4, a5, a6⟩ := v2 vl jn
          have ec : c0 = c := List.append_cancel_left (hc0.symm.trans a2)
          have := a3 [] []
          rw [List.append_nil] at this
          rw [ec, this]
          show _ = (((sdE cod vl jn F F (r.2.1 + 1)).1 && true) && _)
          rw [Bool.and_true]
      · rw [if_neg h2] at h
        cases h
    · rw [if_neg h5] at h ⊢
      have hN : r.2.1 = N := of_decide_eq_true h
      refine ⟨Nat.le_refl _, by dsimp only; omega, ?_, ?_, by dsimp only; rw [hw1.2.1]; exact o4, fun k hk => by dsimp only; rw [hw1.2.2.1 k hk, hN], fun vl jn => ?_⟩
      · dsimp only
        rw [List.take_length]
        exact hw1.1
      · dsimp only
        rw [List.drop_length]
        rfl
      · dsimp only
        rw [List.take_length, List.drop_length, hw1.2.2.2]
        unfold lwB
        rw [(v1 vl jn).1, if_neg h5]
        rfl
  · rw [if_neg hc] at h
    cases h
