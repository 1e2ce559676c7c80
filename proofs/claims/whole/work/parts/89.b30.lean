/-! Laws: reckoning by tokens and by code agree; printed by wip/whole/gen_b30.py. -/
def rnC (vl : Nat → Nat) (jn : Nat → Nat → Nat → Nat) : List Nat → List Nat → Bool
  | [], _ => true
  | k :: w, st => if k ≤ 3 then rnC vl jn w (vl k :: st) else match st with
    | b :: a :: st' => if k = 7 then (if a = b then rnC vl jn w st' else false) else rnC vl jn w (jn k a b :: st')
    | _ => true
/-- the stack suffices -/
def wfC : List Nat → Nat → Bool
  | [], _ => true
  | k :: w, d => if k ≤ 3 then wfC w (d + 1) else if d < 2 then false else if k = 7 then wfC w (d - 2) else if k ≤ 6 then wfC w (d - 1) else false
def lcC (w : List Nat) : Nat := w.countP (fun k => decide (k ≤ 3))
theorem rnC_l {vl : Nat → Nat} {jn : Nat → Nat → Nat → Nat} {k : Nat} {w st : List Nat} (h : k ≤ 3) : rnC vl jn (k :: w) st = rnC vl jn w (vl k :: st) := by
  conv => lhs; unfold rnC
  rw [if_pos h]
theorem rnC_o {vl : Nat → Nat} {jn : Nat → Nat → Nat → Nat} {k a b : Nat} {w st : List Nat} (h : 4 ≤ k) (h7 : k ≤ 6) : rnC vl jn (k :: w) (b :: a :: st) = rnC vl jn w (jn k a b :: st) := by
  conv => lhs; unfold rnC
  rw [if_neg (by omega)]
  dsimp only
  rw [if_neg (by omega)]
theorem rnC_e {vl : Nat → Nat} {jn : Nat → Nat → Nat → Nat} {a b : Nat} {w st : List Nat} : rnC vl jn (7 :: w) (b :: a :: st) = if a = b then rnC vl jn w st else false := by
  conv => lhs; unfold rnC
  rw [if_neg (by omega)]
  dsimp only
  rw [if_pos rfl]
theorem wfC_l {k d : Nat} {w : List Nat} (h : k ≤ 3) : wfC (k :: w) d = wfC w (d + 1) := by
  conv => lhs; unfold wfC
  rw [if_pos h]
theorem wfC_o {k d : Nat} {w : List Nat} (h : 4 ≤ k) (h6 : k ≤ 6) : wfC (k :: w) (d + 1 + 1) = wfC w (d + 1) := by
  conv => lhs; unfold wfC
  rw [if_neg (by omega), if_neg (by omega), if_neg (by omega), if_pos h6]
  rfl
theorem wfC_e {d : Nat} {w : List Nat} : wfC (7 :: w) (d + 1 + 1) = wfC w d := by
  conv => lhs; unfold wfC
  rw [if_neg (by omega), if_neg (by omega), if_pos rfl]
  rfl
/-- by tokens: value and next token -/
def rsE (cod : Nat → Nat) (jn : Nat → Nat → Nat → Nat) (pe : Nat → Nat × Nat) : Nat → Nat × Nat → Nat × Nat
  | 0, q => q
  | f + 1, q => if isOp (cod q.2) = true then rsE cod jn pe f (jn (opN (cod q.2)) q.1 (pe (q.2 + 1)).1, (pe (q.2 + 1)).2) else q
def tmE (cod : Nat → Nat) (jn : Nat → Nat → Nat → Nat) (F : Nat) (pe : Nat → Nat × Nat) (j : Nat) : Nat × Nat := rsE cod jn pe F (pe j)
def prE (cod : Nat → Nat) (vl : Nat → Nat) (jn : Nat → Nat → Nat → Nat) (F : Nat) : Nat → Nat → Nat × Nat
  | 0, j => (vl (cod j - 1), j + 1)
  | e + 1, j => if cod j = 140 then ((tmE cod jn F (prE cod vl jn F e) (j + 1)).1, (tmE cod jn F (prE cod vl jn F e) (j + 1)).2 + 1) else (vl (cod j - 1), j + 1)
/-- from s to u a code was put down whose run is f, and what else we must know of it -/
def PvC (cod : Nat → Nat) (vl : Nat → Nat) (jn : Nat → Nat → Nat → Nat) (s u : LSt) (dd : Nat) (f : (List Nat → Bool) → List Nat → Bool) : Prop := s.1 ≤ u.1 ∧ ∃ c, u.2.2 = s.2.2 ++ c ∧ (∀ rest st, rnC vl jn (c ++ rest) st = f (rnC vl jn rest) st) ∧ (∀ rest d, wfC (c ++ rest) d = wfC rest (d + dd)) ∧ lcC c + s.2.1 = u.2.1 ∧ ∀ k, k ≤ 3 → (k ∈ c ↔ ∃ j, s.1 ≤ j ∧ j < u.1 ∧ cod j = k + 1)
def PvX (cod : Nat → Nat) (vl : Nat → Nat) (jn : Nat → Nat → Nat → Nat) (s u : LSt) (q : Nat × Nat) : Prop := q.2 = u.1 ∧ PvC cod vl jn s u 1 (fun r st => r (q.1 :: st))
theorem op46 {k : Nat} (h : isOp k = true) : 4 ≤ opN k ∧ opN k ≤ 6 := by
  rcases op_0 h with rfl | rfl | rfl <;> decide
theorem lc_app (a b : List Nat) : lcC (a ++ b) = lcC a + lcC b := List.countP_append
theorem lc_op {k : Nat} (h : 4 ≤ k) : lcC [k] = 0 := by
  unfold lcC
  rw [List.countP_singleton, if_neg (by simp; omega)]
theorem lc_lt {k : Nat} (h : k ≤ 3) : lcC [k] = 1 := by
  unfold lcC
  rw [List.countP_singleton, if_pos (by simpa using h)]
/-- a token that is no letter, put before -/
theorem tk_pre {cod : Nat → Nat} {a b k : Nat} (hk : k ≤ 3) (hab : a + 1 ≤ b) (h : 5 ≤ cod a) : (∃ j, a + 1 ≤ j ∧ j < b ∧ cod j = k + 1) ↔ ∃ j, a ≤ j ∧ j < b ∧ cod j = k + 1 := by
  constructor
  · rintro ⟨j, h1, h2, h3⟩
    exact ⟨j, by omega, h2, h3⟩
  · rintro ⟨j, h1, h2, h3⟩
    rcases Nat.lt_or_ge a j with q | q
    · exact ⟨j, by omega, h2, h3⟩
    · have : j = a := by omega
      subst this
      omega
theorem tk_suf {cod : Nat → Nat} {a b k : Nat} (hk : k ≤ 3) (h : 5 ≤ cod b) : (∃ j, a ≤ j ∧ j < b ∧ cod j = k + 1) ↔ ∃ j, a ≤ j ∧ j < b + 1 ∧ cod j = k + 1 := by
  constructor
  · rintro ⟨j, h1, h2, h3⟩
    exact ⟨j, h1, by omega, h3⟩
  · rintro ⟨j, h1, h2, h3⟩
    rcases Nat.lt_or_ge j b with q | q
    · exact ⟨j, h1, q, h3⟩
    · have : j = b := by omega
      subst this
      omega
theorem tk_cat {cod : Nat → Nat} {a b c k : Nat} (h1 : a ≤ b) (h2 : b ≤ c) : (∃ j, a ≤ j ∧ j < c ∧ cod j = k + 1) ↔ (∃ j, a ≤ j ∧ j < b ∧ cod j = k + 1) ∨ ∃ j, b ≤ j ∧ j < c ∧ cod j = k + 1 := by
  constructor
  · rintro ⟨j, q1, q2, q3⟩
    rcases Nat.lt_or_ge j b with q | q
    · exact Or.inl ⟨j, q1, q, q3⟩
    · exact Or.inr ⟨j, q, q2, q3⟩
  · rintro (⟨j, q1, q2, q3⟩ | ⟨j, q1, q2, q3⟩)
    · exact ⟨j, q1, by omega, q3⟩
    · exact ⟨j, by omega, q2, q3⟩
/-- one behind the other, over a token that is no letter -/
theorem PvC.cat {cod : Nat → Nat} {vl : Nat → Nat} {jn : Nat → Nat → Nat → Nat} {s u v : LSt} {d1 d2 : Nat} {f g : (List Nat → Bool) → List Nat → Bool} (h1 : PvC cod vl jn s u d1 f) (hc : 5 ≤ cod u.1) (h2 : PvC cod vl jn (u.1 + 1, u.2.1, u.2.2) v d2 g) : PvC cod vl jn s v (d1 + d2) (fun r => f (g r)) := by
  obtain ⟨a1, c1, a2, a3, a4, a5, a6⟩ := h1
  obtain ⟨b1, c2, b2, b3, b4, b5, b6⟩ := h2
  dsimp only at b1 b2 b5 b6
  refine ⟨by omega, c1 ++ c2, by rw [b2, a2, List.append_assoc], fun rest st => ?_, fun rest d => ?_, by rw [lc_app]; omega, fun k hk => ?_⟩
  · rw [List.append_assoc, a3]
    exact congrArg (fun z => f z st) (funext fun st => b3 rest st)
  · rw [List.append_assoc, a4, b4, Nat.add_assoc]
  · rw [List.mem_append, a6 k hk, b6 k hk, tk_cat a1 (show u.1 ≤ v.1 by omega), tk_pre hk (by omega) hc]
theorem PvC.op {cod : Nat → Nat} {vl : Nat → Nat} {jn : Nat → Nat → Nat → Nat} {s u : LSt} {k a b : Nat} (h : PvC cod vl jn s u (1 + 1) (fun r st => r (b :: a :: st))) (h4 : 4 ≤ k) (h6 : k ≤ 6) : PvC cod vl jn s (u.1, u.2.1, u.2.2 ++ [k]) 1 (fun r st => r (jn k a b :: st)) := by
  obtain ⟨a1, c1, a2, a3, a4, a5, a6⟩ := h
  refine ⟨a1, c1 ++ [k], by rw [a2, List.append_assoc], fun rest st => ?_, fun rest d => ?_, by rw [lc_app, lc_op h4]; exact a5, fun q hq => ?_⟩
  · rw [List.append_assoc, a3]
    exact rnC_o h4 h6
  · rw [List.append_assoc, a4]
    exact wfC_o h4 h6
  · rw [List.mem_append, a6 q hq]
    constructor
    · rintro (z | z)
      · exact z
      · rw [List.mem_singleton] at z
        omega
    · exact Or.inl
theorem rst_v {cod : Nat → Nat} {vl : Nat → Nat} {jn : Nat → Nat → Nat → Nat} {pa : LSt → Bool × LSt} {pe : Nat → Nat × Nat} (hp : ∀ s u, pa s = (true, u) → PvX cod vl jn s u (pe s.1)) : ∀ f s0 s q u, PvX cod vl jn s0 s q → rst cod pa f s = (true, u) → PvX cod vl jn s0 u (rsE cod jn pe f q)
  | 0, s0, s, q, u, h, e => by
    have e : s = u := by
      have := congrArg Prod.snd e
      exact this
    subst e
    exact h
  | f + 1, s0, s, q, u, h, e => by
    by_cases hop : isOp (cod s.1) = true
    · rw [rst_s hop] at e
      rcases hr : pa (s.1 + 1, s.2.1, s.2.2) with ⟨b, w⟩
      rw [hr] at e
      cases b
      · have := congrArg Prod.fst e
        cases this
      · dsimp only at e
        have h2 := hp _ _ hr
        dsimp only at h2
        have hq : q.2 = s.1 := h.1
        conv => arg 6; unfold rsE
        rw [if_pos (by rw [hq]; exact hop), hq]
        refine rst_v hp f s0 (w.1, w.2.1, w.2.2 ++ [opN (cod s.1)]) _ u ⟨h2.1, ?_⟩ e
        have := op_0 hop
        exact ((h.2.cat (by omega) h2.2).op (op46 hop).1 (op46 hop).2)
    · rw [rst_n hop] at e
      have e : s = u := congrArg Prod.snd e
      subst e
      have hq : q.2 = s.1 := h.1
      conv => arg 6; unfold rsE
      rw [if_neg (by rw [hq]; exact hop)]
      exact h
theorem trm_v {cod : Nat → Nat} {vl : Nat → Nat} {jn : Nat → Nat → Nat → Nat} {F : Nat} {pa : LSt → Bool × LSt} {pe : Nat → Nat × Nat} (hp : ∀ s u, pa s = (true, u) → PvX cod vl jn s u (pe s.1)) (s u : LSt) (e : trm cod F pa s = (true, u)) : PvX cod vl jn s u (tmE cod jn F pe s.1) := by
  unfold trm at e
  rcases hr : pa s with ⟨b, w⟩
  rw [hr] at e
  cases b
  · have := congrArg Prod.fst e
    cases this
  · exact rst_v hp F s w _ u (hp s w hr) e
theorem lt_v {cod : Nat → Nat} {vl : Nat → Nat} {jn : Nat → Nat → Nat → Nat} {s : LSt} (h : isLt (cod s.1) = true) : PvX cod vl jn s (s.1 + 1, s.2.1 + 1, s.2.2 ++ [cod s.1 - 1]) (vl (cod s.1 - 1), s.1 + 1) := by
  have hb := of_decide_eq_true h
  refine ⟨rfl, Nat.le_succ _, [cod s.1 - 1], rfl, fun rest st => rnC_l (by omega), fun rest d => wfC_l (by omega), by rw [lc_lt (by omega)]; dsimp only; omega, fun k hk => ?_⟩
  rw [List.mem_singleton]
  constructor
  · intro e
    exact ⟨s.1, Nat.le_refl _, Nat.lt_succ_self _, by omega⟩
  · rintro ⟨j, h1, h2, h3⟩
    have h2 : j < s.1 + 1 := h2
    have : j = s.1 := by omega
    subst this
    omega
theorem PvX.br {cod : Nat → Nat} {vl : Nat → Nat} {jn : Nat → Nat → Nat → Nat} {s u : LSt} {q : Nat × Nat} (h : PvX cod vl jn (s.1 + 1, s.2.1, s.2.2) u q) (h1 : cod s.1 = 140) (h2 : cod u.1 = 141) : PvX cod vl jn s (u.1 + 1, u.2.1, u.2.2) (q.1, q.2 + 1) := by
  obtain ⟨a0, a1, c1, a2, a3, a4, a5, a6⟩ := h
  dsimp only at a1 a2 a5 a6
  refine ⟨by dsimp only; omega, by dsimp only; omega, c1, a2, a3, a4, a5, fun k hk => ?_⟩
  rw [a6 k hk, tk_pre hk (by omega) (by omega), tk_suf hk (by omega)]
theorem prt_v {cod : Nat → Nat} {vl : Nat → Nat} {jn : Nat → Nat → Nat → Nat} {F : Nat} : ∀ e s u, prt cod F e s = (true, u) → PvX cod vl jn s u (prE cod vl jn F e s.1) := by
  intro e
  induction e with
  | zero =>
    intro s u h
    by_cases ha : isLt (cod s.1) = true ∧ s.2.1 < 32
    · rw [pt_lt ha] at h
      have h : _ = u := congrArg Prod.snd h
      subst h
      exact lt_v ha.1
    · have hpz : prt cod F 0 s = (false, s) := by unfold prt; rw [if_neg ha]
      rw [hpz] at h
      have := congrArg Prod.fst h
      cases this
  | succ e ih =>
    intro s u h
    by_cases ha : isLt (cod s.1) = true ∧ s.2.1 < 32
    · rw [pt_lt ha] at h
      have h : _ = u := congrArg Prod.snd h
      subst h
      unfold prE
      rw [if_neg (by have := of_decide_eq_true ha.1; omega)]
      exact lt_v ha.1
    · by_cases hb : cod s.1 = 140
      · obtain ⟨r, hr⟩ : ∃ r, trm cod F (prt cod F e) (s.1 + 1, s.2.1, s.2.2) = r := ⟨_, rfl⟩
        rw [pt_br ha hb hr] at h
        by_cases hc : r.1 = true ∧ cod r.2.1 = 141
        · rw [if_pos hc] at h
          have h : _ = u := congrArg Prod.snd h
          subst h
          unfold prE
          rw [if_pos hb]
          have hr : trm cod F (prt cod F e) (s.1 + 1, s.2.1, s.2.2) = (true, r.2) := by rw [hr, ← hc.1]
          exact (trm_v ih _ _ hr).br hb hc.2
        · rw [if_neg hc] at h
          have := congrArg Prod.fst h
          cases this
      · rw [pt_no ha hb] at h
        have := congrArg Prod.fst h
        cases this
