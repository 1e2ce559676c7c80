/-! Told cells: theory for the class; printed by wip/whole/gen_c11.py. -/
def FoI (n : Nat) (T : Nat → Option Nat) (rw cl op : Nat → Nat) (m : Nat) : Prop := (∀ i, i < m → op i / 6 < n ∧ op i % 6 < n ∧ T (n * (op i / 6) + op i % 6) = none) ∧ (∀ i j, i < m → j < m → op i = op j → i = j) ∧ (∀ q, q < n * n → T q = none → ∃ i, i < m ∧ op i = 6 * (q / n) + q % n) ∧ (∀ x, x < n → rw x < 64 ∧ ∀ v, (rw x).testBit v = true ↔ ∃ y, y < n ∧ T (n * x + y) = some v) ∧ (∀ y, y < n → cl y < 64 ∧ ∀ v, (cl y).testBit v = true ↔ ∃ x, x < n ∧ T (n * x + y) = some v) ∧ (∀ q u, q < n * n → T q = some u → u < n) ∧ (∀ x y z u, x < n → y < n → z < n → T (n * x + y) = some u → T (n * x + z) = some u → y = z) ∧ ∀ x y z u, x < n → y < n → z < n → T (n * x + z) = some u → T (n * y + z) = some u → x = y
theorem FoI.leaf {n : Nat} {T : Nat → Option Nat} {rw cl op : Nat → Nat} (h : FoI n T rw cl op 0) (hn : 0 < n) : nB n T = 1 := by
  obtain ⟨h1, h2, h3, h4, h5, h6, h7, h8⟩ := h
  have hs : ∀ q, q < n * n → T q = some ((T q).getD 0) := fun q hq => by
    cases e : T q with
    | none => obtain ⟨i, hi, _⟩ := h3 q hq e; omega
    | some u => rfl
  refine nB_1 (c := fun q => (T q).getD 0) hn hs ⟨fun q hq => h6 q _ hq (hs q hq), fun x y z hx hy hz e => ?_, fun x y z hx hy hz e => ?_⟩
  · have e : (T (n * x + y)).getD 0 = (T (n * x + z)).getD 0 := e
    have a := hs _ (cu_lt hx hy)
    rw [e] at a
    exact h7 x y z _ hx hy hz a (hs _ (cu_lt hx hz))
  · have e : (T (n * x + z)).getD 0 = (T (n * y + z)).getD 0 := e
    have a := hs _ (cu_lt hx hz)
    rw [e] at a
    exact h8 x y z _ hx hy hz a (hs _ (cu_lt hy hz))
def xchN (op : Nat → Nat) (i j : Nat) : Nat → Nat := upN (upN op i (op j)) j (op i)
def xchI (i j k : Nat) : Nat := if k = j then i else if k = i then j else k
theorem xchN_at {op : Nat → Nat} {i j k : Nat} : xchN op i j k = op (xchI i j k) := by
  unfold xchN xchI
  by_cases e : k = j
  · rw [if_pos e, e, upN_s]
  · rw [if_neg e, upN_n e]
    by_cases e2 : k = i
    · rw [if_pos e2, e2, upN_s]
    · rw [if_neg e2, upN_n e2]
theorem xchI_lt {i j k m : Nat} (hi : i < m) (hj : j < m) (hk : k < m) : xchI i j k < m := by
  unfold xchI
  split
  · exact hi
  · split
    · exact hj
    · exact hk
theorem xchI_i {i j k : Nat} : xchI i j (xchI i j k) = k := by
  unfold xchI
  by_cases e : k = j
  · rw [if_pos e]
    by_cases e2 : i = j
    · rw [if_pos e2, e2, e]
    · rw [if_neg e2, if_pos rfl, e]
  · rw [if_neg e]
    by_cases e2 : k = i
    · rw [if_pos e2, if_pos rfl, e2]
    · rw [if_neg e2, if_neg e, if_neg e2]
theorem FoI.sw {n : Nat} {T : Nat → Option Nat} {rw cl op : Nat → Nat} {m i j : Nat} (h : FoI n T rw cl op m) (hi : i < m) (hj : j < m) : FoI n T rw cl (xchN op i j) m := by
  refine ⟨fun k hk => ?_, fun k l hk hl e => ?_, fun q hq e => ?_, h.2.2.2⟩
  · rw [xchN_at]
    exact h.1 _ (xchI_lt hi hj hk)
  · rw [xchN_at, xchN_at] at e
    have := h.2.1 _ _ (xchI_lt hi hj hk) (xchI_lt hi hj hl) e
    rw [← xchI_i (i := i) (j := j) (k := k), this, xchI_i]
  · obtain ⟨k, hk, e2⟩ := h.2.2.1 q hq e
    exact ⟨xchI i j k, xchI_lt hi hj hk, by rw [xchN_at, xchI_i]; exact e2⟩
theorem bt_64 : ∀ a, a < 64 → ∀ v, v < 6 → a ||| 1 * 2 ^ v < 64 := by decide +kernel
theorem cx_i {n x y u v : Nat} (hy : y < n) (hv : v < n) : n * x + y = n * u + v ↔ x = u ∧ y = v := ⟨dm_i hy hv, fun h => by rw [h.1, h.2]⟩
theorem FoI.put {n : Nat} {T : Nat → Option Nat} {rw cl op : Nat → Nat} {m v x y : Nat} (h : FoI n T rw cl op (m + 1)) (hn6 : n ≤ 6) (hv : v < n) (hx : op m / 6 = x) (hy : op m % 6 = y) (hb : (rw x ||| cl y) &&& 1 * 2 ^ v = 0) : FoI n (seT T (n * x + y) v) (upN rw x (rw x ||| 1 * 2 ^ v)) (upN cl y (cl y ||| 1 * 2 ^ v)) op m := by
  obtain ⟨h1, h2, h3, h4, h5, h6, h7, h8⟩ := h
  obtain ⟨a1, a2, a3⟩ := h1 m (by omega)
  rw [hx] at a1 a3
  rw [hy] at a2 a3
  rw [and_p, Nat.testBit_or, Bool.or_eq_false_iff] at hb
  have hr : ∀ z, z < n → ¬ T (n * x + z) = some v := fun z hz e => by
    have := ((h4 x a1).2 v).mpr ⟨z, hz, e⟩
    rw [hb.1] at this
    cases this
  have hc : ∀ z, z < n → ¬ T (n * z + y) = some v := fun z hz e => by
    have := ((h5 y a2).2 v).mpr ⟨z, hz, e⟩
    rw [hb.2] at this
    cases this
  refine ⟨fun i hi => ?_, fun i j hi hj e => h2 i j (by omega) (by omega) e, fun q hq e => ?_, fun z hz => ?_, fun z hz => ?_, fun q u hq e => ?_, fun a b d u ha hb2 hd e1 e2 => ?_, fun a b d u ha hb2 hd e1 e2 => ?_⟩
  · obtain ⟨b1, b2, b3⟩ := h1 i (by omega)
    refine ⟨b1, b2, ?_⟩
    rw [seT_n]
    · exact b3
    · intro e
      have e := (cx_i b2 a2).mp e
      have : op i = op m := by omega
      have := h2 i m (by omega) (by omega) this
      omega
  · by_cases eq : q = n * x + y
    · rw [eq, seT_s] at e
      cases e
    · rw [seT_n eq] at e
      obtain ⟨i, hi, e2⟩ := h3 q hq e
      refine ⟨i, ?_, e2⟩
      rcases Nat.lt_or_ge i m with w | w
      · exact w
      · exfalso
        have : i = m := by omega
        rw [this] at e2
        apply eq
        have hq6 : q % n < 6 := by have := dm_ml hq; omega
        have e3 : x = q / n := by omega
        have e4 : y = q % n := by omega
        rw [e3, e4, dm_q]
  · by_cases e : z = x
    · rw [e, upN_s]
      refine ⟨bt_64 _ (h4 x a1).1 v (by omega), fun w => ?_⟩
      rw [Nat.testBit_or, Bool.or_eq_true, (h4 x a1).2 w, Nat.one_mul, Nat.testBit_two_pow, decide_eq_true_iff]
      constructor
      · rintro (⟨b, hb3, e2⟩ | e2)
        · refine ⟨b, hb3, ?_⟩
          rw [seT_n (fun q => by rw [q, a3] at e2; cases e2)]
          exact e2
        · exact ⟨y, a2, by rw [seT_s, e2]⟩
      · rintro ⟨b, hb3, e2⟩
        by_cases q : n * x + b = n * x + y
        · rw [q, seT_s] at e2
          exact Or.inr (Option.some.inj e2)
        · rw [seT_n q] at e2
          exact Or.inl ⟨b, hb3, e2⟩
    · rw [upN_n e]
      refine ⟨(h4 z hz).1, fun w => ?_⟩
      rw [(h4 z hz).2 w]
      have key : ∀ b, b < n → seT T (n * x + y) v (n * z + b) = T (n * z + b) := fun b hb3 => seT_n (fun q => e ((cx_i hb3 a2).mp q).1)
      constructor
      · rintro ⟨b, hb3, e2⟩
        exact ⟨b, hb3, by rw [key b hb3]; exact e2⟩
      · rintro ⟨b, hb3, e2⟩
        rw [key b hb3] at e2
        exact ⟨b, hb3, e2⟩
  · by_cases e : z = y
    · rw [e, upN_s]
      refine ⟨bt_64 _ (h5 y a2).1 v (by omega), fun w => ?_⟩
      rw [Nat.testBit_or, Bool.or_eq_true, (h5 y a2).2 w, Nat.one_mul, Nat.testBit_two_pow, decide_eq_true_iff]
      constructor
      · rintro (⟨b, hb3, e2⟩ | e2)
        · refine ⟨b, hb3, ?_⟩
          rw [seT_n (fun q => by rw [q, a3] at e2; cases e2)]
          exact e2
        · exact ⟨x, a1, by rw [seT_s, e2]⟩
      · rintro ⟨b, hb3, e2⟩
        by_cases q : n * b + y = n * x + y
        · rw [q, seT_s] at e2
          exact Or.inr (Option.some.inj e2)
        · rw [seT_n q] at e2
          exact Or.inl ⟨b, hb3, e2⟩
    · rw [upN_n e]
      refine ⟨(h5 z hz).1, fun w => ?_⟩
      rw [(h5 z hz).2 w]
      have key : ∀ b, seT T (n * x + y) v (n * b + z) = T (n * b + z) := fun b => seT_n (fun q => e ((cx_i hz a2).mp q).2)
      constructor
      · rintro ⟨b, hb3, e2⟩
        exact ⟨b, hb3, by rw [key b]; exact e2⟩
      · rintro ⟨b, hb3, e2⟩
        rw [key b] at e2
        exact ⟨b, hb3, e2⟩
  · by_cases q2 : q = n * x + y
    · rw [q2, seT_s] at e
      cases e
      exact hv
    · rw [seT_n q2] at e
      exact h6 q u hq e
  · by_cases q1 : n * a + b = n * x + y
    · by_cases q2 : n * a + d = n * x + y
      · omega
      · exfalso
        rw [q1, seT_s] at e1
        rw [seT_n q2] at e2
        have := ((cx_i hb2 a2).mp q1).1
        rw [this] at e2
        exact hr d hd (by rw [e2, ← e1])
    · by_cases q2 : n * a + d = n * x + y
      · exfalso
        rw [q2, seT_s] at e2
        rw [seT_n q1] at e1
        have := ((cx_i hd a2).mp q2).1
        rw [this] at e1
        exact hr b hb2 (by rw [e1, ← e2])
      · rw [seT_n q1] at e1
        rw [seT_n q2] at e2
        exact h7 a b d u ha hb2 hd e1 e2
  · by_cases q1 : n * a + d = n * x + y
    · by_cases q2 : n * b + d = n * x + y
      · exact (dm_i hd hd (q1.trans q2.symm)).1
      · exfalso
        rw [q1, seT_s] at e1
        rw [seT_n q2] at e2
        have := ((cx_i hd a2).mp q1).2
        rw [this] at e2
        exact hc b hb2 (by rw [e2, ← e1])
    · by_cases q2 : n * b + d = n * x + y
      · exfalso
        rw [q2, seT_s] at e2
        rw [seT_n q1] at e1
        have := ((cx_i hd a2).mp q2).2
        rw [this] at e1
        exact hc a ha (by rw [e1, ← e2])
      · rw [seT_n q1] at e1
        rw [seT_n q2] at e2
        exact h8 a b d u ha hb2 hd e1 e2
theorem FoI.us {n : Nat} {T : Nat → Option Nat} {rw cl op : Nat → Nat} {m v x y : Nat} (h : FoI n T rw cl op (m + 1)) (hx : op m / 6 = x) (hy : op m % 6 = y) (hb : ¬ (rw x ||| cl y) &&& 1 * 2 ^ v = 0) : nB n (seT T (n * x + y) v) = 0 := by
  obtain ⟨a1, a2, a3⟩ := h.1 m (by omega)
  rw [hx] at a1 a3
  rw [hy] at a2 a3
  rw [and_p, Bool.not_eq_false, Nat.testBit_or, Bool.or_eq_true, (h.2.2.2.1 x a1).2 v, (h.2.2.2.2.1 y a2).2 v] at hb
  rcases hb with ⟨b, hb, e⟩ | ⟨b, hb, e⟩
  · have hne : n * x + b ≠ n * x + y := fun q => by rw [q, a3] at e; cases e
    exact nB_cl (p := n * x + b) (q := n * x + y) (by rw [seT_n hne]; exact e) seT_s hne (Or.inl (by rw [dm_d hb, dm_d a2])) (cu_lt a1 hb) (cu_lt a1 a2)
  · have hne : n * b + y ≠ n * x + y := fun q => by rw [q, a3] at e; cases e
    exact nB_cl (p := n * b + y) (q := n * x + y) (by rw [seT_n hne]; exact e) seT_s hne (Or.inr (by rw [dm_m a2, dm_m a2])) (cu_lt hb a2) (cu_lt a1 a2)
theorem FoI.br {n : Nat} {T : Nat → Option Nat} {rw cl op : Nat → Nat} {m x y : Nat} (h : FoI n T rw cl op (m + 1)) (hx : op m / 6 = x) (hy : op m % 6 = y) : nB n T = SM (fun v => nB n (seT T (n * x + y) v)) n := by
  obtain ⟨a1, a2, a3⟩ := h.1 m (by omega)
  rw [hx] at a1 a3
  rw [hy] at a2 a3
  exact nB_br a3 (cu_lt a1 a2)
