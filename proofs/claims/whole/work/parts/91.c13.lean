/-! Told cells: the class sets out and tallies; printed by wip/whole/gen_c13.py. -/
/-- told cells ahead of k, set out -/
def SoI (n : Nat) (T : Nat → Option Nat) (k : Nat) (rw cl op : Nat → Nat) (m : Nat) : Prop := m ≤ k ∧ (∀ i, i < m → op i / 6 < n ∧ op i % 6 < n ∧ n * (op i / 6) + op i % 6 < k ∧ T (n * (op i / 6) + op i % 6) = none) ∧ (∀ i j, i < m → j < m → op i = op j → i = j) ∧ (∀ q, q < k → T q = none → ∃ i, i < m ∧ op i = 6 * (q / n) + q % n) ∧ (∀ x, x < n → rw x < 64 ∧ ∀ v, (rw x).testBit v = true ↔ ∃ y, y < n ∧ n * x + y < k ∧ T (n * x + y) = some v) ∧ (∀ y, y < n → cl y < 64 ∧ ∀ v, (cl y).testBit v = true ↔ ∃ x, x < n ∧ n * x + y < k ∧ T (n * x + y) = some v) ∧ (∀ x y z u, x < n → y < n → z < n → n * x + y < k → n * x + z < k → T (n * x + y) = some u → T (n * x + z) = some u → y = z) ∧ ∀ x y z u, x < n → y < n → z < n → n * x + z < k → n * y + z < k → T (n * x + z) = some u → T (n * y + z) = some u → x = y
theorem SoI.o {n : Nat} {T : Nat → Option Nat} {op : Nat → Nat} : SoI n T 0 (fun _ => 0) (fun _ => 0) op 0 := by
  refine ⟨Nat.le_refl _, fun i h => absurd h (Nat.not_lt_zero i), fun i j h => absurd h (Nat.not_lt_zero i), fun q h => absurd h (Nat.not_lt_zero q), fun x _ => ⟨show (0 : Nat) < 64 by decide, fun v => ?_⟩, fun x _ => ⟨show (0 : Nat) < 64 by decide, fun v => ?_⟩, fun x y z u _ _ _ h => absurd h (Nat.not_lt_zero _), fun x y z u _ _ _ h => absurd h (Nat.not_lt_zero _)⟩
  · rw [Nat.zero_testBit]
    exact ⟨fun e => (absurd e Bool.false_ne_true), fun ⟨_, _, h, _⟩ => absurd h (Nat.not_lt_zero _)⟩
  · rw [Nat.zero_testBit]
    exact ⟨fun e => (absurd e Bool.false_ne_true), fun ⟨_, _, h, _⟩ => absurd h (Nat.not_lt_zero _)⟩
theorem SoI.fo {n : Nat} {T : Nat → Option Nat} {rw cl op : Nat → Nat} {m : Nat} (h : SoI n T (n * n) rw cl op m) (hT : ∀ q u, q < n * n → T q = some u → u < n) : FoI n T rw cl op m := by
  obtain ⟨h0, h1, h2, h3, h4, h5, h7, h8⟩ := h
  refine ⟨fun i hi => ⟨(h1 i hi).1, (h1 i hi).2.1, (h1 i hi).2.2.2⟩, h2, h3, fun x hx => ⟨(h4 x hx).1, fun v => ?_⟩, fun y hy => ⟨(h5 y hy).1, fun v => ?_⟩, hT, fun x y z u hx hy hz a b => h7 x y z u hx hy hz (cu_lt hx hy) (cu_lt hx hz) a b, fun x y z u hx hy hz a b => h8 x y z u hx hy hz (cu_lt hx hz) (cu_lt hy hz) a b⟩
  · rw [(h4 x hx).2 v]
    exact ⟨fun ⟨y, a, _, b⟩ => ⟨y, a, b⟩, fun ⟨y, a, b⟩ => ⟨y, a, cu_lt hx a, b⟩⟩
  · rw [(h5 y hy).2 v]
    exact ⟨fun ⟨x, a, _, b⟩ => ⟨x, a, b⟩, fun ⟨x, a, b⟩ => ⟨x, a, cu_lt a hy, b⟩⟩
theorem SoI.op {n : Nat} {T : Nat → Option Nat} {rw cl op : Nat → Nat} {m x y : Nat} (h : SoI n T (n * x + y) rw cl op m) (hn6 : n ≤ 6) (hx : x < n) (hy : y < n) (ht : T (n * x + y) = none) : SoI n T (n * x + (y + 1)) rw cl (upN op m (6 * x + y)) (m + 1) := by
  obtain ⟨h0, h1, h2, h3, h4, h5, h7, h8⟩ := h
  have d1 : (6 * x + y) / 6 = x := by omega
  have d2 : (6 * x + y) % 6 = y := by omega
  have hne : ∀ i, i < m → op i ≠ 6 * x + y := fun i hi e => by
    have := (h1 i hi).2.2.1
    rw [e, d1, d2] at this
    omega
  refine ⟨by omega, fun i hi => ?_, fun i j hi hj e => ?_, fun q hq e => ?_, fun z hz => ⟨(h4 z hz).1, fun v => ?_⟩, fun z hz => ⟨(h5 z hz).1, fun v => ?_⟩, fun a b c u ha hb hc p q e1 e2 => ?_, fun a b c u ha hb hc p q e1 e2 => ?_⟩
  · by_cases e : i = m
    · rw [e, upN_s, d1, d2]
      exact ⟨hx, hy, by omega, ht⟩
    · rw [upN_n e]
      obtain ⟨b1, b2, b3, b4⟩ := h1 i (by omega)
      exact ⟨b1, b2, by omega, b4⟩
  · by_cases ei : i = m
    · by_cases ej : j = m
      · omega
      · rw [ei, upN_s, upN_n ej] at e
        exact absurd e.symm (hne j (by omega))
    · by_cases ej : j = m
      · rw [ej, upN_s, upN_n ei] at e
        exact absurd e (hne i (by omega))
      · rw [upN_n ei, upN_n ej] at e
        exact h2 i j (by omega) (by omega) e
  · by_cases e2 : q = n * x + y
    · exact ⟨m, by omega, by rw [upN_s, e2, dm_d hy, dm_m hy]⟩
    · obtain ⟨i, hi, e3⟩ := h3 q (by omega) e
      exact ⟨i, by omega, by rw [upN_n (by omega)]; exact e3⟩
  · rw [(h4 z hz).2 v]
    constructor
    · rintro ⟨b, hb, p, e⟩
      exact ⟨b, hb, by omega, e⟩
    · rintro ⟨b, hb, p, e⟩
      refine ⟨b, hb, ?_, e⟩
      rcases Nat.lt_or_ge (n * z + b) (n * x + y) with w | w
      · exact w
      · have : n * z + b = n * x + y := by omega
        rw [this, ht] at e
        cases e
  · rw [(h5 z hz).2 v]
    constructor
    · rintro ⟨b, hb, p, e⟩
      exact ⟨b, hb, by omega, e⟩
    · rintro ⟨b, hb, p, e⟩
      refine ⟨b, hb, ?_, e⟩
      rcases Nat.lt_or_ge (n * b + z) (n * x + y) with w | w
      · exact w
      · have : n * b + z = n * x + y := by omega
        rw [this, ht] at e
        cases e
  · have p1 : n * a + b ≠ n * x + y := fun w => by rw [w, ht] at e1; cases e1
    have p2 : n * a + c ≠ n * x + y := fun w => by rw [w, ht] at e2; cases e2
    exact h7 a b c u ha hb hc (by omega) (by omega) e1 e2
  · have p1 : n * a + c ≠ n * x + y := fun w => by rw [w, ht] at e1; cases e1
    have p2 : n * b + c ≠ n * x + y := fun w => by rw [w, ht] at e2; cases e2
    exact h8 a b c u ha hb hc (by omega) (by omega) e1 e2
theorem SoI.td {n : Nat} {T : Nat → Option Nat} {rw cl op : Nat → Nat} {m x y v : Nat} (h : SoI n T (n * x + y) rw cl op m) (hn6 : n ≤ 6) (hx : x < n) (hy : y < n) (ht : T (n * x + y) = some v) (hv : v < n) (hb : (rw x ||| cl y).testBit v = false) : SoI n T (n * x + (y + 1)) (upN rw x (rw x ||| 1 * 2 ^ v)) (upN cl y (cl y ||| 1 * 2 ^ v)) op m := by
  obtain ⟨h0, h1, h2, h3, h4, h5, h7, h8⟩ := h
  rw [Nat.testBit_or, Bool.or_eq_false_iff] at hb
  have hr : ∀ z, z < n → n * x + z < n * x + y → ¬ T (n * x + z) = some v := fun z hz p e => by
    have := ((h4 x hx).2 v).mpr ⟨z, hz, p, e⟩
    rw [hb.1] at this
    cases this
  have hc : ∀ z, z < n → n * z + y < n * x + y → ¬ T (n * z + y) = some v := fun z hz p e => by
    have := ((h5 y hy).2 v).mpr ⟨z, hz, p, e⟩
    rw [hb.2] at this
    cases this
  refine ⟨by omega, fun i hi => ?_, h2, fun q hq e => ?_, fun z hz => ?_, fun z hz => ?_, fun a b c u ha hb2 hc2 p q e1 e2 => ?_, fun a b c u ha hb2 hc2 p q e1 e2 => ?_⟩
  · obtain ⟨b1, b2, b3, b4⟩ := h1 i hi
    exact ⟨b1, b2, by omega, b4⟩
  · have : q ≠ n * x + y := fun w => by rw [w, ht] at e; cases e
    exact h3 q (by omega) e
  · by_cases e : z = x
    · rw [e, upN_s]
      refine ⟨bt_64 _ (h4 x hx).1 v (by omega), fun w => ?_⟩
      rw [Nat.testBit_or, Bool.or_eq_true, (h4 x hx).2 w, Nat.one_mul, Nat.testBit_two_pow, decide_eq_true_iff]
      constructor
      · rintro (⟨b, hb3, p, e2⟩ | e2)
        · exact ⟨b, hb3, by omega, e2⟩
        · exact ⟨y, hy, by omega, by rw [ht, e2]⟩
      · rintro ⟨b, hb3, p, e2⟩
        by_cases q : b = y
        · rw [q, ht] at e2
          exact Or.inr (Option.some.inj e2)
        · exact Or.inl ⟨b, hb3, by omega, e2⟩
    · rw [upN_n e]
      refine ⟨(h4 z hz).1, fun w => ?_⟩
      rw [(h4 z hz).2 w]
      constructor
      · rintro ⟨b, hb3, p, e2⟩
        exact ⟨b, hb3, by omega, e2⟩
      · rintro ⟨b, hb3, p, e2⟩
        have : n * z + b ≠ n * x + y := fun w => e ((cx_i hb3 hy).mp w).1
        exact ⟨b, hb3, by omega, e2⟩
  · by_cases e : z = y
    · rw [e, upN_s]
      refine ⟨bt_64 _ (h5 y hy).1 v (by omega), fun w => ?_⟩
      rw [Nat.testBit_or, Bool.or_eq_true, (h5 y hy).2 w, Nat.one_mul, Nat.testBit_two_pow, decide_eq_true_iff]
      constructor
      · rintro (⟨b, hb3, p, e2⟩ | e2)
        · exact ⟨b, hb3, by omega, e2⟩
        · exact ⟨x, hx, by omega, by rw [ht, e2]⟩
      · rintro ⟨b, hb3, p, e2⟩
        by_cases q : n * b + y = n * x + y
        · rw [q, ht] at e2
          exact Or.inr (Option.some.inj e2)
        · exact Or.inl ⟨b, hb3, by omega, e2⟩
    · rw [upN_n e]
      refine ⟨(h5 z hz).1, fun w => ?_⟩
      rw [(h5 z hz).2 w]
      constructor
      · rintro ⟨b, hb3, p, e2⟩
        exact ⟨b, hb3, by omega, e2⟩
      · rintro ⟨b, hb3, p, e2⟩
        have : n * b + z ≠ n * x + y := fun w => e ((cx_i hz hy).mp w).2
        exact ⟨b, hb3, by omega, e2⟩
  · by_cases q1 : n * a + b = n * x + y
    · by_cases q2 : n * a + c = n * x + y
      · omega
      · exfalso
        rw [q1, ht] at e1
        have := ((cx_i hb2 hy).mp q1).1
        rw [this] at e2 q q2
        exact hr c hc2 (by omega) (by rw [e2, ← e1])
    · by_cases q2 : n * a + c = n * x + y
      · exfalso
        rw [q2, ht] at e2
        have := ((cx_i hc2 hy).mp q2).1
        rw [this] at e1 p q1
        exact hr b hb2 (by omega) (by rw [e1, ← e2])
      · exact h7 a b c u ha hb2 hc2 (by omega) (by omega) e1 e2
  · by_cases q1 : n * a + c = n * x + y
    · by_cases q2 : n * b + c = n * x + y
      · exact (dm_i hc2 hc2 (q1.trans q2.symm)).1
      · exfalso
        rw [q1, ht] at e1
        have := ((cx_i hc2 hy).mp q1).2
        rw [this] at e2 q q2
        exact hc b hb2 (by omega) (by rw [e2, ← e1])
    · by_cases q2 : n * b + c = n * x + y
      · exfalso
        rw [q2, ht] at e2
        have := ((cx_i hc2 hy).mp q2).2
        rw [this] at e1 p q1
        exact hc a ha (by omega) (by rw [e1, ← e2])
      · exact h8 a b c u ha hb2 hc2 (by omega) (by omega) e1 e2
theorem SoI.cl {n : Nat} {T : Nat → Option Nat} {rw cl op : Nat → Nat} {m x y v : Nat} (h : SoI n T (n * x + y) rw cl op m) (hx : x < n) (hy : y < n) (ht : T (n * x + y) = some v) (hb : (rw x ||| cl y).testBit v = true) : nB n T = 0 := by
  obtain ⟨h0, h1, h2, h3, h4, h5, h7, h8⟩ := h
  rw [Nat.testBit_or, Bool.or_eq_true, (h4 x hx).2 v, (h5 y hy).2 v] at hb
  rcases hb with ⟨b, hb, p, e⟩ | ⟨b, hb, p, e⟩
  · exact nB_cl (p := n * x + b) (q := n * x + y) e ht (by omega) (Or.inl (by rw [dm_d hb, dm_d hy])) (cu_lt hx hb) (cu_lt hx hy)
  · exact nB_cl (p := n * b + y) (q := n * x + y) e ht (by omega) (Or.inr (by rw [dm_m hy, dm_m hy])) (cu_lt hb hy) (cu_lt hx hy)
theorem so_t {n : Nat} {rw cl op : Nat → Nat} {m v x y : Nat} {B : Nat → Nat → Int32} (h : FoB n rw cl op m B) : FoB n (upN rw x (rw x ||| 1 * 2 ^ v)) (upN cl y (cl y ||| 1 * 2 ^ v)) op m (upr (upr B 108 (upd (B 108) x (nI (rw x ||| 1 * 2 ^ v)))) 109 (upd (B 109) y (nI (cl y ||| 1 * 2 ^ v)))) := by
  refine ⟨fun z hz => ?_, fun z hz => ?_, fun i hi => ?_⟩
  · rw [upr_n (by decide), upr_s]
    by_cases e : z = x
    · rw [e, pk_us, upN_s]
    · rw [pk_un e, upN_n e]; exact h.1 z hz
  · rw [upr_s]
    by_cases e : z = y
    · rw [e, pk_us, upN_s]
    · rw [pk_un e, upN_n e]; exact h.2.1 z hz
  · rw [upr_n (by decide), upr_n (by decide)]
    exact h.2.2 i hi
theorem so_o {n : Nat} {rw cl op : Nat → Nat} {m p : Nat} {B : Nat → Nat → Int32} (h : FoB n rw cl op m B) : FoB n rw cl (upN op m p) (m + 1) (upr B 110 (upd (B 110) m (nI p))) := by
  refine ⟨fun z hz => by rw [upr_n (by decide)]; exact h.1 z hz, fun z hz => by rw [upr_n (by decide)]; exact h.2.1 z hz, fun i hi => ?_⟩
  rw [upr_s]
  by_cases e : i = m
  · rw [e, pk_us, upN_s]
  · rw [pk_un e, upN_n e]
    exact h.2.2 i (by omega)
theorem al_zs {n x : Nat} {T : Nat → Option Nat} {rw cl op : Nat → Nat} {m : Nat} (h : SoI n T (n * x + n) rw cl op m) : SoI n T (n * (x + 1)) rw cl op m := by
  rw [Nat.mul_succ]
  exact h
theorem k_setOut {S : CS} {G : Nat → Nat → Value} {B : Nat → Nat → Int32} {J : Nat → Nat → Int64} {R : Nat → Nat → Option Nat} (hS : ShOk S) (hF : FxG G) {n b : Nat} {T : Nat → Option Nat} (hn6 : n ≤ 6) (hn : 0 < n) (hb : cs_in S.1 b ∧ S.2 b = (0, 36) ∧ b ∉ [108, 109, 110]) (hT : ∀ q u, q < n * n → T q = some u → u < n) (hbT : ∀ q, q < n * n → B b q = oI (T q)) : CR 1 18 0 [some (.ref 107), some (.int (nI n)), some (.ref b), none, none, none] [] S G B J R (fun r S' G' B' J' R' => (S' = S ∧ J' = J ∧ R' = R) ∧ Bfr [108, 109, 110] B B' ∧ ∃ m, G' = up2 (up2 G 107 0 (.int (nI n))) 107 4 (.int (nI m)) ∧ ((r = some (.int (nI 0)) ∧ nB n T = 0) ∨ (r = some (.int (nI 1)) ∧ ∃ rw cl op, m ≤ n * n ∧ FoI n T rw cl op m ∧ FoB n rw cl op m B'))) := by
  refine cr_nx (pc' := 1) (al' := [some (.ref 107), some (.int (nI n)), some (.ref b), none, none, none]) (st' := [.ref 107]) d_18_0 (fun _ => rfl) ?_
  refine cr_nx (pc' := 2) (al' := [some (.ref 107), some (.int (nI n)), some (.ref b), none, none, none]) (st' := [.int (nI n), .ref 107]) d_18_1 (fun _ => rfl) ?_
  refine cp_2_0  d_18_2 cw_18 cf_2_61 (hS.i (a := 107) (by decide) (by decide)) (hS.s (a := 107) (by decide) (by decide) rfl) (by decide) ?_
  refine cr_nx (pc' := 6) (al' := [some (.ref 107), some (.int (nI n)), some (.ref b), none, none, none]) (st' := [.ref 107]) d_18_5 (fun _ => rfl) ?_
  refine cn_ic (v := 0) d_18_6 (by decide) ?_
  refine cp_2_4  d_18_7 cw_18 cf_2_32 (hS.i (a := 107) (by decide) (by decide)) (hS.s (a := 107) (by decide) (by decide) rfl) (by decide) ?_
  refine cr_nx (pc' := 11) (al' := [some (.ref 107), some (.int (nI n)), some (.ref b), none, none, none]) (st' := [.ref 107]) d_18_10 (fun _ => rfl) ?_
  refine cr_gf (v := .ref 108) d_18_11 cw_18 cf_2_9 (hS.i (a := 107) (by decide) (by decide)) (hS.s (a := 107) (by decide) (by decide) rfl) (by decide) (by simp [up2]; exact (fx_107_1 hF)) ?_
  refine cn_ic (v := 0) d_18_14 (by decide) ?_
  refine cr_cs (as := [.ref 108, .int (nI 0)]) (al0 := [some (.ref 108), some (.int (nI 0)), none, none]) (r := []) d_18_15 cw_18 cm_2_64 (by decide) cz_293 rfl rfl rfl (cr_wk (Nat.le_of_ble_eq_true rfl) (k_fill (hS.i (a := 108) (by decide) (by decide)) (hS.s (a := 108) (by decide) (by decide) rfl) (by decide) _)) (fun v1 S1 G1 B1 J1 R1 h1 => ?_)
  obtain ⟨q0_, q1_, q2_, q3_, q4_, w15, q9_, hw15⟩ := h1
  obtain rfl := q0_
  obtain rfl := q1_.symm
  obtain rfl := q2_.symm
  obtain rfl := q3_.symm
  obtain rfl := q4_.symm
  obtain rfl := q9_
  show CR _ _ 18 [some (.ref 107), some (.int (nI n)), some (.ref b), none, none, none] [] S (up2 (up2 G 107 0 (.int (nI n))) 107 4 (.int (nI 0))) (upr B 108 w15) J R _
  refine cr_nx (pc' := 19) (al' := [some (.ref 107), some (.int (nI n)), some (.ref b), none, none, none]) (st' := [.ref 107]) d_18_18 (fun _ => rfl) ?_
  refine cr_gf (v := .ref 109) d_18_19 cw_18 cf_2_15 (hS.i (a := 107) (by decide) (by decide)) (hS.s (a := 107) (by decide) (by decide) rfl) (by decide) (by simp [up2]; exact (fx_107_2 hF)) ?_
  refine cn_ic (v := 0) d_18_22 (by decide) ?_
  refine cr_cs (as := [.ref 109, .int (nI 0)]) (al0 := [some (.ref 109), some (.int (nI 0)), none, none]) (r := []) d_18_23 cw_18 cm_2_64 (by decide) cz_293 rfl rfl rfl (cr_wk (Nat.le_of_ble_eq_true rfl) (k_fill (hS.i (a := 109) (by decide) (by decide)) (hS.s (a := 109) (by decide) (by decide) rfl) (by decide) _)) (fun v1 S1 G1 B1 J1 R1 h1 => ?_)
  obtain ⟨q0_, q1_, q2_, q3_, q4_, w23, q9_, hw23⟩ := h1
  obtain rfl := q0_
  obtain rfl := q1_.symm
  obtain rfl := q2_.symm
  obtain rfl := q3_.symm
  obtain rfl := q4_.symm
  obtain rfl := q9_
  show CR _ _ 26 [some (.ref 107), some (.int (nI n)), some (.ref b), none, none, none] [] S (up2 (up2 G 107 0 (.int (nI n))) 107 4 (.int (nI 0))) (upr (upr B 108 w15) 109 w23) J R _
  refine cn_ic (v := 0) d_18_26 (by decide) ?_
  refine cr_nx (pc' := 28) (al' := [some (.ref 107), some (.int (nI n)), some (.ref b), some (.int (nI 0)), none, none]) (st' := []) d_18_27 (fun _ => rfl) ?_
  refine cr_G (show (up2 (up2 G 107 0 (.int (nI n))) 107 4 (.int (nI 0))) = (up2 (up2 G 107 0 (.int (nI n))) 107 4 (.int (nI (((fun _ => 0, fun _ => 0, fun _ => 0, 0, (upr (upr B 108 w15) 109 w23)) : (Nat → Nat) × (Nat → Nat) × (Nat → Nat) × Nat × (Nat → Nat → Int32)).2.2.2.1)))) by rfl) ?_
  refine cr_upw (al := fun x w_ => [some (.ref 107), some (.int (nI n)), some (.ref b), some (.int (nI x)), none, none]) (S := fun x w_ => S) (G := fun x w_ => (up2 (up2 G 107 0 (.int (nI n))) 107 4 (.int (nI w_.2.2.2.1)))) (B := fun x w_ => w_.2.2.2.2) (J := fun x w_ => J) (R := fun x w_ => R) (P := fun x w_ => SoI n T (n * x) w_.1 w_.2.1 w_.2.2.1 w_.2.2.2.1 ∧ FoB n w_.1 w_.2.1 w_.2.2.1 w_.2.2.2.1 w_.2.2.2.2 ∧ Bfr [108, 109, 110] B w_.2.2.2.2) (n := n) (fun x w_ hx px ihx => ?_) (fun w_ px => ?_) 0 ((fun _ => 0, fun _ => 0, fun _ => 0, 0, (upr (upr B 108 w15) 109 w23)) : (Nat → Nat) × (Nat → Nat) × (Nat → Nat) × Nat × (Nat → Nat → Int32)) (by omega) (⟨SoI.o (op := fun _ => 0), ⟨fun x hx => by dsimp only; rw [upr_n (by decide), upr_s]; exact hw15 x (by omega), fun x hx => by dsimp only; rw [upr_s]; exact hw23 x (by omega), fun i hi => absurd hi (Nat.not_lt_zero i)⟩, (Bfr.rf.u (by simp)).u (by simp)⟩)
  · show CR _ _ 28 [some (.ref 107), some (.int (nI n)), some (.ref b), some (.int (nI x)), none, none] [] S (up2 (up2 G 107 0 (.int (nI n))) 107 4 (.int (nI w_.2.2.2.1))) w_.2.2.2.2 J R _
    refine cr_nx (pc' := 29) (al' := [some (.ref 107), some (.int (nI n)), some (.ref b), some (.int (nI x)), none, none]) (st' := [.int (nI x)]) d_18_28 (fun _ => rfl) ?_
    refine cr_nx (pc' := 30) (al' := [some (.ref 107), some (.int (nI n)), some (.ref b), some (.int (nI x)), none, none]) (st' := [.ref 107, .int (nI x)]) d_18_29 (fun _ => rfl) ?_
    refine cr_gf (v := .int (nI n)) d_18_30 cw_18 cf_2_61 (hS.i (a := 107) (by decide) (by decide)) (hS.s (a := 107) (by decide) (by decide) rfl) (by decide) (by simp [up2]) ?_
    refine cn_cge (t := 159) d_18_33 (by decide) (by first | omega | assumption | exact cu_36 (by omega) (cu_lt (by omega) (by omega))) (by first | omega | assumption | exact cu_36 (by omega) (cu_lt (by omega) (by omega))) (fun c33 => ?_) (fun c33 => ?_)
    · omega
    · refine cn_ic (v := 0) d_18_36 (by decide) ?_
      refine cr_nx (pc' := 39) (al' := [some (.ref 107), some (.int (nI n)), some (.ref b), some (.int (nI x)), some (.int (nI 0)), none]) (st' := []) d_18_37 (fun _ => rfl) ?_
      refine cr_upw (al := fun y w_ => [some (.ref 107), some (.int (nI n)), some (.ref b), some (.int (nI x)), some (.int (nI y)), none]) (S := fun y w_ => S) (G := fun y w_ => (up2 (up2 G 107 0 (.int (nI n))) 107 4 (.int (nI w_.2.2.2.1)))) (B := fun y w_ => w_.2.2.2.2) (J := fun y w_ => J) (R := fun y w_ => R) (P := fun y w_ => SoI n T (n * x + y) w_.1 w_.2.1 w_.2.2.1 w_.2.2.2.1 ∧ FoB n w_.1 w_.2.1 w_.2.2.1 w_.2.2.2.1 w_.2.2.2.2 ∧ Bfr [108, 109, 110] B w_.2.2.2.2) (n := n) (fun y w_ hy py ihy => ?_) (fun w_ py => ?_) 0 w_ (by omega) (px)
      · show CR _ _ 39 [some (.ref 107), some (.int (nI n)), some (.ref b), some (.int (nI x)), some (.int (nI y)), none] [] S (up2 (up2 G 107 0 (.int (nI n))) 107 4 (.int (nI w_.2.2.2.1))) w_.2.2.2.2 J R _
        refine cr_nx (pc' := 41) (al' := [some (.ref 107), some (.int (nI n)), some (.ref b), some (.int (nI x)), some (.int (nI y)), none]) (st' := [.int (nI y)]) d_18_39 (fun _ => rfl) ?_
        refine cr_nx (pc' := 42) (al' := [some (.ref 107), some (.int (nI n)), some (.ref b), some (.int (nI x)), some (.int (nI y)), none]) (st' := [.ref 107, .int (nI y)]) d_18_41 (fun _ => rfl) ?_
        refine cr_gf (v := .int (nI n)) d_18_42 cw_18 cf_2_61 (hS.i (a := 107) (by decide) (by decide)) (hS.s (a := 107) (by decide) (by decide) rfl) (by decide) (by simp [up2]) ?_
        refine cn_cge (t := 153) d_18_45 (by decide) (by first | omega | assumption | exact cu_36 (by omega) (cu_lt (by omega) (by omega))) (by first | omega | assumption | exact cu_36 (by omega) (cu_lt (by omega) (by omega))) (fun c45 => ?_) (fun c45 => ?_)
        · omega
        · refine cr_nx (pc' := 49) (al' := [some (.ref 107), some (.int (nI n)), some (.ref b), some (.int (nI x)), some (.int (nI y)), none]) (st' := [.ref b]) d_18_48 (fun _ => rfl) ?_
          refine cr_nx (pc' := 50) (al' := [some (.ref 107), some (.int (nI n)), some (.ref b), some (.int (nI x)), some (.int (nI y)), none]) (st' := [.ref 107, .ref b]) d_18_49 (fun _ => rfl) ?_
          refine cr_gf (v := .int (nI n)) d_18_50 cw_18 cf_2_61 (hS.i (a := 107) (by decide) (by decide)) (hS.s (a := 107) (by decide) (by decide) rfl) (by decide) (by simp [up2]) ?_
          refine cr_nx (pc' := 54) (al' := [some (.ref 107), some (.int (nI n)), some (.ref b), some (.int (nI x)), some (.int (nI y)), none]) (st' := [.int (nI x), .int (nI n), .ref b]) d_18_53 (fun _ => rfl) ?_
          refine cn_mul d_18_54  ?_
          refine cr_nx (pc' := 57) (al' := [some (.ref 107), some (.int (nI n)), some (.ref b), some (.int (nI x)), some (.int (nI y)), none]) (st' := [.int (nI y), .int (nI (n * x)), .ref b]) d_18_55 (fun _ => rfl) ?_
          refine cn_add d_18_57  ?_
          refine cr_ia (a := b) (v := (oI (T (n * x + y)))) d_18_58 hb.1 hb.2.1 (by first | decide | omega) (show (n * x) + y < 36 by exact cu_36 hn6 (cu_lt hx hy)) ((congrFun (py.2.2 b hb.2.2) _).trans (hbT _ (cu_lt hx hy))) ?_
          refine cr_nx (pc' := 61) (al' := [some (.ref 107), some (.int (nI n)), some (.ref b), some (.int (nI x)), some (.int (nI y)), some (.int (oI (T (n * x + y))))]) (st' := []) d_18_59 (fun _ => rfl) ?_
          refine cr_nx (pc' := 63) (al' := [some (.ref 107), some (.int (nI n)), some (.ref b), some (.int (nI x)), some (.int (nI y)), some (.int (oI (T (n * x + y))))]) (st' := [.int (oI (T (n * x + y)))]) d_18_61 (fun _ => rfl) ?_
          refine cr_nx (pc' := 64) (al' := [some (.ref 107), some (.int (nI n)), some (.ref b), some (.int (nI x)), some (.int (nI y)), some (.int (oI (T (n * x + y))))]) (st' := [.int (-1), .int (oI (T (n * x + y)))]) d_18_63 (fun _ => rfl) ?_
          refine cr_cne (t := 96) d_18_64 (by decide) (fun c64 => ?_) (fun c64 => ?_)
          · obtain ⟨v, hv⟩ : ∃ v, T (n * x + y) = some v := by
              cases e_ : T (n * x + y) with
              | none => exact absurd (by rw [e_]; rfl) c64
              | some v => exact ⟨v, rfl⟩
            have hvn : v < n := hT _ _ (cu_lt hx hy) hv
            refine cr_al (congrArg (fun z__ : Int32 => ([some (.ref 107), some (.int (nI n)), some (.ref b), some (.int (nI x)), some (.int (nI y)), some (.int z__)] : AL)) (show (oI (T (n * x + y))) = (nI v) by rw [hv]; rfl)) ?_
            refine cr_nx (pc' := 97) (al' := [some (.ref 107), some (.int (nI n)), some (.ref b), some (.int (nI x)), some (.int (nI y)), some (.int (nI v))]) (st' := [.ref 107]) d_18_96 (fun _ => rfl) ?_
            refine cr_gf (v := .ref 108) d_18_97 cw_18 cf_2_9 (hS.i (a := 107) (by decide) (by decide)) (hS.s (a := 107) (by decide) (by decide) rfl) (by decide) (by simp [up2]; exact (fx_107_1 hF)) ?_
            refine cr_nx (pc' := 101) (al' := [some (.ref 107), some (.int (nI n)), some (.ref b), some (.int (nI x)), some (.int (nI y)), some (.int (nI v))]) (st' := [.int (nI x), .ref 108]) d_18_100 (fun _ => rfl) ?_
            refine cr_ia (a := 108) (v := (nI (w_.1 x))) d_18_101 (hS.i (a := 108) (by decide) (by decide)) (hS.s (a := 108) (by decide) (by decide) rfl) (by first | decide | omega) (show x < 6 by first | omega | assumption | exact cu_36 (by omega) (cu_lt (by omega) (by omega))) (py.2.1.1 x hx) ?_
            refine cr_nx (pc' := 103) (al' := [some (.ref 107), some (.int (nI n)), some (.ref b), some (.int (nI x)), some (.int (nI y)), some (.int (nI v))]) (st' := [.ref 107, .int (nI (w_.1 x))]) d_18_102 (fun _ => rfl) ?_
            refine cr_gf (v := .ref 109) d_18_103 cw_18 cf_2_15 (hS.i (a := 107) (by decide) (by decide)) (hS.s (a := 107) (by decide) (by decide) rfl) (by decide) (by simp [up2]; exact (fx_107_2 hF)) ?_
            refine cr_nx (pc' := 108) (al' := [some (.ref 107), some (.int (nI n)), some (.ref b), some (.int (nI x)), some (.int (nI y)), some (.int (nI v))]) (st' := [.int (nI y), .ref 109, .int (nI (w_.1 x))]) d_18_106 (fun _ => rfl) ?_
            refine cr_ia (a := 109) (v := (nI (w_.2.1 y))) d_18_108 (hS.i (a := 109) (by decide) (by decide)) (hS.s (a := 109) (by decide) (by decide) rfl) (by first | decide | omega) (show y < 6 by first | omega | assumption | exact cu_36 (by omega) (cu_lt (by omega) (by omega))) (py.2.1.2.1 y hy) ?_
            refine cn_or d_18_109 ?_
            refine cr_nx (pc' := 112) (al' := [some (.ref 107), some (.int (nI n)), some (.ref b), some (.int (nI x)), some (.int (nI y)), some (.int (nI v))]) (st' := [.int (nI v), .int (nI ((w_.1 x) ||| (w_.2.1 y)))]) d_18_110 (fun _ => rfl) ?_
            refine cn_shr d_18_112 (by omega) (by have := or_64 (py.1.2.2.2.2.1 x hx).1 (py.1.2.2.2.2.2.1 y hy).1; omega) ?_
            refine cn_ic (v := 1) d_18_113 (by decide) ?_
            refine cn_and d_18_114 ?_
            refine cn_ieq (t := 120) d_18_115 (by decide) (by have := bt_lt (w_.1 x ||| w_.2.1 y) v; omega) (fun c115 => ?_) (fun c115 => ?_)
            · refine cr_nx (pc' := 121) (al' := [some (.ref 107), some (.int (nI n)), some (.ref b), some (.int (nI x)), some (.int (nI y)), some (.int (nI v))]) (st' := [.ref 107]) d_18_120 (fun _ => rfl) ?_
              refine cr_gf (v := .ref 108) d_18_121 cw_18 cf_2_9 (hS.i (a := 107) (by decide) (by decide)) (hS.s (a := 107) (by decide) (by decide) rfl) (by decide) (by simp [up2]; exact (fx_107_1 hF)) ?_
              refine cr_nx (pc' := 125) (al' := [some (.ref 107), some (.int (nI n)), some (.ref b), some (.int (nI x)), some (.int (nI y)), some (.int (nI v))]) (st' := [.int (nI x), .ref 108]) d_18_124 (fun _ => rfl) ?_
              refine cr_nx (pc' := 126) (al' := [some (.ref 107), some (.int (nI n)), some (.ref b), some (.int (nI x)), some (.int (nI y)), some (.int (nI v))]) (st' := [.int (nI x), .ref 108, .int (nI x), .ref 108]) d_18_125 (fun _ => rfl) ?_
              refine cr_ia (a := 108) (v := (nI (w_.1 x))) d_18_126 (hS.i (a := 108) (by decide) (by decide)) (hS.s (a := 108) (by decide) (by decide) rfl) (by first | decide | omega) (show x < 6 by first | omega | assumption | exact cu_36 (by omega) (cu_lt (by omega) (by omega))) (py.2.1.1 x hx) ?_
              refine cn_ic (v := 1) d_18_127 (by decide) ?_
              refine cr_nx (pc' := 130) (al' := [some (.ref 107), some (.int (nI n)), some (.ref b), some (.int (nI x)), some (.int (nI y)), some (.int (nI v))]) (st' := [.int (nI v), .int (nI 1), .int (nI (w_.1 x)), .int (nI x), .ref 108]) d_18_128 (fun _ => rfl) ?_
              refine cn_shl d_18_130 (by omega) ?_
              refine cn_or d_18_131 ?_
              refine cr_iS (a := 108) (B1 := (upr w_.2.2.2.2 108 (upd (w_.2.2.2.2 108) x (nI ((w_.1 x) ||| (1 * 2 ^ v)))))) d_18_132 (hS.i (a := 108) (by decide) (by decide)) (hS.s (a := 108) (by decide) (by decide) rfl) (by first | decide | omega) (show x < 6 by first | omega | assumption | exact cu_36 (by omega) (cu_lt (by omega) (by omega))) rfl ?_
              refine cr_nx (pc' := 134) (al' := [some (.ref 107), some (.int (nI n)), some (.ref b), some (.int (nI x)), some (.int (nI y)), some (.int (nI v))]) (st' := [.ref 107]) d_18_133 (fun _ => rfl) ?_
              refine cr_gf (v := .ref 109) d_18_134 cw_18 cf_2_15 (hS.i (a := 107) (by decide) (by decide)) (hS.s (a := 107) (by decide) (by decide) rfl) (by decide) (by simp [up2]; exact (fx_107_2 hF)) ?_
              refine cr_nx (pc' := 139) (al' := [some (.ref 107), some (.int (nI n)), some (.ref b), some (.int (nI x)), some (.int (nI y)), some (.int (nI v))]) (st' := [.int (nI y), .ref 109]) d_18_137 (fun _ => rfl) ?_
              refine cr_nx (pc' := 140) (al' := [some (.ref 107), some (.int (nI n)), some (.ref b), some (.int (nI x)), some (.int (nI y)), some (.int (nI v))]) (st' := [.int (nI y), .ref 109, .int (nI y), .ref 109]) d_18_139 (fun _ => rfl) ?_
              refine cr_ia (a := 109) (v := (nI (w_.2.1 y))) d_18_140 (hS.i (a := 109) (by decide) (by decide)) (hS.s (a := 109) (by decide) (by decide) rfl) (by first | decide | omega) (show y < 6 by first | omega | assumption | exact cu_36 (by omega) (cu_lt (by omega) (by omega))) ((congrFun (by rw [upr_n (show (109 : Nat) ≠ 108 by decide)] : (upr w_.2.2.2.2 108 (upd (w_.2.2.2.2 108) x (nI ((w_.1 x) ||| (1 * 2 ^ v))))) 109 = w_.2.2.2.2 109) _).trans (py.2.1.2.1 y hy)) ?_
              refine cn_ic (v := 1) d_18_141 (by decide) ?_
              refine cr_nx (pc' := 144) (al' := [some (.ref 107), some (.int (nI n)), some (.ref b), some (.int (nI x)), some (.int (nI y)), some (.int (nI v))]) (st' := [.int (nI v), .int (nI 1), .int (nI (w_.2.1 y)), .int (nI y), .ref 109]) d_18_142 (fun _ => rfl) ?_
              refine cn_shl d_18_144 (by omega) ?_
              refine cn_or d_18_145 ?_
              refine cr_iS (a := 109) (B1 := (upr (upr w_.2.2.2.2 108 (upd (w_.2.2.2.2 108) x (nI ((w_.1 x) ||| (1 * 2 ^ v))))) 109 (upd (w_.2.2.2.2 109) y (nI ((w_.2.1 y) ||| (1 * 2 ^ v)))))) d_18_146 (hS.i (a := 109) (by decide) (by decide)) (hS.s (a := 109) (by decide) (by decide) rfl) (by first | decide | omega) (show y < 6 by first | omega | assumption | exact cu_36 (by omega) (cu_lt (by omega) (by omega))) (by rw [show (upr w_.2.2.2.2 108 (upd (w_.2.2.2.2 108) x (nI ((w_.1 x) ||| (1 * 2 ^ v))))) 109 = w_.2.2.2.2 109 from by rw [upr_n (show (109 : Nat) ≠ 108 by decide)]]) ?_
              refine cn_inc d_18_147 rfl rfl ?_
              show CR _ _ 150 [some (.ref 107), some (.int (nI n)), some (.ref b), some (.int (nI x)), some (.int (nI (y + 1))), some (.int (nI v))] [] S (up2 (up2 G 107 0 (.int (nI n))) 107 4 (.int (nI w_.2.2.2.1))) (upr (upr w_.2.2.2.2 108 (upd (w_.2.2.2.2 108) x (nI ((w_.1 x) ||| (1 * 2 ^ v))))) 109 (upd (w_.2.2.2.2 109) y (nI ((w_.2.1 y) ||| (1 * 2 ^ v))))) J R _
              refine cr_nx (pc' := 39) (al' := [some (.ref 107), some (.int (nI n)), some (.ref b), some (.int (nI x)), some (.int (nI (y + 1))), some (.int (nI v))]) (st' := []) d_18_150 (fun _ => rfl) ?_
              refine cr_dr (al1 := [some (.ref 107), some (.int (nI n)), some (.ref b), some (.int (nI x)), some (.int (nI (y + 1))), none]) (le_s (le_s (le_s (le_s (le_s (le_d rfl (le_n))))))) ?_
              exact ihy (upN w_.1 x (w_.1 x ||| 1 * 2 ^ v), upN w_.2.1 y (w_.2.1 y ||| 1 * 2 ^ v), w_.2.2.1, w_.2.2.2.1, (upr (upr w_.2.2.2.2 108 (upd (w_.2.2.2.2 108) x (nI ((w_.1 x) ||| (1 * 2 ^ v))))) 109 (upd (w_.2.2.2.2 109) y (nI ((w_.2.1 y) ||| (1 * 2 ^ v)))))) (⟨py.1.td hn6 hx hy hv hvn (bt_e0.mp c115), so_t py.2.1, ((py.2.2.u (by simp)).u (by simp))⟩)
            · refine cn_ic (v := 0) d_18_118 (by decide) ?_
              exact cr_ri d_18_119 cx_18 (by decide) ⟨⟨rfl, rfl, rfl⟩, py.2.2, _, rfl, Or.inl ⟨rfl, py.1.cl hx hy hv (bt_p0.mp c115)⟩⟩
          · refine cr_nx (pc' := 68) (al' := [some (.ref 107), some (.int (nI n)), some (.ref b), some (.int (nI x)), some (.int (nI y)), some (.int (oI (T (n * x + y))))]) (st' := [.ref 107]) d_18_67 (fun _ => rfl) ?_
            refine cr_gf (v := .ref 110) d_18_68 cw_18 cf_2_18 (hS.i (a := 107) (by decide) (by decide)) (hS.s (a := 107) (by decide) (by decide) rfl) (by decide) (by simp [up2]; exact (fx_107_3 hF)) ?_
            refine cr_nx (pc' := 72) (al' := [some (.ref 107), some (.int (nI n)), some (.ref b), some (.int (nI x)), some (.int (nI y)), some (.int (oI (T (n * x + y))))]) (st' := [.ref 107, .ref 110]) d_18_71 (fun _ => rfl) ?_
            refine cr_gf (v := .int (nI w_.2.2.2.1)) d_18_72 cw_18 cf_2_32 (hS.i (a := 107) (by decide) (by decide)) (hS.s (a := 107) (by decide) (by decide) rfl) (by decide) (by simp [up2]) ?_
            refine cn_bp (v := 6) d_18_75 (by decide) ?_
            refine cr_nx (pc' := 78) (al' := [some (.ref 107), some (.int (nI n)), some (.ref b), some (.int (nI x)), some (.int (nI y)), some (.int (oI (T (n * x + y))))]) (st' := [.int (nI x), .int (nI 6), .int (nI w_.2.2.2.1), .ref 110]) d_18_77 (fun _ => rfl) ?_
            refine cn_mul d_18_78  ?_
            refine cr_nx (pc' := 81) (al' := [some (.ref 107), some (.int (nI n)), some (.ref b), some (.int (nI x)), some (.int (nI y)), some (.int (oI (T (n * x + y))))]) (st' := [.int (nI y), .int (nI (6 * x)), .int (nI w_.2.2.2.1), .ref 110]) d_18_79 (fun _ => rfl) ?_
            refine cn_add d_18_81  ?_
            refine cr_iS (a := 110) (B1 := (upr w_.2.2.2.2 110 (upd (w_.2.2.2.2 110) w_.2.2.2.1 (nI ((6 * x) + y))))) d_18_82 (hS.i (a := 110) (by decide) (by decide)) (hS.s (a := 110) (by decide) (by decide) rfl) (by first | decide | omega) (show w_.2.2.2.1 < 36 by have := py.1.1; have := cu_lt hx hy; have := Nat.mul_le_mul hn6 hn6; omega) rfl ?_
            refine cr_nx (pc' := 84) (al' := [some (.ref 107), some (.int (nI n)), some (.ref b), some (.int (nI x)), some (.int (nI y)), some (.int (oI (T (n * x + y))))]) (st' := [.ref 107]) d_18_83 (fun _ => rfl) ?_
            refine cr_nx (pc' := 85) (al' := [some (.ref 107), some (.int (nI n)), some (.ref b), some (.int (nI x)), some (.int (nI y)), some (.int (oI (T (n * x + y))))]) (st' := [.ref 107, .ref 107]) d_18_84 (fun _ => rfl) ?_
            refine cr_gf (v := .int (nI w_.2.2.2.1)) d_18_85 cw_18 cf_2_32 (hS.i (a := 107) (by decide) (by decide)) (hS.s (a := 107) (by decide) (by decide) rfl) (by decide) (by simp [up2]) ?_
            refine cn_ic (v := 1) d_18_88 (by decide) ?_
            refine cn_add d_18_89  ?_
            refine cp_2_4  d_18_90 cw_18 cf_2_32 (hS.i (a := 107) (by decide) (by decide)) (hS.s (a := 107) (by decide) (by decide) rfl) (by decide) ?_
            refine cr_G up2_u ?_
            refine cr_nx (pc' := 147) (al' := [some (.ref 107), some (.int (nI n)), some (.ref b), some (.int (nI x)), some (.int (nI y)), some (.int (oI (T (n * x + y))))]) (st' := []) d_18_93 (fun _ => rfl) ?_
            refine cn_inc d_18_147 rfl rfl ?_
            show CR _ _ 150 [some (.ref 107), some (.int (nI n)), some (.ref b), some (.int (nI x)), some (.int (nI (y + 1))), some (.int (oI (T (n * x + y))))] [] S (up2 (up2 G 107 0 (.int (nI n))) 107 4 (.int (nI (w_.2.2.2.1 + 1)))) (upr w_.2.2.2.2 110 (upd (w_.2.2.2.2 110) w_.2.2.2.1 (nI ((6 * x) + y)))) J R _
            refine cr_nx (pc' := 39) (al' := [some (.ref 107), some (.int (nI n)), some (.ref b), some (.int (nI x)), some (.int (nI (y + 1))), some (.int (oI (T (n * x + y))))]) (st' := []) d_18_150 (fun _ => rfl) ?_
            refine cr_dr (al1 := [some (.ref 107), some (.int (nI n)), some (.ref b), some (.int (nI x)), some (.int (nI (y + 1))), none]) (le_s (le_s (le_s (le_s (le_s (le_d rfl (le_n))))))) ?_
            exact ihy (w_.1, w_.2.1, upN w_.2.2.1 w_.2.2.2.1 (6 * x + y), w_.2.2.2.1 + 1, (upr w_.2.2.2.2 110 (upd (w_.2.2.2.2 110) w_.2.2.2.1 (nI ((6 * x) + y))))) (⟨py.1.op hn6 hx hy ((oI_n (fun u e_ => by have := hT _ u (cu_lt hx hy) e_; omega)).mp c64), so_o py.2.1, py.2.2.u (by simp)⟩)
      · show CR _ _ 39 [some (.ref 107), some (.int (nI n)), some (.ref b), some (.int (nI x)), some (.int (nI n)), none] [] S (up2 (up2 G 107 0 (.int (nI n))) 107 4 (.int (nI w_.2.2.2.1))) w_.2.2.2.2 J R _
        refine cr_nx (pc' := 41) (al' := [some (.ref 107), some (.int (nI n)), some (.ref b), some (.int (nI x)), some (.int (nI n)), none]) (st' := [.int (nI n)]) d_18_39 (fun _ => rfl) ?_
        refine cr_nx (pc' := 42) (al' := [some (.ref 107), some (.int (nI n)), some (.ref b), some (.int (nI x)), some (.int (nI n)), none]) (st' := [.ref 107, .int (nI n)]) d_18_41 (fun _ => rfl) ?_
        refine cr_gf (v := .int (nI n)) d_18_42 cw_18 cf_2_61 (hS.i (a := 107) (by decide) (by decide)) (hS.s (a := 107) (by decide) (by decide) rfl) (by decide) (by simp [up2]) ?_
        refine cn_cge (t := 153) d_18_45 (by decide) (by first | omega | assumption | exact cu_36 (by omega) (cu_lt (by omega) (by omega))) (by first | omega | assumption | exact cu_36 (by omega) (cu_lt (by omega) (by omega))) (fun c45 => ?_) (fun c45 => ?_)
        · refine cn_inc d_18_153 rfl rfl ?_
          show CR _ _ 156 [some (.ref 107), some (.int (nI n)), some (.ref b), some (.int (nI (x + 1))), some (.int (nI n)), none] [] S (up2 (up2 G 107 0 (.int (nI n))) 107 4 (.int (nI w_.2.2.2.1))) w_.2.2.2.2 J R _
          refine cr_nx (pc' := 28) (al' := [some (.ref 107), some (.int (nI n)), some (.ref b), some (.int (nI (x + 1))), some (.int (nI n)), none]) (st' := []) d_18_156 (fun _ => rfl) ?_
          refine cr_dr (al1 := [some (.ref 107), some (.int (nI n)), some (.ref b), some (.int (nI (x + 1))), none, none]) (le_s (le_s (le_s (le_s (le_d rfl (le_s (le_n))))))) ?_
          exact ihx w_ (⟨al_zs py.1, py.2⟩)
        · omega
  · show CR _ _ 28 [some (.ref 107), some (.int (nI n)), some (.ref b), some (.int (nI n)), none, none] [] S (up2 (up2 G 107 0 (.int (nI n))) 107 4 (.int (nI w_.2.2.2.1))) w_.2.2.2.2 J R _
    refine cr_nx (pc' := 29) (al' := [some (.ref 107), some (.int (nI n)), some (.ref b), some (.int (nI n)), none, none]) (st' := [.int (nI n)]) d_18_28 (fun _ => rfl) ?_
    refine cr_nx (pc' := 30) (al' := [some (.ref 107), some (.int (nI n)), some (.ref b), some (.int (nI n)), none, none]) (st' := [.ref 107, .int (nI n)]) d_18_29 (fun _ => rfl) ?_
    refine cr_gf (v := .int (nI n)) d_18_30 cw_18 cf_2_61 (hS.i (a := 107) (by decide) (by decide)) (hS.s (a := 107) (by decide) (by decide) rfl) (by decide) (by simp [up2]) ?_
    refine cn_cge (t := 159) d_18_33 (by decide) (by first | omega | assumption | exact cu_36 (by omega) (cu_lt (by omega) (by omega))) (by first | omega | assumption | exact cu_36 (by omega) (cu_lt (by omega) (by omega))) (fun c33 => ?_) (fun c33 => ?_)
    · refine cn_ic (v := 1) d_18_159 (by decide) ?_
      exact cr_ri d_18_160 cx_18 (by decide) ⟨⟨rfl, rfl, rfl⟩, px.2.2, _, rfl, Or.inr ⟨rfl, _, _, _, px.1.1, px.1.fo hT, px.2.1⟩⟩
    · omega
theorem k_tally {S : CS} {G : Nat → Nat → Value} {B : Nat → Nat → Int32} {J : Nat → Nat → Int64} {R : Nat → Nat → Option Nat} (hS : ShOk S) (hF : FxG G) {n b : Nat} {T : Nat → Option Nat} (hn6 : n ≤ 6) (hn : 0 < n) (hb : cs_in S.1 b ∧ S.2 b = (0, 36) ∧ b ∉ [108, 109, 110]) (hT : ∀ q u, q < n * n → T q = some u → u < n) (hbT : ∀ q, q < n * n → B b q = oI (T q)) {t : Nat} (ht0 : 0 < t) (ht2 : t ≤ 100000) : CR 39 17 0 [some (.ref 107), some (.int (nI n)), some (.ref b), some (.int (nI t))] [] S G B J R (fun r S' G' B' J' R' => r = some (.int (nI (min t (nB n T)))) ∧ (S' = S ∧ J' = J ∧ R' = R) ∧ Gfr [107] G G' ∧ FxG G' ∧ Bfr [108, 109, 110] B B') := by
  refine cr_nx (pc' := 1) (al' := [some (.ref 107), some (.int (nI n)), some (.ref b), some (.int (nI t))]) (st' := [.ref 107]) d_17_0 (fun _ => rfl) ?_
  refine cn_ic (v := 0) d_17_1 (by decide) ?_
  refine cp_2_5  d_17_2 cw_17 cf_2_21 (hS.i (a := 107) (by decide) (by decide)) (hS.s (a := 107) (by decide) (by decide) rfl) (by decide) ?_
  refine cr_nx (pc' := 6) (al' := [some (.ref 107), some (.int (nI n)), some (.ref b), some (.int (nI t))]) (st' := [.ref 107]) d_17_5 (fun _ => rfl) ?_
  refine cr_nx (pc' := 7) (al' := [some (.ref 107), some (.int (nI n)), some (.ref b), some (.int (nI t))]) (st' := [.int (nI t), .ref 107]) d_17_6 (fun _ => rfl) ?_
  refine cp_2_6  d_17_7 cw_17 cf_2_25 (hS.i (a := 107) (by decide) (by decide)) (hS.s (a := 107) (by decide) (by decide) rfl) (by decide) ?_
  refine cr_nx (pc' := 11) (al' := [some (.ref 107), some (.int (nI n)), some (.ref b), some (.int (nI t))]) (st' := [.int (nI n)]) d_17_10 (fun _ => rfl) ?_
  refine cn_zle (t := 31) d_17_11 (by decide) (by first | omega | assumption | exact cu_36 (by omega) (cu_lt (by omega) (by omega))) (fun c11 => ?_) (fun c11 => ?_)
  · omega
  · refine cr_nx (pc' := 15) (al' := [some (.ref 107), some (.int (nI n)), some (.ref b), some (.int (nI t))]) (st' := [.ref 107]) d_17_14 (fun _ => rfl) ?_
    refine cr_nx (pc' := 16) (al' := [some (.ref 107), some (.int (nI n)), some (.ref b), some (.int (nI t))]) (st' := [.int (nI n), .ref 107]) d_17_15 (fun _ => rfl) ?_
    refine cr_nx (pc' := 17) (al' := [some (.ref 107), some (.int (nI n)), some (.ref b), some (.int (nI t))]) (st' := [.ref b, .int (nI n), .ref 107]) d_17_16 (fun _ => rfl) ?_
    refine cr_cv (b := 107) (as := [.int (nI n), .ref b]) (al0 := [some (.ref 107), some (.int (nI n)), some (.ref b), none, none, none]) (r := []) d_17_17 cw_17 cm_2_28 cz_18 rfl rfl (hS.i (a := 107) (by decide) (by decide)) (by rw [cw_18]; exact (hS.s (a := 107) (by decide) (by decide) rfl)) (by rw [cw_18]; decide) rfl (cr_wk (Nat.le_of_ble_eq_true rfl) (k_setOut hS ((hF.u5 (by omega)).u5 (by omega)) hn6 hn hb hT hbT)) (fun v1 S1 G1 B1 J1 R1 h1 => ?_)
    obtain ⟨⟨q1_, q2_, q3_⟩, hfr, m, q4_, hor⟩ := h1
    obtain rfl := q1_.symm
    obtain rfl := q2_.symm
    obtain rfl := q3_.symm
    obtain rfl := q4_
    obtain ⟨z, hz, hor2⟩ : ∃ z, v1 = some (.int (nI z)) ∧ ((z = 0 ∧ nB n T = 0) ∨ (z = 1 ∧ ∃ rw cl op, m ≤ n * n ∧ FoI n T rw cl op m ∧ FoB n rw cl op m B1)) := hor.elim (fun h_ => ⟨0, h_.1, Or.inl ⟨rfl, h_.2⟩⟩) (fun h_ => ⟨1, h_.1, Or.inr ⟨rfl, h_.2⟩⟩)
    obtain rfl := hz
    show CR _ _ 20 [some (.ref 107), some (.int (nI n)), some (.ref b), some (.int (nI t))] [.int (nI z)] S (up2 (up2 (up2 (up2 G 107 5 (.int (nI 0))) 107 6 (.int (nI t))) 107 0 (.int (nI n))) 107 4 (.int (nI m))) B1 J R _
    refine cn_ieq (t := 31) d_17_20 (by decide) (by rcases hor2 with h_ | h_ <;> omega) (fun c20 => ?_) (fun c20 => ?_)
    · refine cr_nx (pc' := 32) (al' := [some (.ref 107), some (.int (nI n)), some (.ref b), some (.int (nI t))]) (st' := [.ref 107]) d_17_31 (fun _ => rfl) ?_
      refine cr_gf (v := .int (nI 0)) d_17_32 cw_17 cf_2_21 (hS.i (a := 107) (by decide) (by decide)) (hS.s (a := 107) (by decide) (by decide) rfl) (by decide) (by simp [up2]) ?_
      exact cr_ri d_17_35 cx_17 rfl ⟨by rw [show nB n T = 0 from hor2.elim (fun h_ => h_.2) (fun h_ => absurd (h_.1.symm.trans c20) (by decide)), Nat.min_zero], ⟨rfl, rfl, rfl⟩, ((((Gfr.rf.u (by simp)).u (by simp)).u (by simp)).u (by simp)), ((((hF.u5 (by omega)).u5 (by omega)).u5 (by omega)).u5 (by omega)), hfr⟩
    · obtain ⟨rw, cl, op, hmn, hI, hFB⟩ := hor2.elim (fun h_ => absurd h_.1 (by omega)) (fun h_ => h_.2)
      refine cr_nx (pc' := 24) (al' := [some (.ref 107), some (.int (nI n)), some (.ref b), some (.int (nI t))]) (st' := [.ref 107]) d_17_23 (fun _ => rfl) ?_
      refine cr_nx (pc' := 25) (al' := [some (.ref 107), some (.int (nI n)), some (.ref b), some (.int (nI t))]) (st' := [.ref 107, .ref 107]) d_17_24 (fun _ => rfl) ?_
      refine cr_gf (v := .int (nI m)) d_17_25 cw_17 cf_2_32 (hS.i (a := 107) (by decide) (by decide)) (hS.s (a := 107) (by decide) (by decide) rfl) (by decide) (by simp [up2]) ?_
      refine cr_pv (b := 107) (as := [.int (nI m)]) (al0 := [some (.ref 107), some (.int (nI m)), none, none, none, none, none, none]) (r := []) d_17_28 cw_17 cm_2_35 cz_19 rfl rfl (hS.i (a := 107) (by decide) (by decide)) (by rw [cw_19]; exact (hS.s (a := 107) (by decide) (by decide) rfl)) (by rw [cw_19]; decide) rfl (by have := Nat.mul_le_mul hn6 hn6; omega) (k_fillOpen hS hn6 hn ht2 m T rw cl op 0 _ _ ((((hF.u5 (by omega)).u5 (by omega)).u5 (by omega)).u5 (by omega)) hI hFB (by have := Nat.mul_le_mul hn6 hn6; omega) (by rw [up2_n (by omega), up2_s]) (by rw [up2_n (by omega), up2_n (by omega), up2_n (by omega), up2_s]) (by rw [up2_n (by omega), up2_n (by omega), up2_s]) ht0) ?_
      show CR _ _ 31 [some (.ref 107), some (.int (nI n)), some (.ref b), some (.int (nI t))] [] S (up2 (up2 (up2 (up2 (up2 G 107 5 (.int (nI 0))) 107 6 (.int (nI t))) 107 0 (.int (nI n))) 107 4 (.int (nI m))) 107 5 (.int (nI (min t (0 + nB n T))))) B1 J R _
      refine cr_nx (pc' := 32) (al' := [some (.ref 107), some (.int (nI n)), some (.ref b), some (.int (nI t))]) (st' := [.ref 107]) d_17_31 (fun _ => rfl) ?_
      refine cr_gf (v := .int (nI (min t (0 + nB n T)))) d_17_32 cw_17 cf_2_21 (hS.i (a := 107) (by decide) (by decide)) (hS.s (a := 107) (by decide) (by decide) rfl) (by decide) (by simp [up2]) ?_
      exact cr_ri d_17_35 cx_17 rfl ⟨by rw [Nat.zero_add], ⟨rfl, rfl, rfl⟩, (((((Gfr.rf.u (by simp)).u (by simp)).u (by simp)).u (by simp)).u (by simp)), (((((hF.u5 (by omega)).u5 (by omega)).u5 (by omega)).u5 (by omega)).u5 (by omega)), hfr⟩
theorem k_tally0 {S : CS} {G : Nat → Nat → Value} {B : Nat → Nat → Int32} {J : Nat → Nat → Int64} {R : Nat → Nat → Option Nat} (hS : ShOk S) (hF : FxG G) {b t : Nat} : CR 0 17 0 [some (.ref 107), some (.int (nI 0)), some (.ref b), some (.int (nI t))] [] S G B J R (fun r S' G' B' J' R' => r = some (.int (nI 0)) ∧ (S' = S ∧ J' = J ∧ R' = R) ∧ Gfr [107] G G' ∧ FxG G' ∧ Bfr [108, 109, 110] B B') := by
  refine cr_nx (pc' := 1) (al' := [some (.ref 107), some (.int (nI 0)), some (.ref b), some (.int (nI t))]) (st' := [.ref 107]) d_17_0 (fun _ => rfl) ?_
  refine cn_ic (v := 0) d_17_1 (by decide) ?_
  refine cp_2_5  d_17_2 cw_17 cf_2_21 (hS.i (a := 107) (by decide) (by decide)) (hS.s (a := 107) (by decide) (by decide) rfl) (by decide) ?_
  refine cr_nx (pc' := 6) (al' := [some (.ref 107), some (.int (nI 0)), some (.ref b), some (.int (nI t))]) (st' := [.ref 107]) d_17_5 (fun _ => rfl) ?_
  refine cr_nx (pc' := 7) (al' := [some (.ref 107), some (.int (nI 0)), some (.ref b), some (.int (nI t))]) (st' := [.int (nI t), .ref 107]) d_17_6 (fun _ => rfl) ?_
  refine cp_2_6  d_17_7 cw_17 cf_2_25 (hS.i (a := 107) (by decide) (by decide)) (hS.s (a := 107) (by decide) (by decide) rfl) (by decide) ?_
  refine cr_nx (pc' := 11) (al' := [some (.ref 107), some (.int (nI 0)), some (.ref b), some (.int (nI t))]) (st' := [.int (nI 0)]) d_17_10 (fun _ => rfl) ?_
  refine cn_zle (t := 31) d_17_11 (by decide) (by first | omega | assumption | exact cu_36 (by omega) (cu_lt (by omega) (by omega))) (fun c11 => ?_) (fun c11 => ?_)
  · refine cr_nx (pc' := 32) (al' := [some (.ref 107), some (.int (nI 0)), some (.ref b), some (.int (nI t))]) (st' := [.ref 107]) d_17_31 (fun _ => rfl) ?_
    refine cr_gf (v := .int (nI 0)) d_17_32 cw_17 cf_2_21 (hS.i (a := 107) (by decide) (by decide)) (hS.s (a := 107) (by decide) (by decide) rfl) (by decide) (by simp [up2]) ?_
    exact cr_ri d_17_35 cx_17 rfl ⟨rfl, ⟨rfl, rfl, rfl⟩, (Gfr.rf.u (by simp)).u (by simp), (hF.u5 (by omega)).u5 (by omega), Bfr.rf⟩
  · omega
