/-! Normal parts, quotients: theory and the class; printed by wip/whole/gen_b19.py. -/
/-- a unit on both sides -/
def Uni (n : Nat) (c : Nat → Nat) : Prop := ∃ e, e < n ∧ ∀ x, x < n → c (n * e + x) = x ∧ c (n * x + e) = x
theorem uni_of {n : Nat} {c : Nat → Nat} (h : ¬ unV 0 n c = -1) : Uni n c := by
  obtain ⟨d, hd⟩ : ∃ d, d = unI 0 n c := ⟨_, rfl⟩
  obtain ⟨h1, h2, h3⟩ := unI_f hd
  rcases Nat.lt_or_ge d n with q | q
  · refine ⟨d, q, fun x hx => ?_⟩
    have := h3 q x hx
    exact ⟨this.1.resolve_left (by decide), this.2.resolve_left (by decide)⟩
  · exact absurd (unV_f hd q).symm h
theorem onN_n {s n : Nat} (hn : n ≤ 16) (hs : s < 2 ^ n) : onN s = SM (fun k => s / 2 ^ k &&& 1) n := by
  unfold onN
  have key : ∀ k, n ≤ k → SM (fun k => s / 2 ^ k &&& 1) k = SM (fun k => s / 2 ^ k &&& 1) n := by
    intro k hk
    induction k with
    | zero => rw [Nat.le_zero.mp hk]
    | succ k ih =>
      rcases Nat.lt_or_ge k n with h | h
      · rw [show k + 1 = n by omega]
      · rw [SM_s, ih h]
        have : s.testBit k = false := by
          cases hb : s.testBit k
          · rfl
          · have := bit_lt hs hb
            omega
        rw [bt_e0.mpr this]
        omega
  exact key 16 hn
theorem ro_bit {n : Nat} {c : Nat → Nat} {x p v : Nat} : (roN n c x p).testBit v = true ↔ ∃ y, y < n ∧ p.testBit y = true ∧ c (n * x + y) = v := by
  unfold roN
  rw [ORs_bit]
  constructor
  · rintro ⟨y, hy, h⟩
    unfold roF at h
    by_cases hp : p.testBit y = true
    · rw [if_pos hp, Nat.one_mul, Nat.testBit_two_pow] at h
      exact ⟨y, hy, hp, of_decide_eq_true h⟩
    · rw [if_neg hp, Nat.zero_testBit] at h
      cases h
  · rintro ⟨y, hy, hp, h⟩
    refine ⟨y, hy, ?_⟩
    unfold roF
    rw [if_pos hp, Nat.one_mul, Nat.testBit_two_pow]
    exact decide_eq_true h
theorem ro_on {n : Nat} {c : Nat → Nat} (hn : n ≤ 6) (hl : Lat n c) {x p : Nat} (hx : x < n) (hp : p < 2 ^ n) : onN (roN n c x p) = onN p := by
  rw [onN_n (by omega) (roN_lt hl.1 hx), onN_n (by omega) hp]
  have hP : Per n (fun y => c (n * x + y)) := ⟨fun y hy => hl.b hx hy, fun i j hi hj e => hl.2.1 x i j hx hi hj e⟩
  rw [← SM_per (f := fun k => roN n c x p / 2 ^ k &&& 1) hP]
  refine SM_c (fun y hy => ?_)
  rw [bt_1, bt_1]
  by_cases h : p.testBit y = true
  · rw [if_pos h, if_pos (ro_bit.mpr ⟨y, hy, h, rfl⟩)]
  · rw [if_neg h, if_neg]
    intro e
    obtain ⟨z, hz, h2, h3⟩ := ro_bit.mp e
    have := hl.2.1 x z y hx hz hy h3
    rw [this] at h2
    exact h h2
/-- a closed part of a loop has the unit in it -/
theorem uni_in {n : Nat} {c : Nat → Nat} (hn : n ≤ 6) (hl : Lat n c) (hu : Uni n c) {p : Nat} (hp : clB n c p = true) : ∀ x, x < n → (roN n c x p).testBit x = true := by
  obtain ⟨e, he, hu⟩ := hu
  obtain ⟨⟨h0, h1⟩, hj⟩ := clB_iff.mp hp
  obtain ⟨z, hz⟩ := Nat.exists_testBit_of_ne_zero (Nat.pos_iff_ne_zero.mp h0)
  have hzn := bit_lt h1 hz
  have sub : ∀ q, (roN n c z p).testBit q = true → p.testBit q = true := by
    intro q hq
    obtain ⟨y, hy, h2, h3⟩ := ro_bit.mp hq
    rw [← hj]
    unfold jnS
    rw [Nat.testBit_or, Bool.or_eq_true]
    refine Or.inr ((ORs_bit _ _ _).mpr ⟨z, hzn, (ORs_bit _ _ _).mpr ⟨y, hy, ?_⟩⟩)
    unfold jnf
    rw [if_pos ⟨hz, h2⟩, Nat.one_mul, Nat.testBit_two_pow]
    exact decide_eq_true h3
  have heq : roN n c z p = p := by
    apply Decidable.byContradiction
    intro hne
    have := onN_lt (n := n) (by omega) (roN_lt hl.1 hzn) h1 sub hne
    rw [ro_on hn hl hzn h1] at this
    omega
  have hz2 := hz
  rw [← heq] at hz2
  obtain ⟨y, hy, h2, h3⟩ := ro_bit.mp hz2
  have hye : y = e := hl.2.1 z y e hzn hy he (h3.trans (hu z hzn).2.symm)
  intro x hx
  exact ro_bit.mpr ⟨e, he, by rw [← hye]; exact h2, (hu x hx).2⟩
/-- the lowest of a row -/
def lwN (n : Nat) (c : Nat → Nat) (p x : Nat) : Nat := tzN (roN n c x p)
theorem tz_f {v : Nat} (hv : v < 64) (h0 : 0 < v) : tzN v < 6 ∧ v.testBit (tzN v) = true ∧ ∀ q, v.testBit q = true → tzN v ≤ q := by
  obtain ⟨z, hz⟩ := Nat.exists_testBit_of_ne_zero (Nat.pos_iff_ne_zero.mp h0)
  have hz6 : z < 6 := bit_lt (n := 6) hv hz
  have h1 := FX_lt (p := fun k => v.testBit k) hz6 hz
  refine ⟨h1, FX_yes (fun k => v.testBit k) 6 h1, fun q hq => ?_⟩
  rcases Nat.lt_or_ge q (tzN v) with r | r
  · have := FX_no (fun k => v.testBit k) 6 q r
    have this : v.testBit q = false := this
    rw [hq] at this
    cases this
  · exact r
theorem ro_pos {n : Nat} {c : Nat → Nat} {p x : Nat} (h0 : 0 < p) (hp : p < 2 ^ n) : 0 < roN n c x p := by
  obtain ⟨z, hz⟩ := Nat.exists_testBit_of_ne_zero (Nat.pos_iff_ne_zero.mp h0)
  have : (roN n c x p).testBit (c (n * x + z)) = true := ro_bit.mpr ⟨z, bit_lt hp hz, hz, rfl⟩
  rcases Nat.eq_zero_or_pos (roN n c x p) with e | e
  · rw [e, Nat.zero_testBit] at this
    cases this
  · exact e
theorem lw_f {n : Nat} {c : Nat → Nat} (hn : n ≤ 6) (hc : ∀ q, q < n * n → c q < n) {p x : Nat} (hx : x < n) (h0 : 0 < p) (hp : p < 2 ^ n) : lwN n c p x < n ∧ (roN n c x p).testBit (lwN n c p x) = true ∧ ∀ q, (roN n c x p).testBit q = true → lwN n c p x ≤ q := by
  have hr := roN_lt (p := p) hc hx
  obtain ⟨h1, h2, h3⟩ := tz_f (le_64 hn hr) (ro_pos (c := c) (x := x) h0 hp)
  exact ⟨bit_lt hr h2, h2, h3⟩
abbrev FaA (n : Nat) (c : Nat → Nat) (p : Nat) : Prop := ∀ x, x < n → ∀ y, y < x → roN n c x p = roN n c y p ∨ roN n c x p &&& roN n c y p = 0
abbrev CjJ (n : Nat) (c : Nat → Nat) (p : Nat) : Prop := ∀ x, x < n → ∀ y, y < n → lwN n c p (c (n * x + y)) = lwN n c p (c (n * lwN n c p x + lwN n c p y))
abbrev Nrm (n : Nat) (c : Nat → Nat) (p : Nat) : Prop := clB n c p = true ∧ FaA n c p ∧ CjJ n c p
theorem Fa_s {n : Nat} {c : Nat → Nat} {p : Nat} (h : FaA n c p) {x y z : Nat} (hx : x < n) (hy : y < n) (h1 : (roN n c x p).testBit z = true) (h2 : (roN n c y p).testBit z = true) : roN n c x p = roN n c y p := by
  have key : ∀ a b, a < n → b < a → (roN n c a p).testBit z = true → (roN n c b p).testBit z = true → roN n c a p = roN n c b p := by
    intro a b ha hb q1 q2
    rcases h a ha b hb with e | e
    · exact e
    · have := and_0.mp e z q1
      rw [q2] at this
      cases this
  rcases Nat.lt_trichotomy x y with r | r | r
  · exact (key y x hy r h2 h1).symm
  · rw [r]
  · exact key x y hx r h1 h2
/-- in a loop: the classes of a normal part -/
theorem Fa_lw {n : Nat} {c : Nat → Nat} (hn : n ≤ 6) (hl : Lat n c) (hu : Uni n c) {p : Nat} (hp : clB n c p = true) (h : FaA n c p) {x z : Nat} (hx : x < n) (hz : z < n) : (roN n c x p).testBit z = true ↔ lwN n c p z = lwN n c p x := by
  have hp2 := (clB_iff.mp hp).1
  have hin := uni_in hn hl hu hp
  constructor
  · intro q
    unfold lwN
    rw [Fa_s h hx hz q (hin z hz)]
  · intro q
    have h1 := (lw_f hn hl.1 hx hp2.1 hp2.2).2.1
    have h2 := (lw_f hn hl.1 hz hp2.1 hp2.2).2.1
    rw [q] at h2
    rw [Fa_s h hx hz h1 h2]
    exact hin z hz
theorem k_lowest {S : CS} {G : Nat → Nat → Value} {B : Nat → Nat → Int32} {J : Nat → Nat → Int64} {R : Nat → Nat → Option Nat} {a n : Nat} (ht : TabAt S G a) (hn : G a 0 = .int (nI n)) {c : Nat → Nat} (hc : TabC B a n c) {x p : Nat} (hx : x < n) (hp0 : 0 < p) (hp : p < 2 ^ n) : CR 2 52 0 [some (.ref a), some (.int (nI x)), some (.int (nI p))] [] S G B J R (cP (some (.int (nI (lwN n c p x)))) S G B J R) := by
  have hn6 := hc.1
  have hp64 := le_64 hn6 hp
  have hrp := ro_pos (c := c) (x := x) hp0 hp
  refine cr_nx (pc' := 1) (al' := [some (.ref a), some (.int (nI x)), some (.int (nI p))]) (st' := [.ref a]) d_52_0 (fun _ => rfl) ?_
  refine cr_nx (pc' := 2) (al' := [some (.ref a), some (.int (nI x)), some (.int (nI p))]) (st' := [.int (nI x), .ref a]) d_52_1 (fun _ => rfl) ?_
  refine cr_nx (pc' := 3) (al' := [some (.ref a), some (.int (nI x)), some (.int (nI p))]) (st' := [.int (nI p), .int (nI x), .ref a]) d_52_2 (fun _ => rfl) ?_
  refine cr_ps (as := [.ref a, .int (nI x), .int (nI p)]) (al0 := [some (.ref a), some (.int (nI x)), some (.int (nI p)), none, none]) (r := []) d_52_3 cw_52 cm_7_25 (by decide) cz_49 rfl rfl rfl (Nat.le_of_ble_eq_true rfl) (k_rowOf ht hn hc (by omega) (by first | omega | assumption | exact cu_36 (by omega) (cu_lt (by omega) (by omega)))) ?_
  show CR _ _ 6 [some (.ref a), some (.int (nI x)), some (.int (nI p))] [.int (nI (roN n c x p))] S G B J R _
  have b3 : roN n c x p < 64 := le_64 (by omega) (roN_lt (fun q hq => (hc.2 q hq).2) (by omega))
  refine cr_ps (as := [.int (nI (roN n c x p))]) (al0 := [some (.int (nI (roN n c x p))), none]) (r := []) d_52_6 cw_52 cm_7_46 (by decide) cz_291 rfl rfl rfl (Nat.le_of_ble_eq_true rfl) (k_trailing (by omega) (by omega)) ?_
  show CR _ _ 9 [some (.ref a), some (.int (nI x)), some (.int (nI p))] [.int (nI (tzN (roN n c x p)))] S G B J R _
  exact cr_ri d_52_9 cx_52 rfl ⟨rfl, rfl, rfl, rfl, rfl, rfl⟩
theorem k_rowsFallAsunder {S : CS} {G : Nat → Nat → Value} {B : Nat → Nat → Int32} {J : Nat → Nat → Int64} {R : Nat → Nat → Option Nat} {a n : Nat} (ht : TabAt S G a) (hn : G a 0 = .int (nI n)) {c : Nat → Nat} (hc : TabC B a n c) {p : Nat} (hp : p < 2 ^ n) : CR 2 50 0 [some (.ref a), some (.int (nI p)), none, none, none, none] [] S G B J R (cP (some (.int (bI (FaA n c p)))) S G B J R) := by
  have hn6 := hc.1
  have hp64 := le_64 hn6 hp
  have hcc : ∀ q, q < n * n → c q < n := fun q hq => (hc.2 q hq).2
  refine cn_ic (v := 0) d_50_0 (by decide) ?_
  refine cr_nx (pc' := 2) (al' := [some (.ref a), some (.int (nI p)), some (.int (nI 0)), none, none, none]) (st' := []) d_50_1 (fun _ => rfl) ?_
  refine cr_up (al := fun x => [some (.ref a), some (.int (nI p)), some (.int (nI x)), none, none, none]) (S := fun x => S) (G := fun x => G) (B := fun x => B) (J := fun x => J) (R := fun x => R) (P := fun x => ∀ u, u < x → ∀ y, y < u → roN n c u p = roN n c y p ∨ roN n c u p &&& roN n c y p = 0) (n := n) (fun x hx px ihx => ?_) (fun px => ?_) 0  (by omega) (all_0)
  · show CR _ _ 2 [some (.ref a), some (.int (nI p)), some (.int (nI x)), none, none, none] [] S G B J R _
    refine cr_nx (pc' := 3) (al' := [some (.ref a), some (.int (nI p)), some (.int (nI x)), none, none, none]) (st' := [.int (nI x)]) d_50_2 (fun _ => rfl) ?_
    refine cr_nx (pc' := 4) (al' := [some (.ref a), some (.int (nI p)), some (.int (nI x)), none, none, none]) (st' := [.ref a, .int (nI x)]) d_50_3 (fun _ => rfl) ?_
    refine cr_gf (v := .int (nI n)) d_50_4 cw_50 cf_7_21 ht.1 ht.2.2.1 (by decide) hn ?_
    refine cn_cge (t := 62) d_50_7 (by decide) (by first | omega | assumption | exact cu_36 (by omega) (cu_lt (by omega) (by omega))) (by first | omega | assumption | exact cu_36 (by omega) (cu_lt (by omega) (by omega))) (fun c7 => ?_) (fun c7 => ?_)
    · omega
    · refine cr_nx (pc' := 11) (al' := [some (.ref a), some (.int (nI p)), some (.int (nI x)), none, none, none]) (st' := [.ref a]) d_50_10 (fun _ => rfl) ?_
      refine cr_nx (pc' := 12) (al' := [some (.ref a), some (.int (nI p)), some (.int (nI x)), none, none, none]) (st' := [.int (nI x), .ref a]) d_50_11 (fun _ => rfl) ?_
      refine cr_nx (pc' := 13) (al' := [some (.ref a), some (.int (nI p)), some (.int (nI x)), none, none, none]) (st' := [.int (nI p), .int (nI x), .ref a]) d_50_12 (fun _ => rfl) ?_
      refine cr_ps (as := [.ref a, .int (nI x), .int (nI p)]) (al0 := [some (.ref a), some (.int (nI x)), some (.int (nI p)), none, none]) (r := []) d_50_13 cw_50 cm_7_25 (by decide) cz_49 rfl rfl rfl (Nat.le_of_ble_eq_true rfl) (k_rowOf ht hn hc (by omega) (by first | omega | assumption | exact cu_36 (by omega) (cu_lt (by omega) (by omega)))) ?_
      show CR _ _ 16 [some (.ref a), some (.int (nI p)), some (.int (nI x)), none, none, none] [.int (nI (roN n c x p))] S G B J R _
      have b13 : roN n c x p < 64 := le_64 (by omega) (roN_lt (fun q hq => (hc.2 q hq).2) (by omega))
      refine cr_nx (pc' := 17) (al' := [some (.ref a), some (.int (nI p)), some (.int (nI x)), some (.int (nI (roN n c x p))), none, none]) (st' := []) d_50_16 (fun _ => rfl) ?_
      refine cn_ic (v := 0) d_50_17 (by decide) ?_
      refine cr_nx (pc' := 20) (al' := [some (.ref a), some (.int (nI p)), some (.int (nI x)), some (.int (nI (roN n c x p))), some (.int (nI 0)), none]) (st' := []) d_50_18 (fun _ => rfl) ?_
      refine cr_up (al := fun y => [some (.ref a), some (.int (nI p)), some (.int (nI x)), some (.int (nI (roN n c x p))), some (.int (nI y)), none]) (S := fun y => S) (G := fun y => G) (B := fun y => B) (J := fun y => J) (R := fun y => R) (P := fun y => ∀ v, v < y → roN n c x p = roN n c v p ∨ roN n c x p &&& roN n c v p = 0) (n := x) (fun y hy py ihy => ?_) (fun py => ?_) 0  (by omega) (all_0)
      · show CR _ _ 20 [some (.ref a), some (.int (nI p)), some (.int (nI x)), some (.int (nI (roN n c x p))), some (.int (nI y)), none] [] S G B J R _
        refine cr_nx (pc' := 22) (al' := [some (.ref a), some (.int (nI p)), some (.int (nI x)), some (.int (nI (roN n c x p))), some (.int (nI y)), none]) (st' := [.int (nI y)]) d_50_20 (fun _ => rfl) ?_
        refine cr_nx (pc' := 23) (al' := [some (.ref a), some (.int (nI p)), some (.int (nI x)), some (.int (nI (roN n c x p))), some (.int (nI y)), none]) (st' := [.int (nI x), .int (nI y)]) d_50_22 (fun _ => rfl) ?_
        refine cn_cge (t := 56) d_50_23 (by decide) (by first | omega | assumption | exact cu_36 (by omega) (cu_lt (by omega) (by omega))) (by first | omega | assumption | exact cu_36 (by omega) (cu_lt (by omega) (by omega))) (fun c23 => ?_) (fun c23 => ?_)
        · omega
        · refine cr_nx (pc' := 27) (al' := [some (.ref a), some (.int (nI p)), some (.int (nI x)), some (.int (nI (roN n c x p))), some (.int (nI y)), none]) (st' := [.ref a]) d_50_26 (fun _ => rfl) ?_
          refine cr_nx (pc' := 29) (al' := [some (.ref a), some (.int (nI p)), some (.int (nI x)), some (.int (nI (roN n c x p))), some (.int (nI y)), none]) (st' := [.int (nI y), .ref a]) d_50_27 (fun _ => rfl) ?_
          refine cr_nx (pc' := 30) (al' := [some (.ref a), some (.int (nI p)), some (.int (nI x)), some (.int (nI (roN n c x p))), some (.int (nI y)), none]) (st' := [.int (nI p), .int (nI y), .ref a]) d_50_29 (fun _ => rfl) ?_
          refine cr_ps (as := [.ref a, .int (nI y), .int (nI p)]) (al0 := [some (.ref a), some (.int (nI y)), some (.int (nI p)), none, none]) (r := []) d_50_30 cw_50 cm_7_25 (by decide) cz_49 rfl rfl rfl (Nat.le_of_ble_eq_true rfl) (k_rowOf ht hn hc (by omega) (by first | omega | assumption | exact cu_36 (by omega) (cu_lt (by omega) (by omega)))) ?_
          show CR _ _ 33 [some (.ref a), some (.int (nI p)), some (.int (nI x)), some (.int (nI (roN n c x p))), some (.int (nI y)), none] [.int (nI (roN n c y p))] S G B J R _
          have b30 : roN n c y p < 64 := le_64 (by omega) (roN_lt (fun q hq => (hc.2 q hq).2) (by omega))
          refine cr_nx (pc' := 35) (al' := [some (.ref a), some (.int (nI p)), some (.int (nI x)), some (.int (nI (roN n c x p))), some (.int (nI y)), some (.int (nI (roN n c y p)))]) (st' := []) d_50_33 (fun _ => rfl) ?_
          refine cr_nx (pc' := 36) (al' := [some (.ref a), some (.int (nI p)), some (.int (nI x)), some (.int (nI (roN n c x p))), some (.int (nI y)), some (.int (nI (roN n c y p)))]) (st' := [.int (nI (roN n c x p))]) d_50_35 (fun _ => rfl) ?_
          refine cr_nx (pc' := 38) (al' := [some (.ref a), some (.int (nI p)), some (.int (nI x)), some (.int (nI (roN n c x p))), some (.int (nI y)), some (.int (nI (roN n c y p)))]) (st' := [.int (nI (roN n c y p)), .int (nI (roN n c x p))]) d_50_36 (fun _ => rfl) ?_
          refine cn_ceq (t := 50) d_50_38 (by decide) (by first | omega | assumption | exact cu_36 (by omega) (cu_lt (by omega) (by omega))) (by first | omega | assumption | exact cu_36 (by omega) (cu_lt (by omega) (by omega))) (fun c38 => ?_) (fun c38 => ?_)
          · refine cn_inc d_50_50 rfl rfl ?_
            show CR _ _ 53 [some (.ref a), some (.int (nI p)), some (.int (nI x)), some (.int (nI (roN n c x p))), some (.int (nI (y + 1))), some (.int (nI (roN n c y p)))] [] S G B J R _
            refine cr_nx (pc' := 20) (al' := [some (.ref a), some (.int (nI p)), some (.int (nI x)), some (.int (nI (roN n c x p))), some (.int (nI (y + 1))), some (.int (nI (roN n c y p)))]) (st' := []) d_50_53 (fun _ => rfl) ?_
            refine cr_dr (al1 := [some (.ref a), some (.int (nI p)), some (.int (nI x)), some (.int (nI (roN n c x p))), some (.int (nI (y + 1))), none]) (le_s (le_s (le_s (le_s (le_s (le_d rfl (le_n))))))) ?_
            exact ihy  (all_s (p := fun y => roN n c x p = roN n c y p ∨ roN n c x p &&& roN n c y p = 0) py (Or.inl c38))
          · refine cr_nx (pc' := 42) (al' := [some (.ref a), some (.int (nI p)), some (.int (nI x)), some (.int (nI (roN n c x p))), some (.int (nI y)), some (.int (nI (roN n c y p)))]) (st' := [.int (nI (roN n c x p))]) d_50_41 (fun _ => rfl) ?_
            refine cr_nx (pc' := 44) (al' := [some (.ref a), some (.int (nI p)), some (.int (nI x)), some (.int (nI (roN n c x p))), some (.int (nI y)), some (.int (nI (roN n c y p)))]) (st' := [.int (nI (roN n c y p)), .int (nI (roN n c x p))]) d_50_42 (fun _ => rfl) ?_
            refine cn_and d_50_44 ?_
            refine cn_ieq (t := 50) d_50_45 (by decide) (by exact Nat.lt_of_le_of_lt Nat.and_le_left (by omega)) (fun c45 => ?_) (fun c45 => ?_)
            · refine cn_inc d_50_50 rfl rfl ?_
              show CR _ _ 53 [some (.ref a), some (.int (nI p)), some (.int (nI x)), some (.int (nI (roN n c x p))), some (.int (nI (y + 1))), some (.int (nI (roN n c y p)))] [] S G B J R _
              refine cr_nx (pc' := 20) (al' := [some (.ref a), some (.int (nI p)), some (.int (nI x)), some (.int (nI (roN n c x p))), some (.int (nI (y + 1))), some (.int (nI (roN n c y p)))]) (st' := []) d_50_53 (fun _ => rfl) ?_
              refine cr_dr (al1 := [some (.ref a), some (.int (nI p)), some (.int (nI x)), some (.int (nI (roN n c x p))), some (.int (nI (y + 1))), none]) (le_s (le_s (le_s (le_s (le_s (le_d rfl (le_n))))))) ?_
              exact ihy  (all_s (p := fun y => roN n c x p = roN n c y p ∨ roN n c x p &&& roN n c y p = 0) py (Or.inr c45))
            · refine cn_ic (v := 0) d_50_48 (by decide) ?_
              exact cr_ri d_50_49 cx_50 (by decide) (bJ_f (fun e => (e x hx y hy).elim c38 (fun q => by omega)))
      · show CR _ _ 20 [some (.ref a), some (.int (nI p)), some (.int (nI x)), some (.int (nI (roN n c x p))), some (.int (nI x)), none] [] S G B J R _
        refine cr_nx (pc' := 22) (al' := [some (.ref a), some (.int (nI p)), some (.int (nI x)), some (.int (nI (roN n c x p))), some (.int (nI x)), none]) (st' := [.int (nI x)]) d_50_20 (fun _ => rfl) ?_
        refine cr_nx (pc' := 23) (al' := [some (.ref a), some (.int (nI p)), some (.int (nI x)), some (.int (nI (roN n c x p))), some (.int (nI x)), none]) (st' := [.int (nI x), .int (nI x)]) d_50_22 (fun _ => rfl) ?_
        refine cn_cge (t := 56) d_50_23 (by decide) (by first | omega | assumption | exact cu_36 (by omega) (cu_lt (by omega) (by omega))) (by first | omega | assumption | exact cu_36 (by omega) (cu_lt (by omega) (by omega))) (fun c23 => ?_) (fun c23 => ?_)
        · refine cn_inc d_50_56 rfl rfl ?_
          show CR _ _ 59 [some (.ref a), some (.int (nI p)), some (.int (nI (x + 1))), some (.int (nI (roN n c x p))), some (.int (nI x)), none] [] S G B J R _
          refine cr_nx (pc' := 2) (al' := [some (.ref a), some (.int (nI p)), some (.int (nI (x + 1))), some (.int (nI (roN n c x p))), some (.int (nI x)), none]) (st' := []) d_50_59 (fun _ => rfl) ?_
          refine cr_dr (al1 := [some (.ref a), some (.int (nI p)), some (.int (nI (x + 1))), none, none, none]) (le_s (le_s (le_s (le_d rfl (le_d rfl (le_s (le_n))))))) ?_
          exact ihx  (all_s px py)
        · omega
  · show CR _ _ 2 [some (.ref a), some (.int (nI p)), some (.int (nI n)), none, none, none] [] S G B J R _
    refine cr_nx (pc' := 3) (al' := [some (.ref a), some (.int (nI p)), some (.int (nI n)), none, none, none]) (st' := [.int (nI n)]) d_50_2 (fun _ => rfl) ?_
    refine cr_nx (pc' := 4) (al' := [some (.ref a), some (.int (nI p)), some (.int (nI n)), none, none, none]) (st' := [.ref a, .int (nI n)]) d_50_3 (fun _ => rfl) ?_
    refine cr_gf (v := .int (nI n)) d_50_4 cw_50 cf_7_21 ht.1 ht.2.2.1 (by decide) hn ?_
    refine cn_cge (t := 62) d_50_7 (by decide) (by first | omega | assumption | exact cu_36 (by omega) (cu_lt (by omega) (by omega))) (by first | omega | assumption | exact cu_36 (by omega) (cu_lt (by omega) (by omega))) (fun c7 => ?_) (fun c7 => ?_)
    · refine cn_ic (v := 1) d_50_62 (by decide) ?_
      exact cr_ri d_50_63 cx_50 (by decide) (bJ_t px)
    · omega
theorem k_classesJoin {S : CS} {G : Nat → Nat → Value} {B : Nat → Nat → Int32} {J : Nat → Nat → Int64} {R : Nat → Nat → Option Nat} {a n : Nat} (ht : TabAt S G a) (hn : G a 0 = .int (nI n)) {c : Nat → Nat} (hc : TabC B a n c) {p : Nat} (hp0 : 0 < p) (hp : p < 2 ^ n) : CR 3 51 0 [some (.ref a), some (.int (nI p)), none, none, none, none] [] S G B J R (cP (some (.int (bI (CjJ n c p)))) S G B J R) := by
  have hn6 := hc.1
  have hp64 := le_64 hn6 hp
  have hcc : ∀ q, q < n * n → c q < n := fun q hq => (hc.2 q hq).2
  refine cn_ic (v := 0) d_51_0 (by decide) ?_
  refine cr_nx (pc' := 2) (al' := [some (.ref a), some (.int (nI p)), some (.int (nI 0)), none, none, none]) (st' := []) d_51_1 (fun _ => rfl) ?_
  refine cr_up (al := fun x => [some (.ref a), some (.int (nI p)), some (.int (nI x)), none, none, none]) (S := fun x => S) (G := fun x => G) (B := fun x => B) (J := fun x => J) (R := fun x => R) (P := fun x => ∀ u, u < x → ∀ y, y < n → lwN n c p (c (n * u + y)) = lwN n c p (c (n * lwN n c p u + lwN n c p y))) (n := n) (fun x hx px ihx => ?_) (fun px => ?_) 0  (by omega) (all_0)
  · show CR _ _ 2 [some (.ref a), some (.int (nI p)), some (.int (nI x)), none, none, none] [] S G B J R _
    refine cr_nx (pc' := 3) (al' := [some (.ref a), some (.int (nI p)), some (.int (nI x)), none, none, none]) (st' := [.int (nI x)]) d_51_2 (fun _ => rfl) ?_
    refine cr_nx (pc' := 4) (al' := [some (.ref a), some (.int (nI p)), some (.int (nI x)), none, none, none]) (st' := [.ref a, .int (nI x)]) d_51_3 (fun _ => rfl) ?_
    refine cr_gf (v := .int (nI n)) d_51_4 cw_51 cf_7_21 ht.1 ht.2.2.1 (by decide) hn ?_
    refine cn_cge (t := 79) d_51_7 (by decide) (by first | omega | assumption | exact cu_36 (by omega) (cu_lt (by omega) (by omega))) (by first | omega | assumption | exact cu_36 (by omega) (cu_lt (by omega) (by omega))) (fun c7 => ?_) (fun c7 => ?_)
    · omega
    · refine cr_nx (pc' := 11) (al' := [some (.ref a), some (.int (nI p)), some (.int (nI x)), none, none, none]) (st' := [.ref a]) d_51_10 (fun _ => rfl) ?_
      refine cr_nx (pc' := 12) (al' := [some (.ref a), some (.int (nI p)), some (.int (nI x)), none, none, none]) (st' := [.int (nI x), .ref a]) d_51_11 (fun _ => rfl) ?_
      refine cr_nx (pc' := 13) (al' := [some (.ref a), some (.int (nI p)), some (.int (nI x)), none, none, none]) (st' := [.int (nI p), .int (nI x), .ref a]) d_51_12 (fun _ => rfl) ?_
      refine cr_ps (as := [.ref a, .int (nI x), .int (nI p)]) (al0 := [some (.ref a), some (.int (nI x)), some (.int (nI p))]) (r := []) d_51_13 cw_51 cm_7_43 (by decide) cz_52 rfl rfl rfl (Nat.le_of_ble_eq_true rfl) (k_lowest ht hn hc (by first | omega | assumption | exact cu_36 (by omega) (cu_lt (by omega) (by omega))) hp0 hp) ?_
      show CR _ _ 16 [some (.ref a), some (.int (nI p)), some (.int (nI x)), none, none, none] [.int (nI (lwN n c p x))] S G B J R _
      have b13 : lwN n c p x < n := (lw_f (by omega) (fun q hq => (hc.2 q hq).2) (by first | omega | assumption | exact cu_36 (by omega) (cu_lt (by omega) (by omega))) hp0 hp).1
      refine cr_nx (pc' := 17) (al' := [some (.ref a), some (.int (nI p)), some (.int (nI x)), some (.int (nI (lwN n c p x))), none, none]) (st' := []) d_51_16 (fun _ => rfl) ?_
      refine cn_ic (v := 0) d_51_17 (by decide) ?_
      refine cr_nx (pc' := 20) (al' := [some (.ref a), some (.int (nI p)), some (.int (nI x)), some (.int (nI (lwN n c p x))), some (.int (nI 0)), none]) (st' := []) d_51_18 (fun _ => rfl) ?_
      refine cr_up (al := fun y => [some (.ref a), some (.int (nI p)), some (.int (nI x)), some (.int (nI (lwN n c p x))), some (.int (nI y)), none]) (S := fun y => S) (G := fun y => G) (B := fun y => B) (J := fun y => J) (R := fun y => R) (P := fun y => ∀ v, v < y → lwN n c p (c (n * x + v)) = lwN n c p (c (n * lwN n c p x + lwN n c p v))) (n := n) (fun y hy py ihy => ?_) (fun py => ?_) 0  (by omega) (all_0)
      · show CR _ _ 20 [some (.ref a), some (.int (nI p)), some (.int (nI x)), some (.int (nI (lwN n c p x))), some (.int (nI y)), none] [] S G B J R _
        refine cr_nx (pc' := 22) (al' := [some (.ref a), some (.int (nI p)), some (.int (nI x)), some (.int (nI (lwN n c p x))), some (.int (nI y)), none]) (st' := [.int (nI y)]) d_51_20 (fun _ => rfl) ?_
        refine cr_nx (pc' := 23) (al' := [some (.ref a), some (.int (nI p)), some (.int (nI x)), some (.int (nI (lwN n c p x))), some (.int (nI y)), none]) (st' := [.ref a, .int (nI y)]) d_51_22 (fun _ => rfl) ?_
        refine cr_gf (v := .int (nI n)) d_51_23 cw_51 cf_7_21 ht.1 ht.2.2.1 (by decide) hn ?_
        refine cn_cge (t := 73) d_51_26 (by decide) (by first | omega | assumption | exact cu_36 (by omega) (cu_lt (by omega) (by omega))) (by first | omega | assumption | exact cu_36 (by omega) (cu_lt (by omega) (by omega))) (fun c26 => ?_) (fun c26 => ?_)
        · omega
        · refine cr_nx (pc' := 30) (al' := [some (.ref a), some (.int (nI p)), some (.int (nI x)), some (.int (nI (lwN n c p x))), some (.int (nI y)), none]) (st' := [.ref a]) d_51_29 (fun _ => rfl) ?_
          refine cr_nx (pc' := 31) (al' := [some (.ref a), some (.int (nI p)), some (.int (nI x)), some (.int (nI (lwN n c p x))), some (.int (nI y)), none]) (st' := [.int (nI (lwN n c p x)), .ref a]) d_51_30 (fun _ => rfl) ?_
          refine cr_nx (pc' := 32) (al' := [some (.ref a), some (.int (nI p)), some (.int (nI x)), some (.int (nI (lwN n c p x))), some (.int (nI y)), none]) (st' := [.ref a, .int (nI (lwN n c p x)), .ref a]) d_51_31 (fun _ => rfl) ?_
          refine cr_nx (pc' := 34) (al' := [some (.ref a), some (.int (nI p)), some (.int (nI x)), some (.int (nI (lwN n c p x))), some (.int (nI y)), none]) (st' := [.int (nI y), .ref a, .int (nI (lwN n c p x)), .ref a]) d_51_32 (fun _ => rfl) ?_
          refine cr_nx (pc' := 35) (al' := [some (.ref a), some (.int (nI p)), some (.int (nI x)), some (.int (nI (lwN n c p x))), some (.int (nI y)), none]) (st' := [.int (nI p), .int (nI y), .ref a, .int (nI (lwN n c p x)), .ref a]) d_51_34 (fun _ => rfl) ?_
          refine cr_ps (as := [.ref a, .int (nI y), .int (nI p)]) (al0 := [some (.ref a), some (.int (nI y)), some (.int (nI p))]) (r := [.int (nI (lwN n c p x)), .ref a]) d_51_35 cw_51 cm_7_43 (by decide) cz_52 rfl rfl rfl (Nat.le_of_ble_eq_true rfl) (k_lowest ht hn hc (by first | omega | assumption | exact cu_36 (by omega) (cu_lt (by omega) (by omega))) hp0 hp) ?_
          show CR _ _ 38 [some (.ref a), some (.int (nI p)), some (.int (nI x)), some (.int (nI (lwN n c p x))), some (.int (nI y)), none] [.int (nI (lwN n c p y)), .int (nI (lwN n c p x)), .ref a] S G B J R _
          have b35 : lwN n c p y < n := (lw_f (by omega) (fun q hq => (hc.2 q hq).2) (by first | omega | assumption | exact cu_36 (by omega) (cu_lt (by omega) (by omega))) hp0 hp).1
          refine cr_pv (b := a) (as := [.int (nI (lwN n c p x)), .int (nI (lwN n c p y))]) (al0 := [some (.ref a), some (.int (nI (lwN n c p x))), some (.int (nI (lwN n c p y)))]) (r := []) d_51_38 cw_51 cm_7_29 cz_91 rfl rfl ht.1 (by rw [cw_91]; exact ht.2.2.1) (by rw [cw_91]; decide) rfl (Nat.le_of_ble_eq_true rfl) (k_times ht hn hc (by omega) (by omega)) ?_
          show CR _ _ 41 [some (.ref a), some (.int (nI p)), some (.int (nI x)), some (.int (nI (lwN n c p x))), some (.int (nI y)), none] [.int (nI (c (n * (lwN n c p x) + (lwN n c p y))))] S G B J R _
          have b38 : c (n * (lwN n c p x) + (lwN n c p y)) < n := (hc.2 _ (cu_lt (by omega) (by omega))).2
          refine cr_nx (pc' := 43) (al' := [some (.ref a), some (.int (nI p)), some (.int (nI x)), some (.int (nI (lwN n c p x))), some (.int (nI y)), some (.int (nI (c (n * (lwN n c p x) + (lwN n c p y)))))]) (st' := []) d_51_41 (fun _ => rfl) ?_
          refine cr_nx (pc' := 44) (al' := [some (.ref a), some (.int (nI p)), some (.int (nI x)), some (.int (nI (lwN n c p x))), some (.int (nI y)), some (.int (nI (c (n * (lwN n c p x) + (lwN n c p y)))))]) (st' := [.ref a]) d_51_43 (fun _ => rfl) ?_
          refine cr_nx (pc' := 45) (al' := [some (.ref a), some (.int (nI p)), some (.int (nI x)), some (.int (nI (lwN n c p x))), some (.int (nI y)), some (.int (nI (c (n * (lwN n c p x) + (lwN n c p y)))))]) (st' := [.ref a, .ref a]) d_51_44 (fun _ => rfl) ?_
          refine cr_nx (pc' := 46) (al' := [some (.ref a), some (.int (nI p)), some (.int (nI x)), some (.int (nI (lwN n c p x))), some (.int (nI y)), some (.int (nI (c (n * (lwN n c p x) + (lwN n c p y)))))]) (st' := [.int (nI x), .ref a, .ref a]) d_51_45 (fun _ => rfl) ?_
          refine cr_nx (pc' := 48) (al' := [some (.ref a), some (.int (nI p)), some (.int (nI x)), some (.int (nI (lwN n c p x))), some (.int (nI y)), some (.int (nI (c (n * (lwN n c p x) + (lwN n c p y)))))]) (st' := [.int (nI y), .int (nI x), .ref a, .ref a]) d_51_46 (fun _ => rfl) ?_
          refine cr_pv (b := a) (as := [.int (nI x), .int (nI y)]) (al0 := [some (.ref a), some (.int (nI x)), some (.int (nI y))]) (r := [.ref a]) d_51_48 cw_51 cm_7_29 cz_91 rfl rfl ht.1 (by rw [cw_91]; exact ht.2.2.1) (by rw [cw_91]; decide) rfl (Nat.le_of_ble_eq_true rfl) (k_times ht hn hc (by omega) (by omega)) ?_
          show CR _ _ 51 [some (.ref a), some (.int (nI p)), some (.int (nI x)), some (.int (nI (lwN n c p x))), some (.int (nI y)), some (.int (nI (c (n * (lwN n c p x) + (lwN n c p y)))))] [.int (nI (c (n * x + y))), .ref a] S G B J R _
          have b48 : c (n * x + y) < n := (hc.2 _ (cu_lt (by omega) (by omega))).2
          refine cr_nx (pc' := 52) (al' := [some (.ref a), some (.int (nI p)), some (.int (nI x)), some (.int (nI (lwN n c p x))), some (.int (nI y)), some (.int (nI (c (n * (lwN n c p x) + (lwN n c p y)))))]) (st' := [.int (nI p), .int (nI (c (n * x + y))), .ref a]) d_51_51 (fun _ => rfl) ?_
          refine cr_ps (as := [.ref a, .int (nI (c (n * x + y))), .int (nI p)]) (al0 := [some (.ref a), some (.int (nI (c (n * x + y)))), some (.int (nI p))]) (r := []) d_51_52 cw_51 cm_7_43 (by decide) cz_52 rfl rfl rfl (Nat.le_of_ble_eq_true rfl) (k_lowest ht hn hc (by first | omega | assumption | exact cu_36 (by omega) (cu_lt (by omega) (by omega))) hp0 hp) ?_
          show CR _ _ 55 [some (.ref a), some (.int (nI p)), some (.int (nI x)), some (.int (nI (lwN n c p x))), some (.int (nI y)), some (.int (nI (c (n * (lwN n c p x) + (lwN n c p y)))))] [.int (nI (lwN n c p (c (n * x + y))))] S G B J R _
          have b52 : lwN n c p (c (n * x + y)) < n := (lw_f (by omega) (fun q hq => (hc.2 q hq).2) (by first | omega | assumption | exact cu_36 (by omega) (cu_lt (by omega) (by omega))) hp0 hp).1
          refine cr_nx (pc' := 56) (al' := [some (.ref a), some (.int (nI p)), some (.int (nI x)), some (.int (nI (lwN n c p x))), some (.int (nI y)), some (.int (nI (c (n * (lwN n c p x) + (lwN n c p y)))))]) (st' := [.ref a, .int (nI (lwN n c p (c (n * x + y))))]) d_51_55 (fun _ => rfl) ?_
          refine cr_nx (pc' := 58) (al' := [some (.ref a), some (.int (nI p)), some (.int (nI x)), some (.int (nI (lwN n c p x))), some (.int (nI y)), some (.int (nI (c (n * (lwN n c p x) + (lwN n c p y)))))]) (st' := [.int (nI (c (n * (lwN n c p x) + (lwN n c p y)))), .ref a, .int (nI (lwN n c p (c (n * x + y))))]) d_51_56 (fun _ => rfl) ?_
          refine cr_nx (pc' := 59) (al' := [some (.ref a), some (.int (nI p)), some (.int (nI x)), some (.int (nI (lwN n c p x))), some (.int (nI y)), some (.int (nI (c (n * (lwN n c p x) + (lwN n c p y)))))]) (st' := [.int (nI p), .int (nI (c (n * (lwN n c p x) + (lwN n c p y)))), .ref a, .int (nI (lwN n c p (c (n * x + y))))]) d_51_58 (fun _ => rfl) ?_
          refine cr_ps (as := [.ref a, .int (nI (c (n * (lwN n c p x) + (lwN n c p y)))), .int (nI p)]) (al0 := [some (.ref a), some (.int (nI (c (n * (lwN n c p x) + (lwN n c p y))))), some (.int (nI p))]) (r := [.int (nI (lwN n c p (c (n * x + y))))]) d_51_59 cw_51 cm_7_43 (by decide) cz_52 rfl rfl rfl (Nat.le_of_ble_eq_true rfl) (k_lowest ht hn hc (by first | omega | assumption | exact cu_36 (by omega) (cu_lt (by omega) (by omega))) hp0 hp) ?_
          show CR _ _ 62 [some (.ref a), some (.int (nI p)), some (.int (nI x)), some (.int (nI (lwN n c p x))), some (.int (nI y)), some (.int (nI (c (n * (lwN n c p x) + (lwN n c p y)))))] [.int (nI (lwN n c p (c (n * (lwN n c p x) + (lwN n c p y))))), .int (nI (lwN n c p (c (n * x + y))))] S G B J R _
          have b59 : lwN n c p (c (n * (lwN n c p x) + (lwN n c p y))) < n := (lw_f (by omega) (fun q hq => (hc.2 q hq).2) (by first | omega | assumption | exact cu_36 (by omega) (cu_lt (by omega) (by omega))) hp0 hp).1
          refine cn_ceq (t := 67) d_51_62 (by decide) (by first | omega | assumption | exact cu_36 (by omega) (cu_lt (by omega) (by omega))) (by first | omega | assumption | exact cu_36 (by omega) (cu_lt (by omega) (by omega))) (fun c62 => ?_) (fun c62 => ?_)
          · refine cn_inc d_51_67 rfl rfl ?_
            show CR _ _ 70 [some (.ref a), some (.int (nI p)), some (.int (nI x)), some (.int (nI (lwN n c p x))), some (.int (nI (y + 1))), some (.int (nI (c (n * (lwN n c p x) + (lwN n c p y)))))] [] S G B J R _
            refine cr_nx (pc' := 20) (al' := [some (.ref a), some (.int (nI p)), some (.int (nI x)), some (.int (nI (lwN n c p x))), some (.int (nI (y + 1))), some (.int (nI (c (n * (lwN n c p x) + (lwN n c p y)))))]) (st' := []) d_51_70 (fun _ => rfl) ?_
            refine cr_dr (al1 := [some (.ref a), some (.int (nI p)), some (.int (nI x)), some (.int (nI (lwN n c p x))), some (.int (nI (y + 1))), none]) (le_s (le_s (le_s (le_s (le_s (le_d rfl (le_n))))))) ?_
            exact ihy  (all_s (p := fun y => lwN n c p (c (n * x + y)) = lwN n c p (c (n * lwN n c p x + lwN n c p y))) py c62)
          · refine cn_ic (v := 0) d_51_65 (by decide) ?_
            exact cr_ri d_51_66 cx_51 (by decide) (bJ_f (fun e => c62 (e x hx y hy)))
      · show CR _ _ 20 [some (.ref a), some (.int (nI p)), some (.int (nI x)), some (.int (nI (lwN n c p x))), some (.int (nI n)), none] [] S G B J R _
        refine cr_nx (pc' := 22) (al' := [some (.ref a), some (.int (nI p)), some (.int (nI x)), some (.int (nI (lwN n c p x))), some (.int (nI n)), none]) (st' := [.int (nI n)]) d_51_20 (fun _ => rfl) ?_
        refine cr_nx (pc' := 23) (al' := [some (.ref a), some (.int (nI p)), some (.int (nI x)), some (.int (nI (lwN n c p x))), some (.int (nI n)), none]) (st' := [.ref a, .int (nI n)]) d_51_22 (fun _ => rfl) ?_
        refine cr_gf (v := .int (nI n)) d_51_23 cw_51 cf_7_21 ht.1 ht.2.2.1 (by decide) hn ?_
        refine cn_cge (t := 73) d_51_26 (by decide) (by first | omega | assumption | exact cu_36 (by omega) (cu_lt (by omega) (by omega))) (by first | omega | assumption | exact cu_36 (by omega) (cu_lt (by omega) (by omega))) (fun c26 => ?_) (fun c26 => ?_)
        · refine cn_inc d_51_73 rfl rfl ?_
          show CR _ _ 76 [some (.ref a), some (.int (nI p)), some (.int (nI (x + 1))), some (.int (nI (lwN n c p x))), some (.int (nI n)), none] [] S G B J R _
          refine cr_nx (pc' := 2) (al' := [some (.ref a), some (.int (nI p)), some (.int (nI (x + 1))), some (.int (nI (lwN n c p x))), some (.int (nI n)), none]) (st' := []) d_51_76 (fun _ => rfl) ?_
          refine cr_dr (al1 := [some (.ref a), some (.int (nI p)), some (.int (nI (x + 1))), none, none, none]) (le_s (le_s (le_s (le_d rfl (le_d rfl (le_s (le_n))))))) ?_
          exact ihx  (all_s px py)
        · omega
  · show CR _ _ 2 [some (.ref a), some (.int (nI p)), some (.int (nI n)), none, none, none] [] S G B J R _
    refine cr_nx (pc' := 3) (al' := [some (.ref a), some (.int (nI p)), some (.int (nI n)), none, none, none]) (st' := [.int (nI n)]) d_51_2 (fun _ => rfl) ?_
    refine cr_nx (pc' := 4) (al' := [some (.ref a), some (.int (nI p)), some (.int (nI n)), none, none, none]) (st' := [.ref a, .int (nI n)]) d_51_3 (fun _ => rfl) ?_
    refine cr_gf (v := .int (nI n)) d_51_4 cw_51 cf_7_21 ht.1 ht.2.2.1 (by decide) hn ?_
    refine cn_cge (t := 79) d_51_7 (by decide) (by first | omega | assumption | exact cu_36 (by omega) (cu_lt (by omega) (by omega))) (by first | omega | assumption | exact cu_36 (by omega) (cu_lt (by omega) (by omega))) (fun c7 => ?_) (fun c7 => ?_)
    · refine cn_ic (v := 1) d_51_79 (by decide) ?_
      exact cr_ri d_51_80 cx_51 (by decide) (bJ_t px)
    · omega
theorem k_isNormal {S : CS} {G : Nat → Nat → Value} {B : Nat → Nat → Int32} {J : Nat → Nat → Int64} {R : Nat → Nat → Option Nat} {a n : Nat} (ht : TabAt S G a) (hn : G a 0 = .int (nI n)) {c : Nat → Nat} (hc : TabC B a n c) {p : Nat} (hp31 : p < 2 ^ 31) : CR 4 46 0 [some (.ref a), some (.int (nI p))] [] S G B J R (cP (some (.int (bI (Nrm n c p)))) S G B J R) := by
  have hn6 := hc.1
  refine cr_nx (pc' := 1) (al' := [some (.ref a), some (.int (nI p))]) (st' := [.ref a]) d_46_0 (fun _ => rfl) ?_
  refine cr_nx (pc' := 2) (al' := [some (.ref a), some (.int (nI p))]) (st' := [.int (nI p), .ref a]) d_46_1 (fun _ => rfl) ?_
  refine cr_ps (as := [.ref a, .int (nI p)]) (al0 := [some (.ref a), some (.int (nI p))]) (r := []) d_46_2 cw_46 cm_7_33 (by decide) cz_47 rfl rfl rfl (Nat.le_of_ble_eq_true rfl) (k_isClosed ht hn hc (by first | omega | assumption | exact cu_36 (by omega) (cu_lt (by omega) (by omega)))) ?_
  show CR _ _ 5 [some (.ref a), some (.int (nI p))] [.int (bI (clB n c p = true))] S G B J R _
  refine cr_beq (t := 28) d_46_5 (by decide) (fun c5 => ?_) (fun c5 => ?_)
  · refine cn_ic (v := 0) d_46_28 (by decide) ?_
    exact cr_ri d_46_29 cx_46 (by decide) (bJ_f (fun e => by first | exact c21 e.2.2 | exact c13 e.2.1 | exact c5 e.1))
  · have hp0 := (clB_iff.mp c5).1.1
    have hp := (clB_iff.mp c5).1.2
    refine cr_nx (pc' := 9) (al' := [some (.ref a), some (.int (nI p))]) (st' := [.ref a]) d_46_8 (fun _ => rfl) ?_
    refine cr_nx (pc' := 10) (al' := [some (.ref a), some (.int (nI p))]) (st' := [.int (nI p), .ref a]) d_46_9 (fun _ => rfl) ?_
    refine cr_ps (as := [.ref a, .int (nI p)]) (al0 := [some (.ref a), some (.int (nI p)), none, none, none, none]) (r := []) d_46_10 cw_46 cm_7_37 (by decide) cz_50 rfl rfl rfl (Nat.le_of_ble_eq_true rfl) (k_rowsFallAsunder ht hn hc hp) ?_
    show CR _ _ 13 [some (.ref a), some (.int (nI p))] [.int (bI (FaA n c p))] S G B J R _
    refine cr_beq (t := 28) d_46_13 (by decide) (fun c13 => ?_) (fun c13 => ?_)
    · refine cn_ic (v := 0) d_46_28 (by decide) ?_
      exact cr_ri d_46_29 cx_46 (by decide) (bJ_f (fun e => by first | exact c21 e.2.2 | exact c13 e.2.1 | exact c5 e.1))
    · refine cr_nx (pc' := 17) (al' := [some (.ref a), some (.int (nI p))]) (st' := [.ref a]) d_46_16 (fun _ => rfl) ?_
      refine cr_nx (pc' := 18) (al' := [some (.ref a), some (.int (nI p))]) (st' := [.int (nI p), .ref a]) d_46_17 (fun _ => rfl) ?_
      refine cr_ps (as := [.ref a, .int (nI p)]) (al0 := [some (.ref a), some (.int (nI p)), none, none, none, none]) (r := []) d_46_18 cw_46 cm_7_40 (by decide) cz_51 rfl rfl rfl (Nat.le_of_ble_eq_true rfl) (k_classesJoin ht hn hc hp0 hp) ?_
      show CR _ _ 21 [some (.ref a), some (.int (nI p))] [.int (bI (CjJ n c p))] S G B J R _
      refine cr_beq (t := 28) d_46_21 (by decide) (fun c21 => ?_) (fun c21 => ?_)
      · refine cn_ic (v := 0) d_46_28 (by decide) ?_
        exact cr_ri d_46_29 cx_46 (by decide) (bJ_f (fun e => by first | exact c21 e.2.2 | exact c13 e.2.1 | exact c5 e.1))
      · refine cn_ic (v := 1) d_46_24 (by decide) ?_
        refine cr_nx (pc' := 29) (al' := [some (.ref a), some (.int (nI p))]) (st' := [.int (nI 1)]) d_46_25 (fun _ => rfl) ?_
        exact cr_ri d_46_29 cx_46 (by decide) (bJ_t ⟨c5, c13, c21⟩)
def npF (n : Nat) (c : Nat → Nat) (p : Nat) : Nat := if Nrm n c p then 1 else 0
def npN (n : Nat) (c : Nat → Nat) : Nat := SM (npF n c) (1 * 2 ^ n)
theorem npF_1 {n : Nat} {c : Nat → Nat} (i : Nat) : npF n c i ≤ 1 := by
  unfold npF
  split <;> omega
theorem npF_0 {n : Nat} {c : Nat → Nat} : npF n c 0 = 0 := by
  unfold npF
  rw [if_neg]
  intro e
  have := (clB_iff.mp e.1).1.1
  omega
theorem k_closedOnes1 {S : CS} {G : Nat → Nat → Value} {B : Nat → Nat → Int32} {J : Nat → Nat → Int64} {R : Nat → Nat → Option Nat} {a n : Nat} (ht : TabAt S G a) (hn : G a 0 = .int (nI n)) {c : Nat → Nat} (hc : TabC B a n c) : CR 5 64 0 [some (.ref a), some (.int (nI 1)), none, none] [] S G B J R (cP (some (.int (nI (npN n c)))) S G B J R) := by
  have hn6 := hc.1
  have hm64 := m_lt hn6
  refine cn_ic (v := 0) d_64_0 (by decide) ?_
  refine cr_nx (pc' := 2) (al' := [some (.ref a), some (.int (nI 1)), some (.int (nI 0)), none]) (st' := []) d_64_1 (fun _ => rfl) ?_
  refine cn_ic (v := 1) d_64_2 (by decide) ?_
  refine cr_nx (pc' := 4) (al' := [some (.ref a), some (.int (nI 1)), some (.int (nI 0)), some (.int (nI 1))]) (st' := []) d_64_3 (fun _ => rfl) ?_
  refine cr_al (congrArg (fun z__ : Nat => ([some (.ref a), some (.int (nI 1)), some (.int (nI z__)), some (.int (nI 1))] : AL)) (show 0 = SM (npF n c) 1 by show 0 = 0 + npF n c 0; rw [npF_0])) ?_
  refine cr_up (al := fun i => [some (.ref a), some (.int (nI 1)), some (.int (nI (SM (npF n c) i))), some (.int (nI i))]) (S := fun i => S) (G := fun i => G) (B := fun i => B) (J := fun i => J) (R := fun i => R) (P := fun i => True) (n := 1 * 2 ^ n) (fun i hi pi ihi => ?_) (fun pi => ?_) 1  (by omega) (trivial)
  · show CR _ _ 4 [some (.ref a), some (.int (nI 1)), some (.int (nI (SM (npF n c) i))), some (.int (nI i))] [] S G B J R _
    refine cr_nx (pc' := 5) (al' := [some (.ref a), some (.int (nI 1)), some (.int (nI (SM (npF n c) i))), some (.int (nI i))]) (st' := [.int (nI i)]) d_64_4 (fun _ => rfl) ?_
    refine cn_ic (v := 1) d_64_5 (by decide) ?_
    refine cr_nx (pc' := 7) (al' := [some (.ref a), some (.int (nI 1)), some (.int (nI (SM (npF n c) i))), some (.int (nI i))]) (st' := [.ref a, .int (nI 1), .int (nI i)]) d_64_6 (fun _ => rfl) ?_
    refine cr_gf (v := .int (nI n)) d_64_7 cw_64 cf_7_21 ht.1 ht.2.2.1 (by decide) hn ?_
    refine cn_shl d_64_10 (by first | omega | assumption | exact cu_36 (by omega) (cu_lt (by omega) (by omega))) ?_
    refine cn_cge (t := 46) d_64_11 (by decide) (by first | omega | assumption | exact cu_36 (by omega) (cu_lt (by omega) (by omega))) (by first | omega | assumption | exact cu_36 (by omega) (cu_lt (by omega) (by omega))) (fun c11 => ?_) (fun c11 => ?_)
    · omega
    · refine cr_nx (pc' := 15) (al' := [some (.ref a), some (.int (nI 1)), some (.int (nI (SM (npF n c) i))), some (.int (nI i))]) (st' := [.int (nI 1)]) d_64_14 (fun _ => rfl) ?_
      refine cn_ieq (t := 29) d_64_15 (by decide) (by first | omega | assumption | exact cu_36 (by omega) (cu_lt (by omega) (by omega))) (fun c15 => ?_) (fun c15 => ?_)
      · omega
      · refine cr_nx (pc' := 19) (al' := [some (.ref a), some (.int (nI 1)), some (.int (nI (SM (npF n c) i))), some (.int (nI i))]) (st' := [.ref a]) d_64_18 (fun _ => rfl) ?_
        refine cr_nx (pc' := 20) (al' := [some (.ref a), some (.int (nI 1)), some (.int (nI (SM (npF n c) i))), some (.int (nI i))]) (st' := [.int (nI i), .ref a]) d_64_19 (fun _ => rfl) ?_
        refine cr_ps (as := [.ref a, .int (nI i)]) (al0 := [some (.ref a), some (.int (nI i))]) (r := []) d_64_20 cw_64 cm_7_63 (by decide) cz_46 rfl rfl rfl (Nat.le_of_ble_eq_true rfl) (k_isNormal ht hn hc (by omega)) ?_
        show CR _ _ 23 [some (.ref a), some (.int (nI 1)), some (.int (nI (SM (npF n c) i))), some (.int (nI i))] [.int (bI (Nrm n c i))] S G B J R _
        refine cr_beq (t := 40) d_64_23 (by decide) (fun c23 => ?_) (fun c23 => ?_)
        · refine cn_inc d_64_40 rfl rfl ?_
          show CR _ _ 43 [some (.ref a), some (.int (nI 1)), some (.int (nI (SM (npF n c) i))), some (.int (nI (i + 1)))] [] S G B J R _
          refine cr_nx (pc' := 4) (al' := [some (.ref a), some (.int (nI 1)), some (.int (nI (SM (npF n c) i))), some (.int (nI (i + 1)))]) (st' := []) d_64_43 (fun _ => rfl) ?_
          refine cr_al (congrArg (fun z__ : Nat => ([some (.ref a), some (.int (nI 1)), some (.int (nI z__)), some (.int (nI (i + 1)))] : AL)) (show SM (npF n c) i = SM (npF n c) (i + 1) by rw [SM_s, npF, if_neg c23]; rfl)) ?_
          exact ihi  (trivial)
        · refine cr_nx (pc' := 37) (al' := [some (.ref a), some (.int (nI 1)), some (.int (nI (SM (npF n c) i))), some (.int (nI i))]) (st' := []) d_64_26 (fun _ => rfl) ?_
          refine cn_inc d_64_37 rfl rfl ?_
          show CR _ _ 40 [some (.ref a), some (.int (nI 1)), some (.int (nI ((SM (npF n c) i) + 1))), some (.int (nI i))] [] S G B J R _
          refine cn_inc d_64_40 rfl rfl ?_
          show CR _ _ 43 [some (.ref a), some (.int (nI 1)), some (.int (nI ((SM (npF n c) i) + 1))), some (.int (nI (i + 1)))] [] S G B J R _
          refine cr_nx (pc' := 4) (al' := [some (.ref a), some (.int (nI 1)), some (.int (nI ((SM (npF n c) i) + 1))), some (.int (nI (i + 1)))]) (st' := []) d_64_43 (fun _ => rfl) ?_
          refine cr_al (congrArg (fun z__ : Nat => ([some (.ref a), some (.int (nI 1)), some (.int (nI z__)), some (.int (nI (i + 1)))] : AL)) (show (SM (npF n c) i) + 1 = SM (npF n c) (i + 1) by rw [SM_s, npF, if_pos c23])) ?_
          exact ihi  (trivial)
  · show CR _ _ 4 [some (.ref a), some (.int (nI 1)), some (.int (nI (SM (npF n c) (1 * 2 ^ n)))), some (.int (nI (1 * 2 ^ n)))] [] S G B J R _
    refine cr_nx (pc' := 5) (al' := [some (.ref a), some (.int (nI 1)), some (.int (nI (SM (npF n c) (1 * 2 ^ n)))), some (.int (nI (1 * 2 ^ n)))]) (st' := [.int (nI (1 * 2 ^ n))]) d_64_4 (fun _ => rfl) ?_
    refine cn_ic (v := 1) d_64_5 (by decide) ?_
    refine cr_nx (pc' := 7) (al' := [some (.ref a), some (.int (nI 1)), some (.int (nI (SM (npF n c) (1 * 2 ^ n)))), some (.int (nI (1 * 2 ^ n)))]) (st' := [.ref a, .int (nI 1), .int (nI (1 * 2 ^ n))]) d_64_6 (fun _ => rfl) ?_
    refine cr_gf (v := .int (nI n)) d_64_7 cw_64 cf_7_21 ht.1 ht.2.2.1 (by decide) hn ?_
    refine cn_shl d_64_10 (by first | omega | assumption | exact cu_36 (by omega) (cu_lt (by omega) (by omega))) ?_
    refine cn_cge (t := 46) d_64_11 (by decide) (by first | omega | assumption | exact cu_36 (by omega) (cu_lt (by omega) (by omega))) (by first | omega | assumption | exact cu_36 (by omega) (cu_lt (by omega) (by omega))) (fun c11 => ?_) (fun c11 => ?_)
    · refine cr_nx (pc' := 47) (al' := [some (.ref a), some (.int (nI 1)), some (.int (nI (SM (npF n c) (1 * 2 ^ n)))), some (.int (nI (1 * 2 ^ n)))]) (st' := [.int (nI (SM (npF n c) (1 * 2 ^ n)))]) d_64_46 (fun _ => rfl) ?_
      exact cr_ri d_64_47 cx_64 rfl ⟨rfl, rfl, rfl, rfl, rfl, rfl⟩
    · omega
def loN (n : Nat) (c : Nat → Nat) (p : Nat) : Nat := ORs (fun x => 1 * 2 ^ lwN n c p x) n
def cnN (n : Nat) (c : Nat → Nat) (p v : Nat) : Nat := onN (loN n c p &&& (1 * 2 ^ v - 1))
theorem lo_bit {n : Nat} {c : Nat → Nat} {p q : Nat} : (loN n c p).testBit q = true ↔ ∃ x, x < n ∧ lwN n c p x = q := by
  unfold loN
  rw [ORs_bit]
  constructor
  · rintro ⟨x, hx, h⟩
    rw [Nat.one_mul, Nat.testBit_two_pow] at h
    exact ⟨x, hx, of_decide_eq_true h⟩
  · rintro ⟨x, hx, h⟩
    exact ⟨x, hx, by rw [Nat.one_mul, Nat.testBit_two_pow]; exact decide_eq_true h⟩
theorem cn_bit {l v k : Nat} : (l &&& (1 * 2 ^ v - 1)).testBit k = true ↔ l.testBit k = true ∧ k < v := by
  rw [Nat.testBit_and, Nat.one_mul, Nat.testBit_two_pow_sub_one, Bool.and_eq_true, decide_eq_true_eq]
/-- how many of l stand below v -/
theorem cn_sm {l v : Nat} (hl : l < 2 ^ 6) : onN (l &&& (1 * 2 ^ v - 1)) = SM (fun k => if l.testBit k = true ∧ k < v then 1 else 0) 6 := by
  rw [onN_n (n := 6) (by decide) (Nat.lt_of_le_of_lt Nat.and_le_left hl)]
  refine SM_c (fun k _ => ?_)
  rw [bt_1]
  by_cases h : l.testBit k = true ∧ k < v
  · rw [if_pos h, if_pos (cn_bit.mpr h)]
  · rw [if_neg h, if_neg (fun e => h (cn_bit.mp e))]
theorem cn_lt {l u v : Nat} (hl : l < 2 ^ 6) (hu : l.testBit u = true) (huv : u < v) : onN (l &&& (1 * 2 ^ u - 1)) < onN (l &&& (1 * 2 ^ v - 1)) := by
  rw [cn_sm hl, cn_sm hl]
  have hu6 := bit_lt hl hu
  refine SM_lt (k := u) hu6 (fun k _ => ?_) ?_
  · by_cases h : l.testBit k = true ∧ k < u
    · rw [if_pos h, if_pos ⟨h.1, by omega⟩]
      exact Nat.le_refl _
    · rw [if_neg h]
      exact Nat.zero_le _
  · rw [if_neg (fun e => absurd e.2 (Nat.lt_irrefl u)), if_pos ⟨hu, huv⟩]
    decide
theorem cn_all {l v : Nat} (hl : l < 2 ^ 6) (hv : l.testBit v = true) : onN (l &&& (1 * 2 ^ v - 1)) < onN l := by
  have hv6 := bit_lt hl hv
  have := cn_lt hl hv (show v < 6 from hv6)
  rw [show l &&& (1 * 2 ^ 6 - 1) = l by
    apply Nat.eq_of_testBit_eq
    intro q
    rw [Bool.eq_iff_iff, cn_bit]
    exact ⟨fun h => h.1, fun h => ⟨h, bit_lt hl h⟩⟩] at this
  exact this
/-- every number below is reached -/
theorem cn_on {l i : Nat} (hl : l < 2 ^ 6) (hi : i < onN l) : ∃ v, l.testBit v = true ∧ onN (l &&& (1 * 2 ^ v - 1)) = i := by
  have key : ∀ v, v ≤ 6 → i < onN (l &&& (1 * 2 ^ v - 1)) → ∃ w, w < v ∧ l.testBit w = true ∧ onN (l &&& (1 * 2 ^ w - 1)) = i := by
    intro v
    induction v with
    | zero =>
      intro _ h
      rw [show l &&& (1 * 2 ^ 0 - 1) = 0 by simp] at h
      exact absurd h (by rw [show onN 0 = 0 by decide]; omega)
    | succ v ih =>
      intro hv h
      have hs : onN (l &&& (1 * 2 ^ (v + 1) - 1)) = onN (l &&& (1 * 2 ^ v - 1)) + (if l.testBit v = true then 1 else 0) := by
        rw [cn_sm hl, cn_sm hl, SM_rm (f := fun k => if l.testBit k = true ∧ k < v + 1 then 1 else 0) (show v < 6 by omega), SM_rm (f := fun k => if l.testBit k = true ∧ k < v then 1 else 0) (show v < 6 by omega), if_neg (show ¬ (l.testBit v = true ∧ v < v) from fun e => absurd e.2 (Nat.lt_irrefl v))]
        have : SM (fun k => if k = v then 0 else if l.testBit k = true ∧ k < v + 1 then 1 else 0) 6 = SM (fun k => if k = v then 0 else if l.testBit k = true ∧ k < v then 1 else 0) 6 := SM_c fun k _ => by
          by_cases e : k = v
          · rw [if_pos e, if_pos e]
          · rw [if_neg e, if_neg e]
            by_cases h : l.testBit k = true ∧ k < v
            · rw [if_pos h, if_pos ⟨h.1, by omega⟩]
            · rw [if_neg h, if_neg (fun q => h ⟨q.1, by omega⟩)]
        rw [this]
        by_cases hb : l.testBit v = true
        · rw [if_pos ⟨hb, Nat.lt_succ_self v⟩, if_pos hb]
        · rw [if_neg (fun e => hb e.1), if_neg hb]
      rcases Nat.lt_or_ge i (onN (l &&& (1 * 2 ^ v - 1))) with r | r
      · obtain ⟨w, hw, h1, h2⟩ := ih (by omega) r
        exact ⟨w, by omega, h1, h2⟩
      · by_cases hb : l.testBit v = true
        · rw [if_pos hb] at hs
          exact ⟨v, by omega, hb, by omega⟩
        · rw [if_neg hb] at hs
          omega
  have h6 : l &&& (1 * 2 ^ 6 - 1) = l := by
    apply Nat.eq_of_testBit_eq
    intro q
    rw [Bool.eq_iff_iff, cn_bit]
    exact ⟨fun h => h.1, fun h => ⟨h, bit_lt hl h⟩⟩
  obtain ⟨w, _, h1, h2⟩ := key 6 (Nat.le_refl 6) (by rw [h6]; exact hi)
  exact ⟨w, h1, h2⟩
/-- the order of the quotient, its classes' lowest elements, its table -/
def qtM (n : Nat) (c : Nat → Nat) (p : Nat) : Nat := onN (loN n c p)
def rpN (n : Nat) (c : Nat → Nat) (p i : Nat) : Nat := FX (fun v => decide ((loN n c p).testBit v = true ∧ cnN n c p v = i)) 6
def qtN (n : Nat) (c : Nat → Nat) (p q : Nat) : Nat := cnN n c p (lwN n c p (c (n * rpN n c p (q / qtM n c p) + rpN n c p (q % qtM n c p))))
theorem lo_lt {n : Nat} {c : Nat → Nat} (hn : n ≤ 6) (hc : ∀ q, q < n * n → c q < n) {p : Nat} (h0 : 0 < p) (hp : p < 2 ^ n) : loN n c p < 2 ^ n := ORs_lt fun x hx => by
  rw [Nat.one_mul]
  exact tw_lt (lw_f hn hc hx h0 hp).1
theorem cn_inj {n : Nat} {c : Nat → Nat} {p u v : Nat} (hl : loN n c p < 2 ^ 6) (hu : (loN n c p).testBit u = true) (hv : (loN n c p).testBit v = true) (e : cnN n c p u = cnN n c p v) : u = v := by
  unfold cnN at e
  rcases Nat.lt_trichotomy u v with r | r | r
  · have := cn_lt hl hu r
    omega
  · exact r
  · have := cn_lt hl hv r
    omega
theorem rp_f {n : Nat} {c : Nat → Nat} {p i : Nat} (hl : loN n c p < 2 ^ 6) (hi : i < qtM n c p) : (loN n c p).testBit (rpN n c p i) = true ∧ cnN n c p (rpN n c p i) = i := by
  obtain ⟨v, h1, h2⟩ := cn_on hl hi
  have h3 := FX_lt (p := fun v => decide ((loN n c p).testBit v = true ∧ cnN n c p v = i)) (bit_lt hl h1) (decide_eq_true ⟨h1, h2⟩)
  exact of_decide_eq_true (FX_yes (fun v => decide ((loN n c p).testBit v = true ∧ cnN n c p v = i)) 6 h3)
theorem rp_cn {n : Nat} {c : Nat → Nat} {p v : Nat} (hl : loN n c p < 2 ^ 6) (hv : (loN n c p).testBit v = true) : cnN n c p v < qtM n c p ∧ rpN n c p (cnN n c p v) = v := by
  have h1 : cnN n c p v < qtM n c p := cn_all hl hv
  have h2 := rp_f hl h1
  exact ⟨h1, cn_inj hl h2.1 hv h2.2⟩
theorem qt_at {n : Nat} {c : Nat → Nat} {p i k : Nat} (hk : k < qtM n c p) : qtN n c p (qtM n c p * i + k) = cnN n c p (lwN n c p (c (n * rpN n c p i + rpN n c p k))) := by
  unfold qtN
  rw [dm_d hk, dm_m hk]
theorem lw_lw {n : Nat} {c : Nat → Nat} (hn : n ≤ 6) (hl : Lat n c) (hu : Uni n c) {p : Nat} (h : Nrm n c p) {x : Nat} (hx : x < n) : lwN n c p (lwN n c p x) = lwN n c p x := by
  have hp2 := (clB_iff.mp h.1).1
  have h1 := lw_f hn hl.1 hx hp2.1 hp2.2
  exact (Fa_lw hn hl hu h.1 h.2.1 hx h1.1).mp h1.2.1
theorem qt_xy {n : Nat} {c : Nat → Nat} (hn : n ≤ 6) (hl : Lat n c) (hu : Uni n c) {p : Nat} (h : Nrm n c p) {x y : Nat} (hx : x < n) (hy : y < n) : qtN n c p (qtM n c p * cnN n c p (lwN n c p x) + cnN n c p (lwN n c p y)) = cnN n c p (lwN n c p (c (n * x + y))) := by
  have hp2 := (clB_iff.mp h.1).1
  have hlo : loN n c p < 2 ^ 6 := le_64 hn (lo_lt hn hl.1 hp2.1 hp2.2)
  have bx : (loN n c p).testBit (lwN n c p x) = true := lo_bit.mpr ⟨x, hx, rfl⟩
  have by' : (loN n c p).testBit (lwN n c p y) = true := lo_bit.mpr ⟨y, hy, rfl⟩
  rw [qt_at (rp_cn hlo by').1, (rp_cn hlo bx).2, (rp_cn hlo by').2, ← h.2.2 x hx y hy]
theorem qt_lat {n : Nat} {c : Nat → Nat} (hn : n ≤ 6) (hl : Lat n c) (hu : Uni n c) {p : Nat} (h : Nrm n c p) : Lat (qtM n c p) (qtN n c p) ∧ qtM n c p ≤ n ∧ (1 ≤ n → 1 ≤ qtM n c p) := by
  have hp2 := (clB_iff.mp h.1).1
  have hlo : loN n c p < 2 ^ 6 := le_64 hn (lo_lt hn hl.1 hp2.1 hp2.2)
  have lb : ∀ x, x < n → (loN n c p).testBit (lwN n c p x) = true := fun x hx => lo_bit.mpr ⟨x, hx, rfl⟩
  have rep : ∀ i, i < qtM n c p → ∃ x, x < n ∧ rpN n c p i = lwN n c p x ∧ x = rpN n c p i ∧ cnN n c p (lwN n c p x) = i := by
    intro i hi
    obtain ⟨h1, h2⟩ := rp_f hlo hi
    obtain ⟨x, hx, e⟩ := lo_bit.mp h1
    have hx2 := (lw_f hn hl.1 hx hp2.1 hp2.2).1
    refine ⟨rpN n c p i, by rw [← e]; exact hx2, ?_, rfl, ?_⟩
    · rw [← e, lw_lw hn hl hu h hx]
    · rw [← e, lw_lw hn hl hu h hx, e]
      exact h2
  refine ⟨Lat.mk' (fun q hq => ?_) (fun i v hi hv => ?_) (fun k v hk hv => ?_), onN_le (by omega) (lo_lt hn hl.1 hp2.1 hp2.2), fun h1 => ?_⟩
  · obtain ⟨x, hx, e1, e2, e3⟩ := rep _ (dm_dl hq)
    obtain ⟨y, hy, f1, f2, f3⟩ := rep _ (dm_ml hq)
    unfold qtN
    rw [← e2, ← f2]
    exact (rp_cn hlo (lb _ (hl.b hx hy))).1
  · obtain ⟨x, hx, e1, e2, e3⟩ := rep i hi
    obtain ⟨z, hz, f1, f2, f3⟩ := rep v hv
    obtain ⟨u1, u2⟩ := hl.u (v := z) hx hz
    refine ⟨cnN n c p (lwN n c p (undI n c x z)), (rp_cn hlo (lb _ u1)).1, ?_⟩
    have := qt_xy hn hl hu h hx u1
    rw [e3, u2, f3] at this
    exact this
  · obtain ⟨y, hy, e1, e2, e3⟩ := rep k hk
    obtain ⟨z, hz, f1, f2, f3⟩ := rep v hv
    obtain ⟨u1, u2⟩ := hl.o (v := z) hy hz
    refine ⟨cnN n c p (lwN n c p (ovrI n c z y)), (rp_cn hlo (lb _ u1)).1, ?_⟩
    have := qt_xy hn hl hu h u1 hy
    rw [e3, u2, f3] at this
    exact this
  · have := (rp_cn hlo (lb 0 (by omega))).1
    omega
theorem k_classNumber {S : CS} {G : Nat → Nat → Value} {B : Nat → Nat → Int32} {J : Nat → Nat → Int64} {R : Nat → Nat → Option Nat} {a n : Nat} (ht : TabAt S G a) (hn : G a 0 = .int (nI n)) {c : Nat → Nat} (hc : TabC B a n c) {x p l : Nat} (hx : x < n) (hp0 : 0 < p) (hp : p < 2 ^ n) (hll : l < 64) : CR 3 54 0 [some (.ref a), some (.int (nI x)), some (.int (nI p)), some (.int (nI l)), none] [] S G B J R (cP (some (.int (nI (onN (l &&& (1 * 2 ^ lwN n c p x - 1)))))) S G B J R) := by
  have hn6 := hc.1
  have hp64 := le_64 hn6 hp
  have hcc : ∀ q, q < n * n → c q < n := fun q hq => (hc.2 q hq).2
  refine cn_ic (v := 1) d_54_0 (by decide) ?_
  refine cr_nx (pc' := 2) (al' := [some (.ref a), some (.int (nI x)), some (.int (nI p)), some (.int (nI l)), none]) (st' := [.ref a, .int (nI 1)]) d_54_1 (fun _ => rfl) ?_
  refine cr_nx (pc' := 3) (al' := [some (.ref a), some (.int (nI x)), some (.int (nI p)), some (.int (nI l)), none]) (st' := [.int (nI x), .ref a, .int (nI 1)]) d_54_2 (fun _ => rfl) ?_
  refine cr_nx (pc' := 4) (al' := [some (.ref a), some (.int (nI x)), some (.int (nI p)), some (.int (nI l)), none]) (st' := [.int (nI p), .int (nI x), .ref a, .int (nI 1)]) d_54_3 (fun _ => rfl) ?_
  refine cr_ps (as := [.ref a, .int (nI x), .int (nI p)]) (al0 := [some (.ref a), some (.int (nI x)), some (.int (nI p))]) (r := [.int (nI 1)]) d_54_4 cw_54 cm_7_43 (by decide) cz_52 rfl rfl rfl (Nat.le_of_ble_eq_true rfl) (k_lowest ht hn hc (by first | omega | assumption | exact cu_36 (by omega) (cu_lt (by omega) (by omega))) hp0 hp) ?_
  show CR _ _ 7 [some (.ref a), some (.int (nI x)), some (.int (nI p)), some (.int (nI l)), none] [.int (nI (lwN n c p x)), .int (nI 1)] S G B J R _
  have b4 : lwN n c p x < n := (lw_f (by omega) (fun q hq => (hc.2 q hq).2) (by first | omega | assumption | exact cu_36 (by omega) (cu_lt (by omega) (by omega))) hp0 hp).1
  refine cn_shl d_54_7 (by first | omega | assumption | exact cu_36 (by omega) (cu_lt (by omega) (by omega))) ?_
  refine cn_ic (v := 1) d_54_8 (by decide) ?_
  refine cn_sub d_54_9 (by rw [Nat.one_mul]; exact Nat.two_pow_pos _) ?_
  refine cr_nx (pc' := 12) (al' := [some (.ref a), some (.int (nI x)), some (.int (nI p)), some (.int (nI l)), some (.int (nI ((1 * 2 ^ (lwN n c p x)) - 1)))]) (st' := []) d_54_10 (fun _ => rfl) ?_
  refine cr_nx (pc' := 13) (al' := [some (.ref a), some (.int (nI x)), some (.int (nI p)), some (.int (nI l)), some (.int (nI ((1 * 2 ^ (lwN n c p x)) - 1)))]) (st' := [.int (nI l)]) d_54_12 (fun _ => rfl) ?_
  refine cr_nx (pc' := 15) (al' := [some (.ref a), some (.int (nI x)), some (.int (nI p)), some (.int (nI l)), some (.int (nI ((1 * 2 ^ (lwN n c p x)) - 1)))]) (st' := [.int (nI ((1 * 2 ^ (lwN n c p x)) - 1)), .int (nI l)]) d_54_13 (fun _ => rfl) ?_
  refine cn_and d_54_15 ?_
  refine cr_ps (as := [.int (nI (l &&& ((1 * 2 ^ (lwN n c p x)) - 1)))]) (al0 := [some (.int (nI (l &&& ((1 * 2 ^ (lwN n c p x)) - 1))))]) (r := []) d_54_16 cw_54 cm_7_52 (by decide) cz_290 rfl rfl rfl (Nat.le_of_ble_eq_true rfl) (k_bitCount (by exact Nat.lt_of_le_of_lt Nat.and_le_left (by omega))) ?_
  show CR _ _ 19 [some (.ref a), some (.int (nI x)), some (.int (nI p)), some (.int (nI l)), some (.int (nI ((1 * 2 ^ (lwN n c p x)) - 1)))] [.int (nI (onN (l &&& ((1 * 2 ^ (lwN n c p x)) - 1))))] S G B J R _
  have b16 := onN_16 (l &&& ((1 * 2 ^ (lwN n c p x)) - 1))
  exact cr_ri d_54_19 cx_54 rfl ⟨rfl, rfl, rfl, rfl, rfl, rfl⟩
theorem k_makeQuotient {S : CS} {G : Nat → Nat → Value} {B : Nat → Nat → Int32} {J : Nat → Nat → Int64} {R : Nat → Nat → Option Nat} {a d n : Nat} (ht : TabAt S G a) (hn : G a 0 = .int (nI n)) {c : Nat → Nat} (hc : TabC B a n c) (hd : TabAt S G d) (hne : a ≠ d) (hl : Lat n c) (hu : Uni n c) {p : Nat} (hN : Nrm n c p) : CR 4 53 0 [some (.ref d), some (.ref a), some (.int (nI p)), none, none, none, none] [] S G B J R (mkC d S G B J R (qtM n c p) (qtN n c p)) := by
  have hn6 := hc.1
  have ht' : TabAt S (up2 G d 0 (.int (nI (qtM n c p)))) a := ht.up
  have hd' : TabAt S (up2 G d 0 (.int (nI (qtM n c p)))) d := hd.up
  have hn' : up2 G d 0 (.int (nI (qtM n c p))) a 0 = .int (nI n) := up2_0 hne hn
  have hdn' : up2 G d 0 (.int (nI (qtM n c p))) d 0 = .int (nI (qtM n c p)) := up2_s
  have hp0 := (clB_iff.mp hN.1).1.1
  have hp := (clB_iff.mp hN.1).1.2
  have hp64 := le_64 hn6 hp
  have hlo : loN n c p < 64 := le_64 hn6 (lo_lt hn6 hl.1 hp0 hp)
  have hqm := (qt_lat hn6 hl hu hN).2.1
  refine cn_ic (v := 0) d_53_0 (by decide) ?_
  refine cr_nx (pc' := 2) (al' := [some (.ref d), some (.ref a), some (.int (nI p)), some (.int (nI 0)), none, none, none]) (st' := []) d_53_1 (fun _ => rfl) ?_
  refine cn_ic (v := 0) d_53_2 (by decide) ?_
  refine cr_nx (pc' := 5) (al' := [some (.ref d), some (.ref a), some (.int (nI p)), some (.int (nI 0)), some (.int (nI 0)), none, none]) (st' := []) d_53_3 (fun _ => rfl) ?_
  refine cr_al (congrArg (fun z__ : Nat => ([some (.ref d), some (.ref a), some (.int (nI p)), some (.int (nI z__)), some (.int (nI 0)), none, none] : AL)) (show 0 = ORs (fun x => 1 * 2 ^ lwN n c p x) 0 by rfl)) ?_
  refine cr_up (al := fun z => [some (.ref d), some (.ref a), some (.int (nI p)), some (.int (nI (ORs (fun x => 1 * 2 ^ lwN n c p x) z))), some (.int (nI z)), none, none]) (S := fun z => S) (G := fun z => G) (B := fun z => B) (J := fun z => J) (R := fun z => R) (P := fun z => True) (n := n) (fun z hz pz ihz => ?_) (fun pz => ?_) 0  (by omega) (trivial)
  · show CR _ _ 5 [some (.ref d), some (.ref a), some (.int (nI p)), some (.int (nI (ORs (fun x => 1 * 2 ^ lwN n c p x) z))), some (.int (nI z)), none, none] [] S G B J R _
    refine cr_nx (pc' := 7) (al' := [some (.ref d), some (.ref a), some (.int (nI p)), some (.int (nI (ORs (fun x => 1 * 2 ^ lwN n c p x) z))), some (.int (nI z)), none, none]) (st' := [.int (nI z)]) d_53_5 (fun _ => rfl) ?_
    refine cr_nx (pc' := 8) (al' := [some (.ref d), some (.ref a), some (.int (nI p)), some (.int (nI (ORs (fun x => 1 * 2 ^ lwN n c p x) z))), some (.int (nI z)), none, none]) (st' := [.ref a, .int (nI z)]) d_53_7 (fun _ => rfl) ?_
    refine cr_gf (v := .int (nI n)) d_53_8 cw_53 cf_7_21 ht.1 ht.2.2.1 (by decide) hn ?_
    refine cn_cge (t := 32) d_53_11 (by decide) (by first | omega | assumption | exact cu_36 (by omega) (cu_lt (by omega) (by omega))) (by first | omega | assumption | exact cu_36 (by omega) (cu_lt (by omega) (by omega))) (fun c11 => ?_) (fun c11 => ?_)
    · omega
    · refine cr_nx (pc' := 15) (al' := [some (.ref d), some (.ref a), some (.int (nI p)), some (.int (nI (ORs (fun x => 1 * 2 ^ lwN n c p x) z))), some (.int (nI z)), none, none]) (st' := [.int (nI (ORs (fun x => 1 * 2 ^ lwN n c p x) z))]) d_53_14 (fun _ => rfl) ?_
      refine cn_ic (v := 1) d_53_15 (by decide) ?_
      refine cr_nx (pc' := 17) (al' := [some (.ref d), some (.ref a), some (.int (nI p)), some (.int (nI (ORs (fun x => 1 * 2 ^ lwN n c p x) z))), some (.int (nI z)), none, none]) (st' := [.ref a, .int (nI 1), .int (nI (ORs (fun x => 1 * 2 ^ lwN n c p x) z))]) d_53_16 (fun _ => rfl) ?_
      refine cr_nx (pc' := 19) (al' := [some (.ref d), some (.ref a), some (.int (nI p)), some (.int (nI (ORs (fun x => 1 * 2 ^ lwN n c p x) z))), some (.int (nI z)), none, none]) (st' := [.int (nI z), .ref a, .int (nI 1), .int (nI (ORs (fun x => 1 * 2 ^ lwN n c p x) z))]) d_53_17 (fun _ => rfl) ?_
      refine cr_nx (pc' := 20) (al' := [some (.ref d), some (.ref a), some (.int (nI p)), some (.int (nI (ORs (fun x => 1 * 2 ^ lwN n c p x) z))), some (.int (nI z)), none, none]) (st' := [.int (nI p), .int (nI z), .ref a, .int (nI 1), .int (nI (ORs (fun x => 1 * 2 ^ lwN n c p x) z))]) d_53_19 (fun _ => rfl) ?_
      refine cr_ps (as := [.ref a, .int (nI z), .int (nI p)]) (al0 := [some (.ref a), some (.int (nI z)), some (.int (nI p))]) (r := [.int (nI 1), .int (nI (ORs (fun x => 1 * 2 ^ lwN n c p x) z))]) d_53_20 cw_53 cm_7_43 (by decide) cz_52 rfl rfl rfl (Nat.le_of_ble_eq_true rfl) (k_lowest (by first | exact ht | exact ht') (by first | exact hn | exact hn') (by first | exact hc | exact TabC.up hne hc) (by first | omega | assumption | exact cu_36 (by omega) (cu_lt (by omega) (by omega))) hp0 hp) ?_
      show CR _ _ 23 [some (.ref d), some (.ref a), some (.int (nI p)), some (.int (nI (ORs (fun x => 1 * 2 ^ lwN n c p x) z))), some (.int (nI z)), none, none] [.int (nI (lwN n c p z)), .int (nI 1), .int (nI (ORs (fun x => 1 * 2 ^ lwN n c p x) z))] S G B J R _
      have b20 : lwN n c p z < n := (lw_f (by omega) (fun q hq => (hc.2 q hq).2) (by first | omega | assumption | exact cu_36 (by omega) (cu_lt (by omega) (by omega))) hp0 hp).1
      refine cn_shl d_53_23 (by first | omega | assumption | exact cu_36 (by omega) (cu_lt (by omega) (by omega))) ?_
      refine cn_or d_53_24 ?_
      refine cr_nx (pc' := 26) (al' := [some (.ref d), some (.ref a), some (.int (nI p)), some (.int (nI ((ORs (fun x => 1 * 2 ^ lwN n c p x) z) ||| (1 * 2 ^ (lwN n c p z))))), some (.int (nI z)), none, none]) (st' := []) d_53_25 (fun _ => rfl) ?_
      refine cn_inc d_53_26 rfl rfl ?_
      show CR _ _ 29 [some (.ref d), some (.ref a), some (.int (nI p)), some (.int (nI ((ORs (fun x => 1 * 2 ^ lwN n c p x) z) ||| (1 * 2 ^ (lwN n c p z))))), some (.int (nI (z + 1))), none, none] [] S G B J R _
      refine cr_nx (pc' := 5) (al' := [some (.ref d), some (.ref a), some (.int (nI p)), some (.int (nI ((ORs (fun x => 1 * 2 ^ lwN n c p x) z) ||| (1 * 2 ^ (lwN n c p z))))), some (.int (nI (z + 1))), none, none]) (st' := []) d_53_29 (fun _ => rfl) ?_
      refine cr_al (congrArg (fun z__ : Nat => ([some (.ref d), some (.ref a), some (.int (nI p)), some (.int (nI z__)), some (.int (nI (z + 1))), none, none] : AL)) (show (ORs (fun x => 1 * 2 ^ lwN n c p x) z) ||| (1 * 2 ^ (lwN n c p z)) = ORs (fun x => 1 * 2 ^ lwN n c p x) (z + 1) by rfl)) ?_
      exact ihz  (trivial)
  · show CR _ _ 5 [some (.ref d), some (.ref a), some (.int (nI p)), some (.int (nI (ORs (fun x => 1 * 2 ^ lwN n c p x) n))), some (.int (nI n)), none, none] [] S G B J R _
    refine cr_nx (pc' := 7) (al' := [some (.ref d), some (.ref a), some (.int (nI p)), some (.int (nI (ORs (fun x => 1 * 2 ^ lwN n c p x) n))), some (.int (nI n)), none, none]) (st' := [.int (nI n)]) d_53_5 (fun _ => rfl) ?_
    refine cr_nx (pc' := 8) (al' := [some (.ref d), some (.ref a), some (.int (nI p)), some (.int (nI (ORs (fun x => 1 * 2 ^ lwN n c p x) n))), some (.int (nI n)), none, none]) (st' := [.ref a, .int (nI n)]) d_53_7 (fun _ => rfl) ?_
    refine cr_gf (v := .int (nI n)) d_53_8 cw_53 cf_7_21 ht.1 ht.2.2.1 (by decide) hn ?_
    refine cn_cge (t := 32) d_53_11 (by decide) (by first | omega | assumption | exact cu_36 (by omega) (cu_lt (by omega) (by omega))) (by first | omega | assumption | exact cu_36 (by omega) (cu_lt (by omega) (by omega))) (fun c11 => ?_) (fun c11 => ?_)
    · show CR _ _ 32 [some (.ref d), some (.ref a), some (.int (nI p)), some (.int (nI (loN n c p))), some (.int (nI n)), none, none] [] S G B J R _
      refine cr_nx (pc' := 33) (al' := [some (.ref d), some (.ref a), some (.int (nI p)), some (.int (nI (loN n c p))), some (.int (nI n)), none, none]) (st' := [.ref d]) d_53_32 (fun _ => rfl) ?_
      refine cr_nx (pc' := 34) (al' := [some (.ref d), some (.ref a), some (.int (nI p)), some (.int (nI (loN n c p))), some (.int (nI n)), none, none]) (st' := [.int (nI (loN n c p)), .ref d]) d_53_33 (fun _ => rfl) ?_
      refine cr_ps (as := [.int (nI (loN n c p))]) (al0 := [some (.int (nI (loN n c p)))]) (r := [.ref d]) d_53_34 cw_53 cm_7_52 (by decide) cz_290 rfl rfl rfl (Nat.le_of_ble_eq_true rfl) (k_bitCount hlo) ?_
      show CR _ _ 37 [some (.ref d), some (.ref a), some (.int (nI p)), some (.int (nI (loN n c p))), some (.int (nI n)), none, none] [.int (nI (qtM n c p)), .ref d] S G B J R _
      refine cp_10_0  d_53_37 cw_53 cf_7_21 hd.1 hd.2.2.1 (by decide) ?_
      refine cn_ic (v := 0) d_53_40 (by decide) ?_
      refine cr_nx (pc' := 43) (al' := [some (.ref d), some (.ref a), some (.int (nI p)), some (.int (nI (loN n c p))), some (.int (nI 0)), none, none]) (st' := []) d_53_41 (fun _ => rfl) ?_
      refine cr_B (show B = (upr B (d + 1) (B (d + 1))) by rw [upr_id]) ?_
      refine cr_upw (al := fun x w_ => [some (.ref d), some (.ref a), some (.int (nI p)), some (.int (nI (loN n c p))), some (.int (nI x)), none, none]) (S := fun x w_ => S) (G := fun x w_ => (up2 G d 0 (.int (nI (qtM n c p))))) (B := fun x w_ => (upr B (d + 1) w_)) (J := fun x w_ => J) (R := fun x w_ => R) (P := fun x w_ => ScP (fun q => nI (qtN n c p q)) (fun x y => qtM n c p * cnN n c p (lwN n c p x) + cnN n c p (lwN n c p y)) n x 0 w_) (n := n) (fun x w_ hx px ihx => ?_) (fun w_ px => ?_) 0 (B (d + 1)) (by omega) (sc_0)
      · show CR _ _ 43 [some (.ref d), some (.ref a), some (.int (nI p)), some (.int (nI (loN n c p))), some (.int (nI x)), none, none] [] S (up2 G d 0 (.int (nI (qtM n c p)))) (upr B (d + 1) w_) J R _
        refine cr_nx (pc' := 45) (al' := [some (.ref d), some (.ref a), some (.int (nI p)), some (.int (nI (loN n c p))), some (.int (nI x)), none, none]) (st' := [.int (nI x)]) d_53_43 (fun _ => rfl) ?_
        refine cr_nx (pc' := 46) (al' := [some (.ref d), some (.ref a), some (.int (nI p)), some (.int (nI (loN n c p))), some (.int (nI x)), none, none]) (st' := [.ref a, .int (nI x)]) d_53_45 (fun _ => rfl) ?_
        refine cr_gf (v := .int (nI n)) d_53_46 cw_53 cf_7_21 ht.1 ht.2.2.1 (by decide) (by simp [up2, hne]; exact hn) ?_
        refine cn_cge (t := 114) d_53_49 (by decide) (by first | omega | assumption | exact cu_36 (by omega) (cu_lt (by omega) (by omega))) (by first | omega | assumption | exact cu_36 (by omega) (cu_lt (by omega) (by omega))) (fun c49 => ?_) (fun c49 => ?_)
        · omega
        · refine cn_ic (v := 0) d_53_52 (by decide) ?_
          refine cr_nx (pc' := 55) (al' := [some (.ref d), some (.ref a), some (.int (nI p)), some (.int (nI (loN n c p))), some (.int (nI x)), some (.int (nI 0)), none]) (st' := []) d_53_53 (fun _ => rfl) ?_
          refine cr_upw (al := fun y w_ => [some (.ref d), some (.ref a), some (.int (nI p)), some (.int (nI (loN n c p))), some (.int (nI x)), some (.int (nI y)), none]) (S := fun y w_ => S) (G := fun y w_ => (up2 G d 0 (.int (nI (qtM n c p))))) (B := fun y w_ => (upr B (d + 1) w_)) (J := fun y w_ => J) (R := fun y w_ => R) (P := fun y w_ => ScP (fun q => nI (qtN n c p q)) (fun x y => qtM n c p * cnN n c p (lwN n c p x) + cnN n c p (lwN n c p y)) n x y w_) (n := n) (fun y w_ hy py ihy => ?_) (fun w_ py => ?_) 0 w_ (by omega) (px)
          · show CR _ _ 55 [some (.ref d), some (.ref a), some (.int (nI p)), some (.int (nI (loN n c p))), some (.int (nI x)), some (.int (nI y)), none] [] S (up2 G d 0 (.int (nI (qtM n c p)))) (upr B (d + 1) w_) J R _
            refine cr_nx (pc' := 57) (al' := [some (.ref d), some (.ref a), some (.int (nI p)), some (.int (nI (loN n c p))), some (.int (nI x)), some (.int (nI y)), none]) (st' := [.int (nI y)]) d_53_55 (fun _ => rfl) ?_
            refine cr_nx (pc' := 58) (al' := [some (.ref d), some (.ref a), some (.int (nI p)), some (.int (nI (loN n c p))), some (.int (nI x)), some (.int (nI y)), none]) (st' := [.ref a, .int (nI y)]) d_53_57 (fun _ => rfl) ?_
            refine cr_gf (v := .int (nI n)) d_53_58 cw_53 cf_7_21 ht.1 ht.2.2.1 (by decide) (by simp [up2, hne]; exact hn) ?_
            refine cn_cge (t := 108) d_53_61 (by decide) (by first | omega | assumption | exact cu_36 (by omega) (cu_lt (by omega) (by omega))) (by first | omega | assumption | exact cu_36 (by omega) (cu_lt (by omega) (by omega))) (fun c61 => ?_) (fun c61 => ?_)
            · omega
            · refine cr_nx (pc' := 65) (al' := [some (.ref d), some (.ref a), some (.int (nI p)), some (.int (nI (loN n c p))), some (.int (nI x)), some (.int (nI y)), none]) (st' := [.ref a]) d_53_64 (fun _ => rfl) ?_
              refine cr_nx (pc' := 67) (al' := [some (.ref d), some (.ref a), some (.int (nI p)), some (.int (nI (loN n c p))), some (.int (nI x)), some (.int (nI y)), none]) (st' := [.int (nI x), .ref a]) d_53_65 (fun _ => rfl) ?_
              refine cr_nx (pc' := 69) (al' := [some (.ref d), some (.ref a), some (.int (nI p)), some (.int (nI (loN n c p))), some (.int (nI x)), some (.int (nI y)), none]) (st' := [.int (nI y), .int (nI x), .ref a]) d_53_67 (fun _ => rfl) ?_
              refine cr_pv (b := a) (as := [.int (nI x), .int (nI y)]) (al0 := [some (.ref a), some (.int (nI x)), some (.int (nI y))]) (r := []) d_53_69 cw_53 cm_7_29 cz_91 rfl rfl ht.1 (by rw [cw_91]; exact ht.2.2.1) (by rw [cw_91]; decide) rfl (Nat.le_of_ble_eq_true rfl) (k_times (by first | exact ht | exact ht') (by first | exact hn | exact hn') (by first | exact hc | exact TabC.up hne hc) (by omega) (by omega)) ?_
              show CR _ _ 72 [some (.ref d), some (.ref a), some (.int (nI p)), some (.int (nI (loN n c p))), some (.int (nI x)), some (.int (nI y)), none] [.int (nI (c (n * x + y)))] S (up2 G d 0 (.int (nI (qtM n c p)))) (upr B (d + 1) w_) J R _
              have b69 : c (n * x + y) < n := (hc.2 _ (cu_lt (by omega) (by omega))).2
              refine cr_nx (pc' := 74) (al' := [some (.ref d), some (.ref a), some (.int (nI p)), some (.int (nI (loN n c p))), some (.int (nI x)), some (.int (nI y)), some (.int (nI (c (n * x + y))))]) (st' := []) d_53_72 (fun _ => rfl) ?_
              refine cr_nx (pc' := 75) (al' := [some (.ref d), some (.ref a), some (.int (nI p)), some (.int (nI (loN n c p))), some (.int (nI x)), some (.int (nI y)), some (.int (nI (c (n * x + y))))]) (st' := [.ref d]) d_53_74 (fun _ => rfl) ?_
              refine cr_nx (pc' := 76) (al' := [some (.ref d), some (.ref a), some (.int (nI p)), some (.int (nI (loN n c p))), some (.int (nI x)), some (.int (nI y)), some (.int (nI (c (n * x + y))))]) (st' := [.ref a, .ref d]) d_53_75 (fun _ => rfl) ?_
              refine cr_nx (pc' := 78) (al' := [some (.ref d), some (.ref a), some (.int (nI p)), some (.int (nI (loN n c p))), some (.int (nI x)), some (.int (nI y)), some (.int (nI (c (n * x + y))))]) (st' := [.int (nI x), .ref a, .ref d]) d_53_76 (fun _ => rfl) ?_
              refine cr_nx (pc' := 79) (al' := [some (.ref d), some (.ref a), some (.int (nI p)), some (.int (nI (loN n c p))), some (.int (nI x)), some (.int (nI y)), some (.int (nI (c (n * x + y))))]) (st' := [.int (nI p), .int (nI x), .ref a, .ref d]) d_53_78 (fun _ => rfl) ?_
              refine cr_nx (pc' := 80) (al' := [some (.ref d), some (.ref a), some (.int (nI p)), some (.int (nI (loN n c p))), some (.int (nI x)), some (.int (nI y)), some (.int (nI (c (n * x + y))))]) (st' := [.int (nI (loN n c p)), .int (nI p), .int (nI x), .ref a, .ref d]) d_53_79 (fun _ => rfl) ?_
              refine cr_ps (as := [.ref a, .int (nI x), .int (nI p), .int (nI (loN n c p))]) (al0 := [some (.ref a), some (.int (nI x)), some (.int (nI p)), some (.int (nI (loN n c p))), none]) (r := [.ref d]) d_53_80 cw_53 cm_7_55 (by decide) cz_54 rfl rfl rfl (Nat.le_of_ble_eq_true rfl) (k_classNumber (by first | exact ht | exact ht') (by first | exact hn | exact hn') (by first | exact hc | exact TabC.up hne hc) (by omega) hp0 hp hlo) ?_
              show CR _ _ 83 [some (.ref d), some (.ref a), some (.int (nI p)), some (.int (nI (loN n c p))), some (.int (nI x)), some (.int (nI y)), some (.int (nI (c (n * x + y))))] [.int (nI (cnN n c p (lwN n c p x))), .ref d] S (up2 G d 0 (.int (nI (qtM n c p)))) (upr B (d + 1) w_) J R _
              have b80 : cnN n c p (lwN n c p x) < qtM n c p := (rp_cn hlo (lo_bit.mpr ⟨_, show x < n by omega, rfl⟩)).1
              refine cr_nx (pc' := 84) (al' := [some (.ref d), some (.ref a), some (.int (nI p)), some (.int (nI (loN n c p))), some (.int (nI x)), some (.int (nI y)), some (.int (nI (c (n * x + y))))]) (st' := [.ref a, .int (nI (cnN n c p (lwN n c p x))), .ref d]) d_53_83 (fun _ => rfl) ?_
              refine cr_nx (pc' := 86) (al' := [some (.ref d), some (.ref a), some (.int (nI p)), some (.int (nI (loN n c p))), some (.int (nI x)), some (.int (nI y)), some (.int (nI (c (n * x + y))))]) (st' := [.int (nI y), .ref a, .int (nI (cnN n c p (lwN n c p x))), .ref d]) d_53_84 (fun _ => rfl) ?_
              refine cr_nx (pc' := 87) (al' := [some (.ref d), some (.ref a), some (.int (nI p)), some (.int (nI (loN n c p))), some (.int (nI x)), some (.int (nI y)), some (.int (nI (c (n * x + y))))]) (st' := [.int (nI p), .int (nI y), .ref a, .int (nI (cnN n c p (lwN n c p x))), .ref d]) d_53_86 (fun _ => rfl) ?_
              refine cr_nx (pc' := 88) (al' := [some (.ref d), some (.ref a), some (.int (nI p)), some (.int (nI (loN n c p))), some (.int (nI x)), some (.int (nI y)), some (.int (nI (c (n * x + y))))]) (st' := [.int (nI (loN n c p)), .int (nI p), .int (nI y), .ref a, .int (nI (cnN n c p (lwN n c p x))), .ref d]) d_53_87 (fun _ => rfl) ?_
              refine cr_ps (as := [.ref a, .int (nI y), .int (nI p), .int (nI (loN n c p))]) (al0 := [some (.ref a), some (.int (nI y)), some (.int (nI p)), some (.int (nI (loN n c p))), none]) (r := [.int (nI (cnN n c p (lwN n c p x))), .ref d]) d_53_88 cw_53 cm_7_55 (by decide) cz_54 rfl rfl rfl (Nat.le_of_ble_eq_true rfl) (k_classNumber (by first | exact ht | exact ht') (by first | exact hn | exact hn') (by first | exact hc | exact TabC.up hne hc) (by omega) hp0 hp hlo) ?_
              show CR _ _ 91 [some (.ref d), some (.ref a), some (.int (nI p)), some (.int (nI (loN n c p))), some (.int (nI x)), some (.int (nI y)), some (.int (nI (c (n * x + y))))] [.int (nI (cnN n c p (lwN n c p y))), .int (nI (cnN n c p (lwN n c p x))), .ref d] S (up2 G d 0 (.int (nI (qtM n c p)))) (upr B (d + 1) w_) J R _
              have b88 : cnN n c p (lwN n c p y) < qtM n c p := (rp_cn hlo (lo_bit.mpr ⟨_, show y < n by omega, rfl⟩)).1
              refine cr_nx (pc' := 92) (al' := [some (.ref d), some (.ref a), some (.int (nI p)), some (.int (nI (loN n c p))), some (.int (nI x)), some (.int (nI y)), some (.int (nI (c (n * x + y))))]) (st' := [.ref a, .int (nI (cnN n c p (lwN n c p y))), .int (nI (cnN n c p (lwN n c p x))), .ref d]) d_53_91 (fun _ => rfl) ?_
              refine cr_nx (pc' := 94) (al' := [some (.ref d), some (.ref a), some (.int (nI p)), some (.int (nI (loN n c p))), some (.int (nI x)), some (.int (nI y)), some (.int (nI (c (n * x + y))))]) (st' := [.int (nI (c (n * x + y))), .ref a, .int (nI (cnN n c p (lwN n c p y))), .int (nI (cnN n c p (lwN n c p x))), .ref d]) d_53_92 (fun _ => rfl) ?_
              refine cr_nx (pc' := 95) (al' := [some (.ref d), some (.ref a), some (.int (nI p)), some (.int (nI (loN n c p))), some (.int (nI x)), some (.int (nI y)), some (.int (nI (c (n * x + y))))]) (st' := [.int (nI p), .int (nI (c (n * x + y))), .ref a, .int (nI (cnN n c p (lwN n c p y))), .int (nI (cnN n c p (lwN n c p x))), .ref d]) d_53_94 (fun _ => rfl) ?_
              refine cr_nx (pc' := 96) (al' := [some (.ref d), some (.ref a), some (.int (nI p)), some (.int (nI (loN n c p))), some (.int (nI x)), some (.int (nI y)), some (.int (nI (c (n * x + y))))]) (st' := [.int (nI (loN n c p)), .int (nI p), .int (nI (c (n * x + y))), .ref a, .int (nI (cnN n c p (lwN n c p y))), .int (nI (cnN n c p (lwN n c p x))), .ref d]) d_53_95 (fun _ => rfl) ?_
              refine cr_ps (as := [.ref a, .int (nI (c (n * x + y))), .int (nI p), .int (nI (loN n c p))]) (al0 := [some (.ref a), some (.int (nI (c (n * x + y)))), some (.int (nI p)), some (.int (nI (loN n c p))), none]) (r := [.int (nI (cnN n c p (lwN n c p y))), .int (nI (cnN n c p (lwN n c p x))), .ref d]) d_53_96 cw_53 cm_7_55 (by decide) cz_54 rfl rfl rfl (Nat.le_of_ble_eq_true rfl) (k_classNumber (by first | exact ht | exact ht') (by first | exact hn | exact hn') (by first | exact hc | exact TabC.up hne hc) (by omega) hp0 hp hlo) ?_
              show CR _ _ 99 [some (.ref d), some (.ref a), some (.int (nI p)), some (.int (nI (loN n c p))), some (.int (nI x)), some (.int (nI y)), some (.int (nI (c (n * x + y))))] [.int (nI (cnN n c p (lwN n c p (c (n * x + y))))), .int (nI (cnN n c p (lwN n c p y))), .int (nI (cnN n c p (lwN n c p x))), .ref d] S (up2 G d 0 (.int (nI (qtM n c p)))) (upr B (d + 1) w_) J R _
              have b96 : cnN n c p (lwN n c p (c (n * x + y))) < qtM n c p := (rp_cn hlo (lo_bit.mpr ⟨_, show c (n * x + y) < n by omega, rfl⟩)).1
              refine cr_pv (b := d) (as := [.int (nI (cnN n c p (lwN n c p x))), .int (nI (cnN n c p (lwN n c p y))), .int (nI (cnN n c p (lwN n c p (c (n * x + y)))))]) (al0 := [some (.ref d), some (.int (nI (cnN n c p (lwN n c p x)))), some (.int (nI (cnN n c p (lwN n c p y)))), some (.int (nI (cnN n c p (lwN n c p (c (n * x + y))))))]) (r := []) d_53_99 cw_53 cm_7_59 cz_95 rfl rfl hd.1 (by rw [cw_95]; exact hd.2.2.1) (by rw [cw_95]; decide) rfl (Nat.le_of_ble_eq_true rfl) (k_put hd' hdn' (nI (cnN n c p (lwN n c p (c (n * x + y))))) (cu_36 (by omega) (cu_lt b80 b88))) ?_
              rw [upr_s, upr_u]
              show CR _ _ 102 [some (.ref d), some (.ref a), some (.int (nI p)), some (.int (nI (loN n c p))), some (.int (nI x)), some (.int (nI y)), some (.int (nI (c (n * x + y))))] [] S (up2 G d 0 (.int (nI (qtM n c p)))) (upr B (d + 1) (upd w_ (qtM n c p * (cnN n c p (lwN n c p x)) + (cnN n c p (lwN n c p y))) (nI (cnN n c p (lwN n c p (c (n * x + y))))))) J R _
              refine cn_inc d_53_102 rfl rfl ?_
              show CR _ _ 105 [some (.ref d), some (.ref a), some (.int (nI p)), some (.int (nI (loN n c p))), some (.int (nI x)), some (.int (nI (y + 1))), some (.int (nI (c (n * x + y))))] [] S (up2 G d 0 (.int (nI (qtM n c p)))) (upr B (d + 1) (upd w_ (qtM n c p * (cnN n c p (lwN n c p x)) + (cnN n c p (lwN n c p y))) (nI (cnN n c p (lwN n c p (c (n * x + y))))))) J R _
              refine cr_nx (pc' := 55) (al' := [some (.ref d), some (.ref a), some (.int (nI p)), some (.int (nI (loN n c p))), some (.int (nI x)), some (.int (nI (y + 1))), some (.int (nI (c (n * x + y))))]) (st' := []) d_53_105 (fun _ => rfl) ?_
              refine cr_dr (al1 := [some (.ref d), some (.ref a), some (.int (nI p)), some (.int (nI (loN n c p))), some (.int (nI x)), some (.int (nI (y + 1))), none]) (le_s (le_s (le_s (le_s (le_s (le_s (le_d rfl (le_n)))))))) ?_
              exact ihy (upd w_ (qtM n c p * (cnN n c p (lwN n c p x)) + (cnN n c p (lwN n c p y))) (nI (cnN n c p (lwN n c p (c (n * x + y)))))) (sc_in py rfl (congrArg nI (qt_xy hn6 hl hu hN hx hy).symm))
          · show CR _ _ 55 [some (.ref d), some (.ref a), some (.int (nI p)), some (.int (nI (loN n c p))), some (.int (nI x)), some (.int (nI n)), none] [] S (up2 G d 0 (.int (nI (qtM n c p)))) (upr B (d + 1) w_) J R _
            refine cr_nx (pc' := 57) (al' := [some (.ref d), some (.ref a), some (.int (nI p)), some (.int (nI (loN n c p))), some (.int (nI x)), some (.int (nI n)), none]) (st' := [.int (nI n)]) d_53_55 (fun _ => rfl) ?_
            refine cr_nx (pc' := 58) (al' := [some (.ref d), some (.ref a), some (.int (nI p)), some (.int (nI (loN n c p))), some (.int (nI x)), some (.int (nI n)), none]) (st' := [.ref a, .int (nI n)]) d_53_57 (fun _ => rfl) ?_
            refine cr_gf (v := .int (nI n)) d_53_58 cw_53 cf_7_21 ht.1 ht.2.2.1 (by decide) (by simp [up2, hne]; exact hn) ?_
            refine cn_cge (t := 108) d_53_61 (by decide) (by first | omega | assumption | exact cu_36 (by omega) (cu_lt (by omega) (by omega))) (by first | omega | assumption | exact cu_36 (by omega) (cu_lt (by omega) (by omega))) (fun c61 => ?_) (fun c61 => ?_)
            · refine cn_inc d_53_108 rfl rfl ?_
              show CR _ _ 111 [some (.ref d), some (.ref a), some (.int (nI p)), some (.int (nI (loN n c p))), some (.int (nI (x + 1))), some (.int (nI n)), none] [] S (up2 G d 0 (.int (nI (qtM n c p)))) (upr B (d + 1) w_) J R _
              refine cr_nx (pc' := 43) (al' := [some (.ref d), some (.ref a), some (.int (nI p)), some (.int (nI (loN n c p))), some (.int (nI (x + 1))), some (.int (nI n)), none]) (st' := []) d_53_111 (fun _ => rfl) ?_
              refine cr_dr (al1 := [some (.ref d), some (.ref a), some (.int (nI p)), some (.int (nI (loN n c p))), some (.int (nI (x + 1))), none, none]) (le_s (le_s (le_s (le_s (le_s (le_d rfl (le_s (le_n)))))))) ?_
              exact ihx w_ (sc_out py)
            · omega
      · show CR _ _ 43 [some (.ref d), some (.ref a), some (.int (nI p)), some (.int (nI (loN n c p))), some (.int (nI n)), none, none] [] S (up2 G d 0 (.int (nI (qtM n c p)))) (upr B (d + 1) w_) J R _
        refine cr_nx (pc' := 45) (al' := [some (.ref d), some (.ref a), some (.int (nI p)), some (.int (nI (loN n c p))), some (.int (nI n)), none, none]) (st' := [.int (nI n)]) d_53_43 (fun _ => rfl) ?_
        refine cr_nx (pc' := 46) (al' := [some (.ref d), some (.ref a), some (.int (nI p)), some (.int (nI (loN n c p))), some (.int (nI n)), none, none]) (st' := [.ref a, .int (nI n)]) d_53_45 (fun _ => rfl) ?_
        refine cr_gf (v := .int (nI n)) d_53_46 cw_53 cf_7_21 ht.1 ht.2.2.1 (by decide) (by simp [up2, hne]; exact hn) ?_
        refine cn_cge (t := 114) d_53_49 (by decide) (by first | omega | assumption | exact cu_36 (by omega) (cu_lt (by omega) (by omega))) (by first | omega | assumption | exact cu_36 (by omega) (cu_lt (by omega) (by omega))) (fun c49 => ?_) (fun c49 => ?_)
        · exact cr_rv d_53_114 cx_53 ⟨rfl, rfl, rfl, rfl, rfl, w_, rfl, sc_all px (fun q hq => by
              have h1 := dm_dl hq
              have h2 := dm_ml hq
              obtain ⟨r1, r2⟩ := rp_f hlo h1
              obtain ⟨r3, r4⟩ := rp_f hlo h2
              obtain ⟨x, hx, e⟩ := lo_bit.mp r1
              obtain ⟨y, hy, e2⟩ := lo_bit.mp r3
              exact ⟨x, y, hx, hy, by rw [e, e2, r2, r4]; exact dm_q⟩)⟩
        · omega
    · omega
