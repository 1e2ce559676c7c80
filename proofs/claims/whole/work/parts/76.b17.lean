/-! Cycles of two rows, switches: theory and the class; printed by wip/whole/gen_b17.py. -/
def itN (s : Nat → Nat) : Nat → Nat → Nat
  | 0, x => x
  | i + 1, x => s (itN s i x)
theorem it_lt {n : Nat} {s : Nat → Nat} (h : Per n s) {x : Nat} (hx : x < n) : ∀ i, itN s i x < n
  | 0 => hx
  | i + 1 => h.1 _ (it_lt h hx i)
theorem it_add {s : Nat → Nat} {x : Nat} (i : Nat) : ∀ j, itN s (i + j) x = itN s j (itN s i x)
  | 0 => rfl
  | j + 1 => by show s (itN s (i + j) x) = s (itN s j (itN s i x)); rw [it_add i j]
theorem it_inj {n : Nat} {s : Nat → Nat} (h : Per n s) : ∀ {i x y : Nat}, x < n → y < n → itN s i x = itN s i y → x = y
  | 0, _, _, _, _, e => e
  | i + 1, x, y, hx, hy, e => it_inj h hx hy (h.2 _ _ (it_lt h hx i) (it_lt h hy i) e)
/-- the period -/
def pdN (n : Nat) (s : Nat → Nat) (x : Nat) : Nat := 1 + FX (fun i => decide (itN s (i + 1) x = x)) n
theorem pd_ex {n : Nat} {s : Nat → Nat} (h : Per n s) {x : Nat} (hx : x < n) : ∃ i, i < n ∧ itN s (i + 1) x = x := by
  apply Decidable.byContradiction
  intro hno
  have inj : ∀ i j, i < n + 1 → j < n + 1 → itN s i x = itN s j x → i = j := by
    have key : ∀ i j, i < j → j < n + 1 → ¬ itN s i x = itN s j x := by
      intro i j hij hj e
      obtain ⟨k, rfl⟩ : ∃ k, j = (k + 1) + i := ⟨j - i - 1, by omega⟩
      rw [it_add] at e
      have e2 := it_inj h hx (it_lt h hx (k + 1)) e
      exact hno ⟨k, by omega, e2.symm⟩
    intro i j hi hj e
    rcases Nat.lt_trichotomy i j with q | q | q
    · exact absurd e (key i j q hj)
    · exact q
    · exact absurd e.symm (key j i q hi)
  obtain ⟨i, hi, e⟩ := php_inj (n := n + 1) (f := fun i => itN s i x) (fun i _ => by have := it_lt h hx i; omega) inj n (by omega)
  have := it_lt h hx i
  have e : itN s i x = n := e
  omega
theorem pd_f {n : Nat} {s : Nat → Nat} (h : Per n s) {x : Nat} (hx : x < n) : 1 ≤ pdN n s x ∧ pdN n s x ≤ n ∧ itN s (pdN n s x) x = x ∧ ∀ i, 1 ≤ i → i < pdN n s x → ¬ itN s i x = x := by
  obtain ⟨i, hi, e⟩ := pd_ex h hx
  have h1 := FX_lt (p := fun i => decide (itN s (i + 1) x = x)) hi (decide_eq_true e)
  unfold pdN
  refine ⟨by omega, by omega, ?_, fun j hj1 hj2 => ?_⟩
  · rw [Nat.add_comm]
    exact of_decide_eq_true (FX_yes (fun i => decide (itN s (i + 1) x = x)) n h1)
  · have := of_decide_eq_false (FX_no (fun i => decide (itN s (i + 1) x = x)) n (j - 1) (by omega))
    rw [show j - 1 + 1 = j by omega] at this
    exact this
theorem pd_inj {n : Nat} {s : Nat → Nat} (h : Per n s) {x : Nat} (hx : x < n) {i j : Nat} (hi : i < pdN n s x) (hj : j < pdN n s x) (e : itN s i x = itN s j x) : i = j := by
  obtain ⟨_, _, _, h4⟩ := pd_f h hx
  have key : ∀ i j, i < j → j < pdN n s x → ¬ itN s i x = itN s j x := by
    intro i j hij hj e
    obtain ⟨k, rfl⟩ : ∃ k, j = (k + 1) + i := ⟨j - i - 1, by omega⟩
    rw [it_add] at e
    exact h4 (k + 1) (by omega) (by omega) (it_inj h hx (it_lt h hx (k + 1)) e).symm
  rcases Nat.lt_trichotomy i j with q | q | q
  · exact absurd e (key i j q hj)
  · exact q
  · exact absurd e.symm (key j i q hi)
def oF (s : Nat → Nat) (x i : Nat) : Nat := 1 * 2 ^ itN s i x
/-- the orbit, as a set -/
def orb (n : Nat) (s : Nat → Nat) (x : Nat) : Nat := ORs (oF s x) (pdN n s x)
theorem oF_bit {s : Nat → Nat} {x j q : Nat} : (ORs (oF s x) j).testBit q = true ↔ ∃ i, i < j ∧ itN s i x = q := by
  rw [ORs_bit]
  constructor
  · rintro ⟨i, hi, e⟩
    unfold oF at e
    rw [Nat.one_mul, Nat.testBit_two_pow] at e
    exact ⟨i, hi, of_decide_eq_true e⟩
  · rintro ⟨i, hi, e⟩
    exact ⟨i, hi, by unfold oF; rw [Nat.one_mul, Nat.testBit_two_pow]; exact decide_eq_true e⟩
theorem oF_lt {n : Nat} {s : Nat → Nat} (h : Per n s) (hn : n ≤ 6) {x : Nat} (hx : x < n) {j : Nat} : ORs (oF s x) j < 64 := ORs_lt (m := 6) fun i _ => by
  have := it_lt h hx i
  exact tw_64 (by omega)
theorem orb_s {n : Nat} {s : Nat → Nat} (h : Per n s) {x q : Nat} (hx : x < n) (hq : (orb n s x).testBit q = true) : (orb n s x).testBit (s q) = true := by
  obtain ⟨i, hi, e⟩ := oF_bit.mp hq
  obtain ⟨h1, _, h3, _⟩ := pd_f h hx
  by_cases e2 : i + 1 = pdN n s x
  · refine oF_bit.mpr ⟨0, by omega, ?_⟩
    show x = s q
    rw [← e]
    show x = itN s (i + 1) x
    rw [e2, h3]
  · exact oF_bit.mpr ⟨i + 1, by omega, by show s (itN s i x) = s q; rw [e]⟩
theorem orb_p {n : Nat} {s : Nat → Nat} (h : Per n s) {x q : Nat} (hx : x < n) (hqn : q < n) (hq : (orb n s x).testBit (s q) = true) : (orb n s x).testBit q = true := by
  obtain ⟨i, hi, e⟩ := oF_bit.mp hq
  obtain ⟨h1, _, h3, _⟩ := pd_f h hx
  rcases Nat.eq_zero_or_pos i with e2 | e2
  · subst e2
    refine oF_bit.mpr ⟨pdN n s x - 1, by omega, h.2 _ _ (it_lt h hx _) hqn ?_⟩
    show itN s (pdN n s x - 1 + 1) x = s q
    rw [show pdN n s x - 1 + 1 = pdN n s x by omega, h3]
    exact e
  · obtain ⟨k, rfl⟩ : ∃ k, i = k + 1 := ⟨i - 1, by omega⟩
    exact oF_bit.mpr ⟨k, by omega, h.2 _ _ (it_lt h hx k) hqn e⟩
theorem orb_lt {n : Nat} {s : Nat → Nat} (h : Per n s) {x q : Nat} (hx : x < n) (hq : (orb n s x).testBit q = true) : q < n := by
  obtain ⟨i, hi, e⟩ := oF_bit.mp hq
  rw [← e]
  exact it_lt h hx i
theorem orb_pd {n : Nat} {s : Nat → Nat} (h : Per n s) {x y : Nat} (hx : x < n) (hy : (orb n s x).testBit y = true) : pdN n s y = pdN n s x := by
  obtain ⟨i, hi, e⟩ := oF_bit.mp hy
  have hyn := orb_lt h hx hy
  obtain ⟨a1, a2, a3, a4⟩ := pd_f h hx
  obtain ⟨b1, b2, b3, b4⟩ := pd_f h hyn
  have cm : ∀ j, itN s j y = y ↔ itN s j x = x := by
    intro j
    rw [← e, ← it_add, Nat.add_comm, it_add]
    constructor
    · exact fun q => it_inj h (it_lt h hx j) hx q
    · exact fun q => by rw [q]
  rcases Nat.lt_trichotomy (pdN n s y) (pdN n s x) with q | q | q
  · exact absurd ((cm _).mp b3) (a4 _ b1 q)
  · exact q
  · exact absurd ((cm _).mpr a3) (b4 _ a1 q)
theorem onN_1 {t v : Nat} (hv : v < 16) (h : t.testBit v = false) : onN (t ||| 1 * 2 ^ v) = onN t + 1 := by
  unfold onN
  rw [SM_rm (f := fun k => (t ||| 1 * 2 ^ v) / 2 ^ k &&& 1) hv, SM_rm (f := fun k => t / 2 ^ k &&& 1) hv]
  have e1 : (t ||| 1 * 2 ^ v) / 2 ^ v &&& 1 = 1 := bt_e1.mpr (by rw [Nat.testBit_or, Nat.one_mul, Nat.testBit_two_pow_self, Bool.or_true])
  have e2 : t / 2 ^ v &&& 1 = 0 := bt_e0.mpr h
  rw [e1, e2]
  have : SM (fun k => if k = v then 0 else (t ||| 1 * 2 ^ v) / 2 ^ k &&& 1) 16 = SM (fun k => if k = v then 0 else t / 2 ^ k &&& 1) 16 := SM_c fun k _ => by
    by_cases e : k = v
    · rw [if_pos e, if_pos e]
    · rw [if_neg e, if_neg e, bt_1, bt_1, Nat.testBit_or, Nat.one_mul, Nat.testBit_two_pow, decide_eq_false (fun q => e q.symm), Bool.or_false]
  rw [this]
theorem orb_on {n : Nat} {s : Nat → Nat} (h : Per n s) (hn : n ≤ 6) {x : Nat} (hx : x < n) : onN (orb n s x) = pdN n s x := by
  have key : ∀ j, j ≤ pdN n s x → onN (ORs (oF s x) j) = j := by
    intro j
    induction j with
    | zero => intro _; show onN 0 = 0; decide
    | succ j ih =>
      intro hj
      rw [ORs_s, oF, onN_1 (by have := it_lt h hx j; omega), ih (by omega)]
      cases e : (ORs (oF s x) j).testBit (itN s j x)
      · rfl
      · obtain ⟨i, hi, e2⟩ := oF_bit.mp e
        have := pd_inj h hx (by omega) (by omega) e2
        omega
  exact key _ (Nat.le_refl _)
/-- from a column to the next one of two rows' cycle -/
def sgN (n : Nat) (c : Nat → Nat) (e f y : Nat) : Nat := undI n c e (c (n * f + y))
theorem sg_per {n : Nat} {c : Nat → Nat} (hl : Lat n c) {e f : Nat} (he : e < n) (hf : f < n) : Per n (sgN n c e f) := ⟨fun y hy => (hl.u he (hl.b hf hy)).1, fun i j hi hj q => by
  have q1 := (hl.u he (hl.b hf hi)).2
  have q2 := (hl.u he (hl.b hf hj)).2
  unfold sgN at q
  rw [q] at q1
  exact hl.2.1 f i j hf hi hj (q1.symm.trans q2)⟩
theorem sg_e {n : Nat} {c : Nat → Nat} (hl : Lat n c) {e f y : Nat} (he : e < n) (hf : f < n) (hy : y < n) : c (n * e + sgN n c e f y) = c (n * f + y) := (hl.u he (hl.b hf hy)).2
/-- two rows switched in a set of columns -/
def swN (n : Nat) (c : Nat → Nat) (e f o q : Nat) : Nat := if o.testBit (q % n) = true ∧ q / n = e then c (n * f + q % n) else if o.testBit (q % n) = true ∧ q / n = f then c (n * e + q % n) else c q
theorem sw_at {n : Nat} {c : Nat → Nat} {e f o x y : Nat} (hy : y < n) : swN n c e f o (n * x + y) = if o.testBit y = true ∧ x = e then c (n * f + y) else if o.testBit y = true ∧ x = f then c (n * e + y) else c (n * x + y) := by
  unfold swN
  rw [dm_d hy, dm_m hy]
/-- a set that is closed under the step gives a latin table again -/
theorem sw_lat {n : Nat} {c : Nat → Nat} (hl : Lat n c) {e f o : Nat} (he : e < n) (hf : f < n) (hef : e ≠ f) (h1 : ∀ q, q < n → o.testBit q = true → o.testBit (sgN n c e f q) = true) (h2 : ∀ q, q < n → o.testBit (sgN n c e f q) = true → o.testBit q = true) : Lat n (swN n c e f o) := by
  have hP := sg_per hl he hf
  have mix : ∀ y z, y < n → z < n → o.testBit y = true → ¬ o.testBit z = true → ¬ c (n * f + y) = c (n * e + z) := by
    intro y z hy hz oy oz q
    rw [← sg_e hl he hf hy] at q
    have := hl.2.1 e _ _ he (hP.1 y hy) hz q
    rw [← this] at oz
    exact oz (h1 y hy oy)
  have mix2 : ∀ y z, y < n → z < n → o.testBit y = true → ¬ o.testBit z = true → ¬ c (n * e + y) = c (n * f + z) := by
    intro y z hy hz oy oz q
    rw [← sg_e hl he hf hz] at q
    have := hl.2.1 e _ _ he hy (hP.1 z hz) q
    rw [this] at oy
    exact oz (h2 z hz oy)
  refine ⟨fun q hq => ?_, fun x y z hx hy hz q => ?_, fun x y z hx hy hz q => ?_⟩
  · have hm := dm_ml hq
    unfold swN
    split
    · exact hl.b hf hm
    · split
      · exact hl.b he hm
      · exact hl.1 q hq
  · rw [sw_at hy, sw_at hz] at q
    by_cases oy : o.testBit y = true <;> by_cases oz : o.testBit z = true <;> by_cases xe : x = e <;> by_cases xf : x = f
    all_goals simp only [oy, oz, xe, xf, true_and, false_and, if_true, if_false, and_true, and_false, hef, hef.symm, Bool.false_eq_true] at q
    all_goals first
      | exact absurd (xe.symm.trans xf) hef
      | (subst xe; first | exact hl.2.1 f y z hf hy hz q | exact hl.2.1 _ y z hx hy hz q | exact absurd q (mix y z hy hz oy oz) | exact absurd q.symm (mix z y hz hy oz oy))
      | (subst xf; first | exact hl.2.1 e y z he hy hz q | exact hl.2.1 _ y z hx hy hz q | exact absurd q (mix2 y z hy hz oy oz) | exact absurd q.symm (mix2 z y hz hy oz oy))
      | exact hl.2.1 x y z hx hy hz q
  · rw [sw_at hz, sw_at hz] at q
    by_cases oz : o.testBit z = true
    · by_cases xe : x = e <;> by_cases ye : y = e <;> by_cases xf : x = f <;> by_cases yf : y = f
      all_goals simp only [oz, xe, ye, xf, yf, true_and, if_true, if_false, hef, hef.symm] at q
      all_goals first
        | exact absurd (xe.symm.trans xf) hef
        | exact absurd (ye.symm.trans yf) hef
        | (rw [xe, ye])
        | (rw [xf, yf])
        | (exfalso; have := hl.2.2 _ _ z hf he hz q; exact hef this.symm)
        | (exfalso; have := hl.2.2 _ _ z he hf hz q; exact hef this)
        | (exfalso; have := hl.2.2 _ _ z hf hy hz q; exact yf this.symm)
        | (exfalso; have := hl.2.2 _ _ z he hy hz q; exact ye this.symm)
        | (exfalso; have := hl.2.2 _ _ z hx hf hz q; exact xf this)
        | (exfalso; have := hl.2.2 _ _ z hx he hz q; exact xe this)
        | exact hl.2.2 x y z hx hy hz q
    · simp only [oz, false_and, if_false, Bool.false_eq_true] at q
      exact hl.2.2 x y z hx hy hz q
theorem orb_lat {n : Nat} {c : Nat → Nat} (hl : Lat n c) {e f x : Nat} (he : e < n) (hf : f < n) (hef : e ≠ f) (hx : x < n) : Lat n (swN n c e f (orb n (sgN n c e f) x)) := sw_lat hl he hf hef (fun _ _ h => orb_s (sg_per hl he hf) hx h) (fun _ hq h => orb_p (sg_per hl he hf) hx hq h)
theorem nI_ge0 {n : Nat} (h : n < 2 ^ 31) : (0 : Int32) ≤ nI n := by
  rw [← nI_0]
  exact nI_le (Nat.zero_le _) h
theorem k_cycleFrom {S : CS} {G : Nat → Nat → Value} {B : Nat → Nat → Int32} {J : Nat → Nat → Int64} {R : Nat → Nat → Option Nat} {a n : Nat} (ht : TabAt S G a) (hn : G a 0 = .int (nI n)) {c : Nat → Nat} (hc : TabC B a n c) (hl : Lat n c) {e f : Nat} (he : e < n) (hf : f < n) {k : Nat} (hk : k < n) : CR 2 101 0 [some (.ref a), some (.int (nI e)), some (.int (nI f)), some (.int (nI k)), none, none, none] [] S G B J R (cP (some (.int (nI (orb n (sgN n c e f) k)))) S G B J R) := by
  have hn6 := hc.1
  have hP := sg_per hl he hf
  obtain ⟨d, hd⟩ : ∃ d, d = pdN n (sgN n c e f) k := ⟨_, rfl⟩
  obtain ⟨d1, d2, d3, d4⟩ := pd_f hP hk
  rw [← hd] at d1 d2 d3 d4
  refine cn_ic (v := 0) d_101_0 (by decide) ?_
  refine cr_nx (pc' := 3) (al' := [some (.ref a), some (.int (nI e)), some (.int (nI f)), some (.int (nI k)), some (.int (nI 0)), none, none]) (st' := []) d_101_1 (fun _ => rfl) ?_
  refine cr_nx (pc' := 4) (al' := [some (.ref a), some (.int (nI e)), some (.int (nI f)), some (.int (nI k)), some (.int (nI 0)), none, none]) (st' := [.int (nI k)]) d_101_3 (fun _ => rfl) ?_
  refine cr_nx (pc' := 6) (al' := [some (.ref a), some (.int (nI e)), some (.int (nI f)), some (.int (nI k)), some (.int (nI 0)), some (.int (nI k)), none]) (st' := []) d_101_4 (fun _ => rfl) ?_
  refine cn_ic (v := 0) d_101_6 (by decide) ?_
  refine cr_nx (pc' := 9) (al' := [some (.ref a), some (.int (nI e)), some (.int (nI f)), some (.int (nI k)), some (.int (nI 0)), some (.int (nI k)), some (.int (nI 0))]) (st' := []) d_101_7 (fun _ => rfl) ?_
  refine cr_al (congrArg (fun z__ : Nat => ([some (.ref a), some (.int (nI e)), some (.int (nI f)), some (.int (nI k)), some (.int (nI z__)), some (.int (nI k)), some (.int (nI 0))] : AL)) (show 0 = ORs (oF (sgN n c e f) k) 0 by rfl)) ?_
  refine cr_al (congrArg (fun z__ : Nat => ([some (.ref a), some (.int (nI e)), some (.int (nI f)), some (.int (nI k)), some (.int (nI (ORs (oF (sgN n c e f) k) 0))), some (.int (nI z__)), some (.int (nI 0))] : AL)) (show k = itN (sgN n c e f) 0 k by rfl)) ?_
  refine cr_up (al := fun i => [some (.ref a), some (.int (nI e)), some (.int (nI f)), some (.int (nI k)), some (.int (nI (ORs (oF (sgN n c e f) k) i))), some (.int (nI (itN (sgN n c e f) i k))), some (.int (nI i))]) (S := fun i => S) (G := fun i => G) (B := fun i => B) (J := fun i => J) (R := fun i => R) (P := fun i => True) (n := d - 1) (fun i hi pi ihi => ?_) (fun pi => ?_) 0  (by omega) (trivial)
  · show CR _ _ 9 [some (.ref a), some (.int (nI e)), some (.int (nI f)), some (.int (nI k)), some (.int (nI (ORs (oF (sgN n c e f) k) i))), some (.int (nI (itN (sgN n c e f) i k))), some (.int (nI i))] [] S G B J R _
    have hit := it_lt hP hk i
    have hit2 := it_lt hP hk (i + 1)
    refine cr_nx (pc' := 11) (al' := [some (.ref a), some (.int (nI e)), some (.int (nI f)), some (.int (nI k)), some (.int (nI (ORs (oF (sgN n c e f) k) i))), some (.int (nI (itN (sgN n c e f) i k))), some (.int (nI i))]) (st' := [.int (nI i)]) d_101_9 (fun _ => rfl) ?_
    refine cr_nx (pc' := 12) (al' := [some (.ref a), some (.int (nI e)), some (.int (nI f)), some (.int (nI k)), some (.int (nI (ORs (oF (sgN n c e f) k) i))), some (.int (nI (itN (sgN n c e f) i k))), some (.int (nI i))]) (st' := [.ref a, .int (nI i)]) d_101_11 (fun _ => rfl) ?_
    refine cr_gf (v := .int (nI n)) d_101_12 cw_101 cf_10_15 ht.1 ht.2.2.1 (by decide) hn ?_
    refine cn_cge (t := 65) d_101_15 (by decide) (by first | omega | assumption | exact cu_36 (by omega) (cu_lt (by omega) (by omega))) (by first | omega | assumption | exact cu_36 (by omega) (cu_lt (by omega) (by omega))) (fun c15 => ?_) (fun c15 => ?_)
    · omega
    · refine cr_nx (pc' := 19) (al' := [some (.ref a), some (.int (nI e)), some (.int (nI f)), some (.int (nI k)), some (.int (nI (ORs (oF (sgN n c e f) k) i))), some (.int (nI (itN (sgN n c e f) i k))), some (.int (nI i))]) (st' := [.ref a]) d_101_18 (fun _ => rfl) ?_
      refine cr_nx (pc' := 21) (al' := [some (.ref a), some (.int (nI e)), some (.int (nI f)), some (.int (nI k)), some (.int (nI (ORs (oF (sgN n c e f) k) i))), some (.int (nI (itN (sgN n c e f) i k))), some (.int (nI i))]) (st' := [.int (nI (itN (sgN n c e f) i k)), .ref a]) d_101_19 (fun _ => rfl) ?_
      refine cr_pv (b := a) (as := [.int (nI (itN (sgN n c e f) i k))]) (al0 := [some (.ref a), some (.int (nI (itN (sgN n c e f) i k)))]) (r := []) d_101_21 cw_101 cm_10_19 cz_92 rfl rfl ht.1 (by rw [cw_92]; exact ht.2.2.1) (by rw [cw_92]; decide) rfl (Nat.le_of_ble_eq_true rfl) (k_hasElement ht hn (nI (itN (sgN n c e f) i k))) ?_
      show CR _ _ 24 [some (.ref a), some (.int (nI e)), some (.int (nI f)), some (.int (nI k)), some (.int (nI (ORs (oF (sgN n c e f) k) i))), some (.int (nI (itN (sgN n c e f) i k))), some (.int (nI i))] [.int (bI (0 ≤ (nI (itN (sgN n c e f) i k)) ∧ (nI (itN (sgN n c e f) i k)) < nI n))] S G B J R _
      refine cr_beq (t := 65) d_101_24 (by decide) (fun c24 => ?_) (fun c24 => ?_)
      · exact absurd ⟨nI_ge0 (by omega), (nI_ltI (by omega) (by omega)).mpr (by omega)⟩ c24
      · refine cr_nx (pc' := 29) (al' := [some (.ref a), some (.int (nI e)), some (.int (nI f)), some (.int (nI k)), some (.int (nI (ORs (oF (sgN n c e f) k) i))), some (.int (nI (itN (sgN n c e f) i k))), some (.int (nI i))]) (st' := [.int (nI (ORs (oF (sgN n c e f) k) i))]) d_101_27 (fun _ => rfl) ?_
        refine cn_ic (v := 1) d_101_29 (by decide) ?_
        refine cr_nx (pc' := 32) (al' := [some (.ref a), some (.int (nI e)), some (.int (nI f)), some (.int (nI k)), some (.int (nI (ORs (oF (sgN n c e f) k) i))), some (.int (nI (itN (sgN n c e f) i k))), some (.int (nI i))]) (st' := [.int (nI (itN (sgN n c e f) i k)), .int (nI 1), .int (nI (ORs (oF (sgN n c e f) k) i))]) d_101_30 (fun _ => rfl) ?_
        refine cn_shl d_101_32 (by first | omega | assumption | exact cu_36 (by omega) (cu_lt (by omega) (by omega))) ?_
        refine cn_or d_101_33 ?_
        refine cr_nx (pc' := 36) (al' := [some (.ref a), some (.int (nI e)), some (.int (nI f)), some (.int (nI k)), some (.int (nI ((ORs (oF (sgN n c e f) k) i) ||| (1 * 2 ^ (itN (sgN n c e f) i k))))), some (.int (nI (itN (sgN n c e f) i k))), some (.int (nI i))]) (st' := []) d_101_34 (fun _ => rfl) ?_
        refine cr_nx (pc' := 37) (al' := [some (.ref a), some (.int (nI e)), some (.int (nI f)), some (.int (nI k)), some (.int (nI ((ORs (oF (sgN n c e f) k) i) ||| (1 * 2 ^ (itN (sgN n c e f) i k))))), some (.int (nI (itN (sgN n c e f) i k))), some (.int (nI i))]) (st' := [.ref a]) d_101_36 (fun _ => rfl) ?_
        refine cr_nx (pc' := 38) (al' := [some (.ref a), some (.int (nI e)), some (.int (nI f)), some (.int (nI k)), some (.int (nI ((ORs (oF (sgN n c e f) k) i) ||| (1 * 2 ^ (itN (sgN n c e f) i k))))), some (.int (nI (itN (sgN n c e f) i k))), some (.int (nI i))]) (st' := [.int (nI e), .ref a]) d_101_37 (fun _ => rfl) ?_
        refine cr_nx (pc' := 39) (al' := [some (.ref a), some (.int (nI e)), some (.int (nI f)), some (.int (nI k)), some (.int (nI ((ORs (oF (sgN n c e f) k) i) ||| (1 * 2 ^ (itN (sgN n c e f) i k))))), some (.int (nI (itN (sgN n c e f) i k))), some (.int (nI i))]) (st' := [.ref a, .int (nI e), .ref a]) d_101_38 (fun _ => rfl) ?_
        refine cr_nx (pc' := 40) (al' := [some (.ref a), some (.int (nI e)), some (.int (nI f)), some (.int (nI k)), some (.int (nI ((ORs (oF (sgN n c e f) k) i) ||| (1 * 2 ^ (itN (sgN n c e f) i k))))), some (.int (nI (itN (sgN n c e f) i k))), some (.int (nI i))]) (st' := [.int (nI f), .ref a, .int (nI e), .ref a]) d_101_39 (fun _ => rfl) ?_
        refine cr_nx (pc' := 42) (al' := [some (.ref a), some (.int (nI e)), some (.int (nI f)), some (.int (nI k)), some (.int (nI ((ORs (oF (sgN n c e f) k) i) ||| (1 * 2 ^ (itN (sgN n c e f) i k))))), some (.int (nI (itN (sgN n c e f) i k))), some (.int (nI i))]) (st' := [.int (nI (itN (sgN n c e f) i k)), .int (nI f), .ref a, .int (nI e), .ref a]) d_101_40 (fun _ => rfl) ?_
        refine cr_pv (b := a) (as := [.int (nI f), .int (nI (itN (sgN n c e f) i k))]) (al0 := [some (.ref a), some (.int (nI f)), some (.int (nI (itN (sgN n c e f) i k)))]) (r := [.int (nI e), .ref a]) d_101_42 cw_101 cm_10_23 cz_91 rfl rfl ht.1 (by rw [cw_91]; exact ht.2.2.1) (by rw [cw_91]; decide) rfl (Nat.le_of_ble_eq_true rfl) (k_times ht hn hc (by omega) (by omega)) ?_
        show CR _ _ 45 [some (.ref a), some (.int (nI e)), some (.int (nI f)), some (.int (nI k)), some (.int (nI ((ORs (oF (sgN n c e f) k) i) ||| (1 * 2 ^ (itN (sgN n c e f) i k))))), some (.int (nI (itN (sgN n c e f) i k))), some (.int (nI i))] [.int (nI (c (n * f + (itN (sgN n c e f) i k)))), .int (nI e), .ref a] S G B J R _
        have b42 : c (n * f + (itN (sgN n c e f) i k)) < n := (hc.2 _ (cu_lt (by omega) (by omega))).2
        refine cr_pv (b := a) (as := [.int (nI e), .int (nI (c (n * f + (itN (sgN n c e f) i k))))]) (al0 := [some (.ref a), some (.int (nI e)), some (.int (nI (c (n * f + (itN (sgN n c e f) i k))))), none]) (r := []) d_101_45 cw_101 cm_10_53 cz_102 rfl rfl ht.1 (by rw [cw_102]; exact ht.2.2.1) (by rw [cw_102]; decide) rfl (Nat.le_of_ble_eq_true rfl) ((fxV_t (hl.u (x := e) (v := c (n * f + (itN (sgN n c e f) i k))) (by omega) (by omega)).1 ▸ k_under ht hn hc (x := e) (v := c (n * f + (itN (sgN n c e f) i k))) (by omega) (by omega))) ?_
        show CR _ _ 48 [some (.ref a), some (.int (nI e)), some (.int (nI f)), some (.int (nI k)), some (.int (nI ((ORs (oF (sgN n c e f) k) i) ||| (1 * 2 ^ (itN (sgN n c e f) i k))))), some (.int (nI (itN (sgN n c e f) i k))), some (.int (nI i))] [.int (nI (undI n c e (c (n * f + (itN (sgN n c e f) i k)))))] S G B J R _
        have b45 : undI n c e (c (n * f + (itN (sgN n c e f) i k))) < n := (hl.u (by omega) (by omega)).1
        refine cr_nx (pc' := 50) (al' := [some (.ref a), some (.int (nI e)), some (.int (nI f)), some (.int (nI k)), some (.int (nI ((ORs (oF (sgN n c e f) k) i) ||| (1 * 2 ^ (itN (sgN n c e f) i k))))), some (.int (nI (undI n c e (c (n * f + (itN (sgN n c e f) i k)))))), some (.int (nI i))]) (st' := []) d_101_48 (fun _ => rfl) ?_
        refine cr_nx (pc' := 52) (al' := [some (.ref a), some (.int (nI e)), some (.int (nI f)), some (.int (nI k)), some (.int (nI ((ORs (oF (sgN n c e f) k) i) ||| (1 * 2 ^ (itN (sgN n c e f) i k))))), some (.int (nI (undI n c e (c (n * f + (itN (sgN n c e f) i k)))))), some (.int (nI i))]) (st' := [.int (nI (undI n c e (c (n * f + (itN (sgN n c e f) i k)))))]) d_101_50 (fun _ => rfl) ?_
        refine cr_nx (pc' := 53) (al' := [some (.ref a), some (.int (nI e)), some (.int (nI f)), some (.int (nI k)), some (.int (nI ((ORs (oF (sgN n c e f) k) i) ||| (1 * 2 ^ (itN (sgN n c e f) i k))))), some (.int (nI (undI n c e (c (n * f + (itN (sgN n c e f) i k)))))), some (.int (nI i))]) (st' := [.int (nI k), .int (nI (undI n c e (c (n * f + (itN (sgN n c e f) i k)))))]) d_101_52 (fun _ => rfl) ?_
        refine cn_cne (t := 59) d_101_53 (by decide) (by exact Nat.lt_of_lt_of_le hit2 (by omega)) (by omega) (fun c53 => ?_) (fun c53 => ?_)
        · refine cn_inc d_101_59 rfl rfl ?_
          show CR _ _ 62 [some (.ref a), some (.int (nI e)), some (.int (nI f)), some (.int (nI k)), some (.int (nI ((ORs (oF (sgN n c e f) k) i) ||| (1 * 2 ^ (itN (sgN n c e f) i k))))), some (.int (nI (undI n c e (c (n * f + (itN (sgN n c e f) i k)))))), some (.int (nI (i + 1)))] [] S G B J R _
          refine cr_nx (pc' := 9) (al' := [some (.ref a), some (.int (nI e)), some (.int (nI f)), some (.int (nI k)), some (.int (nI ((ORs (oF (sgN n c e f) k) i) ||| (1 * 2 ^ (itN (sgN n c e f) i k))))), some (.int (nI (undI n c e (c (n * f + (itN (sgN n c e f) i k)))))), some (.int (nI (i + 1)))]) (st' := []) d_101_62 (fun _ => rfl) ?_
          refine cr_al (congrArg (fun z__ : Nat => ([some (.ref a), some (.int (nI e)), some (.int (nI f)), some (.int (nI k)), some (.int (nI z__)), some (.int (nI (undI n c e (c (n * f + (itN (sgN n c e f) i k)))))), some (.int (nI (i + 1)))] : AL)) (show (ORs (oF (sgN n c e f) k) i) ||| (1 * 2 ^ (itN (sgN n c e f) i k)) = ORs (oF (sgN n c e f) k) (i + 1) by rfl)) ?_
          refine cr_al (congrArg (fun z__ : Nat => ([some (.ref a), some (.int (nI e)), some (.int (nI f)), some (.int (nI k)), some (.int (nI (ORs (oF (sgN n c e f) k) (i + 1)))), some (.int (nI z__)), some (.int (nI (i + 1)))] : AL)) (show undI n c e (c (n * f + (itN (sgN n c e f) i k))) = itN (sgN n c e f) (i + 1) k by rfl)) ?_
          exact ihi  (trivial)
        · exact absurd c53 (d4 (i + 1) (by omega) (by omega))
  · show CR _ _ 9 [some (.ref a), some (.int (nI e)), some (.int (nI f)), some (.int (nI k)), some (.int (nI (ORs (oF (sgN n c e f) k) (d - 1)))), some (.int (nI (itN (sgN n c e f) (d - 1) k))), some (.int (nI (d - 1)))] [] S G B J R _
    have hit := it_lt hP hk (d - 1)
    have hit2 := it_lt hP hk (d - 1 + 1)
    refine cr_nx (pc' := 11) (al' := [some (.ref a), some (.int (nI e)), some (.int (nI f)), some (.int (nI k)), some (.int (nI (ORs (oF (sgN n c e f) k) (d - 1)))), some (.int (nI (itN (sgN n c e f) (d - 1) k))), some (.int (nI (d - 1)))]) (st' := [.int (nI (d - 1))]) d_101_9 (fun _ => rfl) ?_
    refine cr_nx (pc' := 12) (al' := [some (.ref a), some (.int (nI e)), some (.int (nI f)), some (.int (nI k)), some (.int (nI (ORs (oF (sgN n c e f) k) (d - 1)))), some (.int (nI (itN (sgN n c e f) (d - 1) k))), some (.int (nI (d - 1)))]) (st' := [.ref a, .int (nI (d - 1))]) d_101_11 (fun _ => rfl) ?_
    refine cr_gf (v := .int (nI n)) d_101_12 cw_101 cf_10_15 ht.1 ht.2.2.1 (by decide) hn ?_
    refine cn_cge (t := 65) d_101_15 (by decide) (by first | omega | assumption | exact cu_36 (by omega) (cu_lt (by omega) (by omega))) (by first | omega | assumption | exact cu_36 (by omega) (cu_lt (by omega) (by omega))) (fun c15 => ?_) (fun c15 => ?_)
    · omega
    · refine cr_nx (pc' := 19) (al' := [some (.ref a), some (.int (nI e)), some (.int (nI f)), some (.int (nI k)), some (.int (nI (ORs (oF (sgN n c e f) k) (d - 1)))), some (.int (nI (itN (sgN n c e f) (d - 1) k))), some (.int (nI (d - 1)))]) (st' := [.ref a]) d_101_18 (fun _ => rfl) ?_
      refine cr_nx (pc' := 21) (al' := [some (.ref a), some (.int (nI e)), some (.int (nI f)), some (.int (nI k)), some (.int (nI (ORs (oF (sgN n c e f) k) (d - 1)))), some (.int (nI (itN (sgN n c e f) (d - 1) k))), some (.int (nI (d - 1)))]) (st' := [.int (nI (itN (sgN n c e f) (d - 1) k)), .ref a]) d_101_19 (fun _ => rfl) ?_
      refine cr_pv (b := a) (as := [.int (nI (itN (sgN n c e f) (d - 1) k))]) (al0 := [some (.ref a), some (.int (nI (itN (sgN n c e f) (d - 1) k)))]) (r := []) d_101_21 cw_101 cm_10_19 cz_92 rfl rfl ht.1 (by rw [cw_92]; exact ht.2.2.1) (by rw [cw_92]; decide) rfl (Nat.le_of_ble_eq_true rfl) (k_hasElement ht hn (nI (itN (sgN n c e f) (d - 1) k))) ?_
      show CR _ _ 24 [some (.ref a), some (.int (nI e)), some (.int (nI f)), some (.int (nI k)), some (.int (nI (ORs (oF (sgN n c e f) k) (d - 1)))), some (.int (nI (itN (sgN n c e f) (d - 1) k))), some (.int (nI (d - 1)))] [.int (bI (0 ≤ (nI (itN (sgN n c e f) (d - 1) k)) ∧ (nI (itN (sgN n c e f) (d - 1) k)) < nI n))] S G B J R _
      refine cr_beq (t := 65) d_101_24 (by decide) (fun c24 => ?_) (fun c24 => ?_)
      · exact absurd ⟨nI_ge0 (by omega), (nI_ltI (by omega) (by omega)).mpr (by omega)⟩ c24
      · refine cr_nx (pc' := 29) (al' := [some (.ref a), some (.int (nI e)), some (.int (nI f)), some (.int (nI k)), some (.int (nI (ORs (oF (sgN n c e f) k) (d - 1)))), some (.int (nI (itN (sgN n c e f) (d - 1) k))), some (.int (nI (d - 1)))]) (st' := [.int (nI (ORs (oF (sgN n c e f) k) (d - 1)))]) d_101_27 (fun _ => rfl) ?_
        refine cn_ic (v := 1) d_101_29 (by decide) ?_
        refine cr_nx (pc' := 32) (al' := [some (.ref a), some (.int (nI e)), some (.int (nI f)), some (.int (nI k)), some (.int (nI (ORs (oF (sgN n c e f) k) (d - 1)))), some (.int (nI (itN (sgN n c e f) (d - 1) k))), some (.int (nI (d - 1)))]) (st' := [.int (nI (itN (sgN n c e f) (d - 1) k)), .int (nI 1), .int (nI (ORs (oF (sgN n c e f) k) (d - 1)))]) d_101_30 (fun _ => rfl) ?_
        refine cn_shl d_101_32 (by first | omega | assumption | exact cu_36 (by omega) (cu_lt (by omega) (by omega))) ?_
        refine cn_or d_101_33 ?_
        refine cr_nx (pc' := 36) (al' := [some (.ref a), some (.int (nI e)), some (.int (nI f)), some (.int (nI k)), some (.int (nI ((ORs (oF (sgN n c e f) k) (d - 1)) ||| (1 * 2 ^ (itN (sgN n c e f) (d - 1) k))))), some (.int (nI (itN (sgN n c e f) (d - 1) k))), some (.int (nI (d - 1)))]) (st' := []) d_101_34 (fun _ => rfl) ?_
        refine cr_nx (pc' := 37) (al' := [some (.ref a), some (.int (nI e)), some (.int (nI f)), some (.int (nI k)), some (.int (nI ((ORs (oF (sgN n c e f) k) (d - 1)) ||| (1 * 2 ^ (itN (sgN n c e f) (d - 1) k))))), some (.int (nI (itN (sgN n c e f) (d - 1) k))), some (.int (nI (d - 1)))]) (st' := [.ref a]) d_101_36 (fun _ => rfl) ?_
        refine cr_nx (pc' := 38) (al' := [some (.ref a), some (.int (nI e)), some (.int (nI f)), some (.int (nI k)), some (.int (nI ((ORs (oF (sgN n c e f) k) (d - 1)) ||| (1 * 2 ^ (itN (sgN n c e f) (d - 1) k))))), some (.int (nI (itN (sgN n c e f) (d - 1) k))), some (.int (nI (d - 1)))]) (st' := [.int (nI e), .ref a]) d_101_37 (fun _ => rfl) ?_
        refine cr_nx (pc' := 39) (al' := [some (.ref a), some (.int (nI e)), some (.int (nI f)), some (.int (nI k)), some (.int (nI ((ORs (oF (sgN n c e f) k) (d - 1)) ||| (1 * 2 ^ (itN (sgN n c e f) (d - 1) k))))), some (.int (nI (itN (sgN n c e f) (d - 1) k))), some (.int (nI (d - 1)))]) (st' := [.ref a, .int (nI e), .ref a]) d_101_38 (fun _ => rfl) ?_
        refine cr_nx (pc' := 40) (al' := [some (.ref a), some (.int (nI e)), some (.int (nI f)), some (.int (nI k)), some (.int (nI ((ORs (oF (sgN n c e f) k) (d - 1)) ||| (1 * 2 ^ (itN (sgN n c e f) (d - 1) k))))), some (.int (nI (itN (sgN n c e f) (d - 1) k))), some (.int (nI (d - 1)))]) (st' := [.int (nI f), .ref a, .int (nI e), .ref a]) d_101_39 (fun _ => rfl) ?_
        refine cr_nx (pc' := 42) (al' := [some (.ref a), some (.int (nI e)), some (.int (nI f)), some (.int (nI k)), some (.int (nI ((ORs (oF (sgN n c e f) k) (d - 1)) ||| (1 * 2 ^ (itN (sgN n c e f) (d - 1) k))))), some (.int (nI (itN (sgN n c e f) (d - 1) k))), some (.int (nI (d - 1)))]) (st' := [.int (nI (itN (sgN n c e f) (d - 1) k)), .int (nI f), .ref a, .int (nI e), .ref a]) d_101_40 (fun _ => rfl) ?_
        refine cr_pv (b := a) (as := [.int (nI f), .int (nI (itN (sgN n c e f) (d - 1) k))]) (al0 := [some (.ref a), some (.int (nI f)), some (.int (nI (itN (sgN n c e f) (d - 1) k)))]) (r := [.int (nI e), .ref a]) d_101_42 cw_101 cm_10_23 cz_91 rfl rfl ht.1 (by rw [cw_91]; exact ht.2.2.1) (by rw [cw_91]; decide) rfl (Nat.le_of_ble_eq_true rfl) (k_times ht hn hc (by omega) (by omega)) ?_
        show CR _ _ 45 [some (.ref a), some (.int (nI e)), some (.int (nI f)), some (.int (nI k)), some (.int (nI ((ORs (oF (sgN n c e f) k) (d - 1)) ||| (1 * 2 ^ (itN (sgN n c e f) (d - 1) k))))), some (.int (nI (itN (sgN n c e f) (d - 1) k))), some (.int (nI (d - 1)))] [.int (nI (c (n * f + (itN (sgN n c e f) (d - 1) k)))), .int (nI e), .ref a] S G B J R _
        have b42 : c (n * f + (itN (sgN n c e f) (d - 1) k)) < n := (hc.2 _ (cu_lt (by omega) (by omega))).2
        refine cr_pv (b := a) (as := [.int (nI e), .int (nI (c (n * f + (itN (sgN n c e f) (d - 1) k))))]) (al0 := [some (.ref a), some (.int (nI e)), some (.int (nI (c (n * f + (itN (sgN n c e f) (d - 1) k))))), none]) (r := []) d_101_45 cw_101 cm_10_53 cz_102 rfl rfl ht.1 (by rw [cw_102]; exact ht.2.2.1) (by rw [cw_102]; decide) rfl (Nat.le_of_ble_eq_true rfl) ((fxV_t (hl.u (x := e) (v := c (n * f + (itN (sgN n c e f) (d - 1) k))) (by omega) (by omega)).1 ▸ k_under ht hn hc (x := e) (v := c (n * f + (itN (sgN n c e f) (d - 1) k))) (by omega) (by omega))) ?_
        show CR _ _ 48 [some (.ref a), some (.int (nI e)), some (.int (nI f)), some (.int (nI k)), some (.int (nI ((ORs (oF (sgN n c e f) k) (d - 1)) ||| (1 * 2 ^ (itN (sgN n c e f) (d - 1) k))))), some (.int (nI (itN (sgN n c e f) (d - 1) k))), some (.int (nI (d - 1)))] [.int (nI (undI n c e (c (n * f + (itN (sgN n c e f) (d - 1) k)))))] S G B J R _
        have b45 : undI n c e (c (n * f + (itN (sgN n c e f) (d - 1) k))) < n := (hl.u (by omega) (by omega)).1
        refine cr_nx (pc' := 50) (al' := [some (.ref a), some (.int (nI e)), some (.int (nI f)), some (.int (nI k)), some (.int (nI ((ORs (oF (sgN n c e f) k) (d - 1)) ||| (1 * 2 ^ (itN (sgN n c e f) (d - 1) k))))), some (.int (nI (undI n c e (c (n * f + (itN (sgN n c e f) (d - 1) k)))))), some (.int (nI (d - 1)))]) (st' := []) d_101_48 (fun _ => rfl) ?_
        refine cr_nx (pc' := 52) (al' := [some (.ref a), some (.int (nI e)), some (.int (nI f)), some (.int (nI k)), some (.int (nI ((ORs (oF (sgN n c e f) k) (d - 1)) ||| (1 * 2 ^ (itN (sgN n c e f) (d - 1) k))))), some (.int (nI (undI n c e (c (n * f + (itN (sgN n c e f) (d - 1) k)))))), some (.int (nI (d - 1)))]) (st' := [.int (nI (undI n c e (c (n * f + (itN (sgN n c e f) (d - 1) k)))))]) d_101_50 (fun _ => rfl) ?_
        refine cr_nx (pc' := 53) (al' := [some (.ref a), some (.int (nI e)), some (.int (nI f)), some (.int (nI k)), some (.int (nI ((ORs (oF (sgN n c e f) k) (d - 1)) ||| (1 * 2 ^ (itN (sgN n c e f) (d - 1) k))))), some (.int (nI (undI n c e (c (n * f + (itN (sgN n c e f) (d - 1) k)))))), some (.int (nI (d - 1)))]) (st' := [.int (nI k), .int (nI (undI n c e (c (n * f + (itN (sgN n c e f) (d - 1) k)))))]) d_101_52 (fun _ => rfl) ?_
        refine cn_cne (t := 59) d_101_53 (by decide) (by exact Nat.lt_of_lt_of_le hit2 (by omega)) (by omega) (fun c53 => ?_) (fun c53 => ?_)
        · exact absurd (show itN (sgN n c e f) (d - 1 + 1) k = k by rw [show d - 1 + 1 = d by omega]; exact d3) c53
        · refine cr_nx (pc' := 65) (al' := [some (.ref a), some (.int (nI e)), some (.int (nI f)), some (.int (nI k)), some (.int (nI ((ORs (oF (sgN n c e f) k) (d - 1)) ||| (1 * 2 ^ (itN (sgN n c e f) (d - 1) k))))), some (.int (nI (undI n c e (c (n * f + (itN (sgN n c e f) (d - 1) k)))))), some (.int (nI (d - 1)))]) (st' := []) d_101_56 (fun _ => rfl) ?_
          refine cr_nx (pc' := 67) (al' := [some (.ref a), some (.int (nI e)), some (.int (nI f)), some (.int (nI k)), some (.int (nI ((ORs (oF (sgN n c e f) k) (d - 1)) ||| (1 * 2 ^ (itN (sgN n c e f) (d - 1) k))))), some (.int (nI (undI n c e (c (n * f + (itN (sgN n c e f) (d - 1) k)))))), some (.int (nI (d - 1)))]) (st' := [.int (nI ((ORs (oF (sgN n c e f) k) (d - 1)) ||| (1 * 2 ^ (itN (sgN n c e f) (d - 1) k))))]) d_101_65 (fun _ => rfl) ?_
          exact cr_ri d_101_67 cx_101 rfl ⟨by rw [orb, ← hd]; show some (Value.int (nI (ORs (oF (sgN n c e f) k) (d - 1 + 1)))) = _; rw [show d - 1 + 1 = d by omega], rfl, rfl, rfl, rfl, rfl⟩
def swY (n : Nat) (c : Nat → Nat) (e f o y q : Nat) : Nat := if q % n < y ∧ o.testBit (q % n) = true ∧ q / n = e then c (n * f + q % n) else if q % n < y ∧ o.testBit (q % n) = true ∧ q / n = f then c (n * e + q % n) else c q
theorem swY_n {n : Nat} {c : Nat → Nat} {e f o q : Nat} (hq : q < n * n) : swY n c e f o n q = swN n c e f o q := by
  have := dm_ml hq
  unfold swY swN
  simp only [this, true_and]
theorem swY_o {n : Nat} {c : Nat → Nat} {e f o y q : Nat} (h : ¬ (q % n = y ∧ o.testBit y = true ∧ (q / n = e ∨ q / n = f))) : swY n c e f o (y + 1) q = swY n c e f o y q := by
  unfold swY
  by_cases hy : q % n = y
  · have h2 : ¬ (o.testBit (q % n) = true ∧ q / n = e) := fun z => h ⟨hy, by rw [← hy]; exact z.1, Or.inl z.2⟩
    have h3 : ¬ (o.testBit (q % n) = true ∧ q / n = f) := fun z => h ⟨hy, by rw [← hy]; exact z.1, Or.inr z.2⟩
    rw [if_neg (fun z => h2 z.2), if_neg (fun z => h3 z.2), if_neg (fun z => h2 z.2), if_neg (fun z => h3 z.2)]
  · have e1 : (q % n < y + 1) = (q % n < y) := propext ⟨fun _ => by omega, fun _ => by omega⟩
    simp only [e1]
theorem k_switchRows {S : CS} {G : Nat → Nat → Value} {B : Nat → Nat → Int32} {J : Nat → Nat → Int64} {R : Nat → Nat → Option Nat} {a n : Nat} (ht : TabAt S G a) (hn : G a 0 = .int (nI n)) {c : Nat → Nat} (hc : TabC B a n c) {e f : Nat} (he : e < n) (hf : f < n) (hef : e ≠ f) {k : Nat} (hk : k < 64) : CR 1 103 0 [some (.ref a), some (.int (nI e)), some (.int (nI f)), some (.int (nI k)), none] [] S G B J R (rwC (a + 1) S G B J R (n * n) (fun q => nI (swN n c e f k q))) := by
  have hn6 := hc.1
  refine cn_ic (v := 0) d_103_0 (by decide) ?_
  refine cr_nx (pc' := 3) (al' := [some (.ref a), some (.int (nI e)), some (.int (nI f)), some (.int (nI k)), some (.int (nI 0))]) (st' := []) d_103_1 (fun _ => rfl) ?_
  refine cr_B (show B = (upr B (a + 1) (B (a + 1))) by rw [upr_id]) ?_
  refine cr_upw (al := fun y w_ => [some (.ref a), some (.int (nI e)), some (.int (nI f)), some (.int (nI k)), some (.int (nI y))]) (S := fun y w_ => S) (G := fun y w_ => G) (B := fun y w_ => (upr B (a + 1) w_)) (J := fun y w_ => J) (R := fun y w_ => R) (P := fun y w_ => ∀ q, q < n * n → w_ q = nI (swY n c e f k y q)) (n := n) (fun y w_ hy py ihy => ?_) (fun w_ py => ?_) 0 (B (a + 1)) (by omega) (fun q hq => by rw [(hc.2 q hq).1]; unfold swY; rw [if_neg (fun z => absurd z.1 (Nat.not_lt_zero _)), if_neg (fun z => absurd z.1 (Nat.not_lt_zero _))])
  · show CR _ _ 3 [some (.ref a), some (.int (nI e)), some (.int (nI f)), some (.int (nI k)), some (.int (nI y))] [] S G (upr B (a + 1) w_) J R _
    have h1 : n * e + y < 36 := cu_36 hn6 (cu_lt he hy)
    have h2 : n * f + y < 36 := cu_36 hn6 (cu_lt hf hy)
    have h3 := bt_lt k y
    refine cr_nx (pc' := 5) (al' := [some (.ref a), some (.int (nI e)), some (.int (nI f)), some (.int (nI k)), some (.int (nI y))]) (st' := [.int (nI y)]) d_103_3 (fun _ => rfl) ?_
    refine cr_nx (pc' := 6) (al' := [some (.ref a), some (.int (nI e)), some (.int (nI f)), some (.int (nI k)), some (.int (nI y))]) (st' := [.ref a, .int (nI y)]) d_103_5 (fun _ => rfl) ?_
    refine cr_gf (v := .int (nI n)) d_103_6 cw_103 cf_10_15 ht.1 ht.2.2.1 (by decide) hn ?_
    refine cn_cge (t := 52) d_103_9 (by decide) (by first | omega | assumption | exact cu_36 (by omega) (cu_lt (by omega) (by omega))) (by first | omega | assumption | exact cu_36 (by omega) (cu_lt (by omega) (by omega))) (fun c9 => ?_) (fun c9 => ?_)
    · omega
    · refine cr_nx (pc' := 13) (al' := [some (.ref a), some (.int (nI e)), some (.int (nI f)), some (.int (nI k)), some (.int (nI y))]) (st' := [.int (nI k)]) d_103_12 (fun _ => rfl) ?_
      refine cr_nx (pc' := 15) (al' := [some (.ref a), some (.int (nI e)), some (.int (nI f)), some (.int (nI k)), some (.int (nI y))]) (st' := [.int (nI y), .int (nI k)]) d_103_13 (fun _ => rfl) ?_
      refine cn_shr d_103_15 (by first | omega | assumption | exact cu_36 (by omega) (cu_lt (by omega) (by omega))) (by first | omega | assumption | exact cu_36 (by omega) (cu_lt (by omega) (by omega))) ?_
      refine cn_ic (v := 1) d_103_16 (by decide) ?_
      refine cn_and d_103_17 ?_
      refine cn_ieq (t := 46) d_103_18 (by decide) (by omega) (fun c18 => ?_) (fun c18 => ?_)
      · refine cn_inc d_103_46 rfl rfl ?_
        show CR _ _ 49 [some (.ref a), some (.int (nI e)), some (.int (nI f)), some (.int (nI k)), some (.int (nI (y + 1)))] [] S G (upr B (a + 1) w_) J R _
        refine cr_nx (pc' := 3) (al' := [some (.ref a), some (.int (nI e)), some (.int (nI f)), some (.int (nI k)), some (.int (nI (y + 1)))]) (st' := []) d_103_49 (fun _ => rfl) ?_
        exact ihy w_ (fun q hq => by rw [py q hq, swY_o (fun z => by have := z.2.1; rw [bt_e0.mp c18] at this; cases this)])
      · refine cr_nx (pc' := 22) (al' := [some (.ref a), some (.int (nI e)), some (.int (nI f)), some (.int (nI k)), some (.int (nI y))]) (st' := [.ref a]) d_103_21 (fun _ => rfl) ?_
        refine cr_gf (v := .ref (a + 1)) d_103_22 cw_103 cf_10_9 ht.1 ht.2.2.1 (by decide) ht.2.2.2.2 ?_
        refine cr_nx (pc' := 26) (al' := [some (.ref a), some (.int (nI e)), some (.int (nI f)), some (.int (nI k)), some (.int (nI y))]) (st' := [.ref a, .ref (a + 1)]) d_103_25 (fun _ => rfl) ?_
        refine cr_gf (v := .int (nI n)) d_103_26 cw_103 cf_10_15 ht.1 ht.2.2.1 (by decide) hn ?_
        refine cr_nx (pc' := 30) (al' := [some (.ref a), some (.int (nI e)), some (.int (nI f)), some (.int (nI k)), some (.int (nI y))]) (st' := [.int (nI e), .int (nI n), .ref (a + 1)]) d_103_29 (fun _ => rfl) ?_
        refine cn_mul d_103_30  ?_
        refine cr_nx (pc' := 33) (al' := [some (.ref a), some (.int (nI e)), some (.int (nI f)), some (.int (nI k)), some (.int (nI y))]) (st' := [.int (nI y), .int (nI (n * e)), .ref (a + 1)]) d_103_31 (fun _ => rfl) ?_
        refine cn_add d_103_33  ?_
        refine cr_nx (pc' := 35) (al' := [some (.ref a), some (.int (nI e)), some (.int (nI f)), some (.int (nI k)), some (.int (nI y))]) (st' := [.ref a, .int (nI ((n * e) + y)), .ref (a + 1)]) d_103_34 (fun _ => rfl) ?_
        refine cr_gf (v := .int (nI n)) d_103_35 cw_103 cf_10_15 ht.1 ht.2.2.1 (by decide) hn ?_
        refine cr_nx (pc' := 39) (al' := [some (.ref a), some (.int (nI e)), some (.int (nI f)), some (.int (nI k)), some (.int (nI y))]) (st' := [.int (nI f), .int (nI n), .int (nI ((n * e) + y)), .ref (a + 1)]) d_103_38 (fun _ => rfl) ?_
        refine cn_mul d_103_39  ?_
        refine cr_nx (pc' := 42) (al' := [some (.ref a), some (.int (nI e)), some (.int (nI f)), some (.int (nI k)), some (.int (nI y))]) (st' := [.int (nI y), .int (nI (n * f)), .int (nI ((n * e) + y)), .ref (a + 1)]) d_103_40 (fun _ => rfl) ?_
        refine cn_add d_103_42  ?_
        refine cr_ps (as := [.ref (a + 1), .int (nI ((n * e) + y)), .int (nI ((n * f) + y))]) (al0 := [some (.ref (a + 1)), some (.int (nI ((n * e) + y))), some (.int (nI ((n * f) + y))), none]) (r := []) d_103_43 cw_103 cm_10_56 (by decide) cz_131 rfl rfl rfl (Nat.le_of_ble_eq_true rfl) (k_exchange ht.2.1 ht.2.2.2.1 (by omega) (by omega) (by omega)) ?_
        rw [upr_s, upr_u]
        show CR _ _ 46 [some (.ref a), some (.int (nI e)), some (.int (nI f)), some (.int (nI k)), some (.int (nI y))] [] S G (upr B (a + 1) (upd (upd w_ ((n * e) + y) (w_ ((n * f) + y))) ((n * f) + y) (w_ ((n * e) + y)))) J R _
        refine cn_inc d_103_46 rfl rfl ?_
        show CR _ _ 49 [some (.ref a), some (.int (nI e)), some (.int (nI f)), some (.int (nI k)), some (.int (nI (y + 1)))] [] S G (upr B (a + 1) (upd (upd w_ ((n * e) + y) (w_ ((n * f) + y))) ((n * f) + y) (w_ ((n * e) + y)))) J R _
        refine cr_nx (pc' := 3) (al' := [some (.ref a), some (.int (nI e)), some (.int (nI f)), some (.int (nI k)), some (.int (nI (y + 1)))]) (st' := []) d_103_49 (fun _ => rfl) ?_
        exact ihy (upd (upd w_ ((n * e) + y) (w_ ((n * f) + y))) ((n * f) + y) (w_ ((n * e) + y))) (fun q hq => by
            have hb := bt_p0.mp c18
            have eE := py (n * e + y) (cu_lt he hy)
            have eF := py (n * f + y) (cu_lt hf hy)
            have vE : swY n c e f k y (n * e + y) = c (n * e + y) := by unfold swY; rw [dm_m hy, if_neg (fun z => absurd z.1 (Nat.lt_irrefl y)), if_neg (fun z => absurd z.1 (Nat.lt_irrefl y))]
            have vF : swY n c e f k y (n * f + y) = c (n * f + y) := by unfold swY; rw [dm_m hy, if_neg (fun z => absurd z.1 (Nat.lt_irrefl y)), if_neg (fun z => absurd z.1 (Nat.lt_irrefl y))]
            rw [vE] at eE
            rw [vF] at eF
            unfold upd
            by_cases q1 : q = n * f + y
            · rw [if_pos q1, eE, q1]
              congr 1
              unfold swY
              rw [dm_m hy, dm_d hy, if_neg (fun z => hef z.2.2.symm), if_pos ⟨Nat.lt_succ_self y, hb, rfl⟩]
            · rw [if_neg q1]
              by_cases q2 : q = n * e + y
              · rw [if_pos q2, eF, q2]
                congr 1
                unfold swY
                rw [dm_m hy, dm_d hy, if_pos ⟨Nat.lt_succ_self y, hb, rfl⟩]
              · rw [if_neg q2, py q hq, swY_o (fun z => by
                  have hqq : n * (q / n) + q % n = q := dm_q
                  rw [z.1] at hqq
                  rcases z.2.2 with r | r
                  · exact q2 (by rw [← hqq, r])
                  · exact q1 (by rw [← hqq, r]))])
  · show CR _ _ 3 [some (.ref a), some (.int (nI e)), some (.int (nI f)), some (.int (nI k)), some (.int (nI n))] [] S G (upr B (a + 1) w_) J R _
    refine cr_nx (pc' := 5) (al' := [some (.ref a), some (.int (nI e)), some (.int (nI f)), some (.int (nI k)), some (.int (nI n))]) (st' := [.int (nI n)]) d_103_3 (fun _ => rfl) ?_
    refine cr_nx (pc' := 6) (al' := [some (.ref a), some (.int (nI e)), some (.int (nI f)), some (.int (nI k)), some (.int (nI n))]) (st' := [.ref a, .int (nI n)]) d_103_5 (fun _ => rfl) ?_
    refine cr_gf (v := .int (nI n)) d_103_6 cw_103 cf_10_15 ht.1 ht.2.2.1 (by decide) hn ?_
    refine cn_cge (t := 52) d_103_9 (by decide) (by first | omega | assumption | exact cu_36 (by omega) (cu_lt (by omega) (by omega))) (by first | omega | assumption | exact cu_36 (by omega) (cu_lt (by omega) (by omega))) (fun c9 => ?_) (fun c9 => ?_)
    · exact cr_rv d_103_52 cx_103 ⟨rfl, rfl, rfl, rfl, rfl, w_, rfl, fun q hq => by rw [py q hq, swY_n hq]⟩
    · omega
/-- cycles: the columns gone through, how many, the longest -/
def cyS (n : Nat) (s : Nat → Nat) : Nat → Nat
  | 0 => 0
  | y + 1 => if (cyS n s y).testBit y = true then cyS n s y else cyS n s y ||| orb n s y
def cyC (n : Nat) (s : Nat → Nat) : Nat → Nat
  | 0 => 0
  | y + 1 => if (cyS n s y).testBit y = true then cyC n s y else cyC n s y + 1
def cyL (n : Nat) (s : Nat → Nat) : Nat → Nat
  | 0 => 0
  | y + 1 => max (cyL n s y) (pdN n s y)
theorem cyS_f {n : Nat} {s : Nat → Nat} (h : Per n s) : ∀ y, y ≤ n → (∀ q, (cyS n s y).testBit q = true ↔ ∃ z, z < y ∧ (orb n s z).testBit q = true)
  | 0, _, q => by
    rw [show cyS n s 0 = 0 from rfl, Nat.zero_testBit]
    exact ⟨fun e => absurd e Bool.false_ne_true, fun ⟨z, hz, _⟩ => absurd hz (Nat.not_lt_zero z)⟩
  | y + 1, hy, q => by
    have ih := cyS_f h y (by omega)
    show (if (cyS n s y).testBit y = true then cyS n s y else cyS n s y ||| orb n s y).testBit q = true ↔ _
    by_cases e : (cyS n s y).testBit y = true
    · rw [if_pos e, ih]
      constructor
      · rintro ⟨z, hz, e2⟩
        exact ⟨z, by omega, e2⟩
      · rintro ⟨z, hz, e2⟩
        rcases Nat.lt_succ_iff_lt_or_eq.mp hz with r | r
        · exact ⟨z, r, e2⟩
        · subst r
          obtain ⟨w, hw, e3⟩ := (ih z).mp e
          refine ⟨w, hw, ?_⟩
          obtain ⟨i, hi, e4⟩ := oF_bit.mp e2
          have : ∀ i, (orb n s w).testBit (itN s i z) = true := by
            intro i
            induction i with
            | zero => exact e3
            | succ i ih => exact orb_s h (by omega) ih
          rw [← e4]
          exact this i
    · rw [if_neg e, Nat.testBit_or, Bool.or_eq_true, ih]
      constructor
      · rintro (⟨z, hz, e2⟩ | e2)
        · exact ⟨z, by omega, e2⟩
        · exact ⟨y, by omega, e2⟩
      · rintro ⟨z, hz, e2⟩
        rcases Nat.lt_succ_iff_lt_or_eq.mp hz with r | r
        · exact Or.inl ⟨z, r, e2⟩
        · subst r
          exact Or.inr e2
theorem cyS_lt {n : Nat} {s : Nat → Nat} (h : Per n s) (hn : n ≤ 6) : ∀ y, y ≤ n → cyS n s y < 64
  | 0, _ => by show 0 < 64; decide
  | y + 1, hy => by
    have := cyS_lt h hn y (by omega)
    show (if (cyS n s y).testBit y = true then cyS n s y else cyS n s y ||| orb n s y) < 64
    split
    · exact this
    · exact Nat.or_lt_two_pow (n := 6) this (oF_lt h hn (by omega))
theorem cyC_le {n : Nat} {s : Nat → Nat} : ∀ y, cyC n s y ≤ y
  | 0 => Nat.le_refl _
  | y + 1 => by
    have := cyC_le (n := n) (s := s) y
    show (if (cyS n s y).testBit y = true then cyC n s y else cyC n s y + 1) ≤ y + 1
    split <;> omega
theorem cyL_le {n : Nat} {s : Nat → Nat} (h : Per n s) : ∀ y, y ≤ n → cyL n s y ≤ n
  | 0, _ => Nat.zero_le _
  | y + 1, hy => by
    have := cyL_le h y (by omega)
    have := (pd_f h (show y < n by omega)).2.1
    show max _ _ ≤ n
    omega
theorem k_cycleCount {S : CS} {G : Nat → Nat → Value} {B : Nat → Nat → Int32} {J : Nat → Nat → Int64} {R : Nat → Nat → Option Nat} {a n : Nat} (ht : TabAt S G a) (hn : G a 0 = .int (nI n)) {c : Nat → Nat} (hc : TabC B a n c) (hl : Lat n c) {e f : Nat} (he : e < n) (hf : f < n) : CR 3 110 0 [some (.ref a), some (.int (nI e)), some (.int (nI f)), none, none, none] [] S G B J R (cP (some (.int (nI (cyC n (sgN n c e f) n)))) S G B J R) := by
  have hn6 := hc.1
  have hP := sg_per hl he hf
  refine cn_ic (v := 0) d_110_0 (by decide) ?_
  refine cr_nx (pc' := 2) (al' := [some (.ref a), some (.int (nI e)), some (.int (nI f)), some (.int (nI 0)), none, none]) (st' := []) d_110_1 (fun _ => rfl) ?_
  refine cn_ic (v := 0) d_110_2 (by decide) ?_
  refine cr_nx (pc' := 5) (al' := [some (.ref a), some (.int (nI e)), some (.int (nI f)), some (.int (nI 0)), some (.int (nI 0)), none]) (st' := []) d_110_3 (fun _ => rfl) ?_
  refine cn_ic (v := 0) d_110_5 (by decide) ?_
  refine cr_nx (pc' := 8) (al' := [some (.ref a), some (.int (nI e)), some (.int (nI f)), some (.int (nI 0)), some (.int (nI 0)), some (.int (nI 0))]) (st' := []) d_110_6 (fun _ => rfl) ?_
  refine cr_al (congrArg (fun z__ : Nat => ([some (.ref a), some (.int (nI e)), some (.int (nI f)), some (.int (nI z__)), some (.int (nI 0)), some (.int (nI 0))] : AL)) (show 0 = cyS n (sgN n c e f) 0 by rfl)) ?_
  refine cr_al (congrArg (fun z__ : Nat => ([some (.ref a), some (.int (nI e)), some (.int (nI f)), some (.int (nI (cyS n (sgN n c e f) 0))), some (.int (nI z__)), some (.int (nI 0))] : AL)) (show 0 = cyC n (sgN n c e f) 0 by rfl)) ?_
  refine cr_up (al := fun y => [some (.ref a), some (.int (nI e)), some (.int (nI f)), some (.int (nI (cyS n (sgN n c e f) y))), some (.int (nI (cyC n (sgN n c e f) y))), some (.int (nI y))]) (S := fun y => S) (G := fun y => G) (B := fun y => B) (J := fun y => J) (R := fun y => R) (P := fun y => True) (n := n) (fun y hy py ihy => ?_) (fun py => ?_) 0  (by omega) (trivial)
  · show CR _ _ 8 [some (.ref a), some (.int (nI e)), some (.int (nI f)), some (.int (nI (cyS n (sgN n c e f) y))), some (.int (nI (cyC n (sgN n c e f) y))), some (.int (nI y))] [] S G B J R _
    have h1 := cyS_lt hP hn6 y (by omega)
    have h2 := bt_lt (cyS n (sgN n c e f) y) y
    refine cr_nx (pc' := 10) (al' := [some (.ref a), some (.int (nI e)), some (.int (nI f)), some (.int (nI (cyS n (sgN n c e f) y))), some (.int (nI (cyC n (sgN n c e f) y))), some (.int (nI y))]) (st' := [.int (nI y)]) d_110_8 (fun _ => rfl) ?_
    refine cr_nx (pc' := 11) (al' := [some (.ref a), some (.int (nI e)), some (.int (nI f)), some (.int (nI (cyS n (sgN n c e f) y))), some (.int (nI (cyC n (sgN n c e f) y))), some (.int (nI y))]) (st' := [.ref a, .int (nI y)]) d_110_10 (fun _ => rfl) ?_
    refine cr_gf (v := .int (nI n)) d_110_11 cw_110 cf_10_15 ht.1 ht.2.2.1 (by decide) hn ?_
    refine cn_cge (t := 46) d_110_14 (by decide) (by first | omega | assumption | exact cu_36 (by omega) (cu_lt (by omega) (by omega))) (by first | omega | assumption | exact cu_36 (by omega) (cu_lt (by omega) (by omega))) (fun c14 => ?_) (fun c14 => ?_)
    · omega
    · refine cr_nx (pc' := 18) (al' := [some (.ref a), some (.int (nI e)), some (.int (nI f)), some (.int (nI (cyS n (sgN n c e f) y))), some (.int (nI (cyC n (sgN n c e f) y))), some (.int (nI y))]) (st' := [.int (nI (cyS n (sgN n c e f) y))]) d_110_17 (fun _ => rfl) ?_
      refine cr_nx (pc' := 20) (al' := [some (.ref a), some (.int (nI e)), some (.int (nI f)), some (.int (nI (cyS n (sgN n c e f) y))), some (.int (nI (cyC n (sgN n c e f) y))), some (.int (nI y))]) (st' := [.int (nI y), .int (nI (cyS n (sgN n c e f) y))]) d_110_18 (fun _ => rfl) ?_
      refine cn_shr d_110_20 (by first | omega | assumption | exact cu_36 (by omega) (cu_lt (by omega) (by omega))) (by first | omega | assumption | exact cu_36 (by omega) (cu_lt (by omega) (by omega))) ?_
      refine cn_ic (v := 1) d_110_21 (by decide) ?_
      refine cn_and d_110_22 ?_
      refine cn_ine (t := 40) d_110_23 (by decide) (by omega) (fun c23 => ?_) (fun c23 => ?_)
      · refine cn_inc d_110_40 rfl rfl ?_
        show CR _ _ 43 [some (.ref a), some (.int (nI e)), some (.int (nI f)), some (.int (nI (cyS n (sgN n c e f) y))), some (.int (nI (cyC n (sgN n c e f) y))), some (.int (nI (y + 1)))] [] S G B J R _
        refine cr_nx (pc' := 8) (al' := [some (.ref a), some (.int (nI e)), some (.int (nI f)), some (.int (nI (cyS n (sgN n c e f) y))), some (.int (nI (cyC n (sgN n c e f) y))), some (.int (nI (y + 1)))]) (st' := []) d_110_43 (fun _ => rfl) ?_
        refine cr_al (congrArg (fun z__ : Nat => ([some (.ref a), some (.int (nI e)), some (.int (nI f)), some (.int (nI z__)), some (.int (nI (cyC n (sgN n c e f) y))), some (.int (nI (y + 1)))] : AL)) (show cyS n (sgN n c e f) y = cyS n (sgN n c e f) (y + 1) by exact (if_pos (bt_p0.mp c23)).symm)) ?_
        refine cr_al (congrArg (fun z__ : Nat => ([some (.ref a), some (.int (nI e)), some (.int (nI f)), some (.int (nI (cyS n (sgN n c e f) (y + 1)))), some (.int (nI z__)), some (.int (nI (y + 1)))] : AL)) (show cyC n (sgN n c e f) y = cyC n (sgN n c e f) (y + 1) by exact (if_pos (bt_p0.mp c23)).symm)) ?_
        exact ihy  (trivial)
      · refine cr_nx (pc' := 27) (al' := [some (.ref a), some (.int (nI e)), some (.int (nI f)), some (.int (nI (cyS n (sgN n c e f) y))), some (.int (nI (cyC n (sgN n c e f) y))), some (.int (nI y))]) (st' := [.int (nI (cyS n (sgN n c e f) y))]) d_110_26 (fun _ => rfl) ?_
        refine cr_nx (pc' := 28) (al' := [some (.ref a), some (.int (nI e)), some (.int (nI f)), some (.int (nI (cyS n (sgN n c e f) y))), some (.int (nI (cyC n (sgN n c e f) y))), some (.int (nI y))]) (st' := [.ref a, .int (nI (cyS n (sgN n c e f) y))]) d_110_27 (fun _ => rfl) ?_
        refine cr_nx (pc' := 29) (al' := [some (.ref a), some (.int (nI e)), some (.int (nI f)), some (.int (nI (cyS n (sgN n c e f) y))), some (.int (nI (cyC n (sgN n c e f) y))), some (.int (nI y))]) (st' := [.int (nI e), .ref a, .int (nI (cyS n (sgN n c e f) y))]) d_110_28 (fun _ => rfl) ?_
        refine cr_nx (pc' := 30) (al' := [some (.ref a), some (.int (nI e)), some (.int (nI f)), some (.int (nI (cyS n (sgN n c e f) y))), some (.int (nI (cyC n (sgN n c e f) y))), some (.int (nI y))]) (st' := [.int (nI f), .int (nI e), .ref a, .int (nI (cyS n (sgN n c e f) y))]) d_110_29 (fun _ => rfl) ?_
        refine cr_nx (pc' := 32) (al' := [some (.ref a), some (.int (nI e)), some (.int (nI f)), some (.int (nI (cyS n (sgN n c e f) y))), some (.int (nI (cyC n (sgN n c e f) y))), some (.int (nI y))]) (st' := [.int (nI y), .int (nI f), .int (nI e), .ref a, .int (nI (cyS n (sgN n c e f) y))]) d_110_30 (fun _ => rfl) ?_
        refine cr_pv (b := a) (as := [.int (nI e), .int (nI f), .int (nI y)]) (al0 := [some (.ref a), some (.int (nI e)), some (.int (nI f)), some (.int (nI y)), none, none, none]) (r := [.int (nI (cyS n (sgN n c e f) y))]) d_110_32 cw_110 cm_10_60 cz_101 rfl rfl ht.1 (by rw [cw_101]; exact ht.2.2.1) (by rw [cw_101]; decide) rfl (Nat.le_of_ble_eq_true rfl) (k_cycleFrom ht hn hc hl (by omega) (by omega) (by omega)) ?_
        show CR _ _ 35 [some (.ref a), some (.int (nI e)), some (.int (nI f)), some (.int (nI (cyS n (sgN n c e f) y))), some (.int (nI (cyC n (sgN n c e f) y))), some (.int (nI y))] [.int (nI (orb n (sgN n c e f) y)), .int (nI (cyS n (sgN n c e f) y))] S G B J R _
        have b32 : orb n (sgN n c e f) y < 64 := oF_lt (sg_per hl (by omega) (by omega)) (by omega) (by omega)
        refine cn_or d_110_35 ?_
        refine cr_nx (pc' := 37) (al' := [some (.ref a), some (.int (nI e)), some (.int (nI f)), some (.int (nI ((cyS n (sgN n c e f) y) ||| (orb n (sgN n c e f) y)))), some (.int (nI (cyC n (sgN n c e f) y))), some (.int (nI y))]) (st' := []) d_110_36 (fun _ => rfl) ?_
        refine cn_inc d_110_37 rfl rfl ?_
        show CR _ _ 40 [some (.ref a), some (.int (nI e)), some (.int (nI f)), some (.int (nI ((cyS n (sgN n c e f) y) ||| (orb n (sgN n c e f) y)))), some (.int (nI ((cyC n (sgN n c e f) y) + 1))), some (.int (nI y))] [] S G B J R _
        refine cn_inc d_110_40 rfl rfl ?_
        show CR _ _ 43 [some (.ref a), some (.int (nI e)), some (.int (nI f)), some (.int (nI ((cyS n (sgN n c e f) y) ||| (orb n (sgN n c e f) y)))), some (.int (nI ((cyC n (sgN n c e f) y) + 1))), some (.int (nI (y + 1)))] [] S G B J R _
        refine cr_nx (pc' := 8) (al' := [some (.ref a), some (.int (nI e)), some (.int (nI f)), some (.int (nI ((cyS n (sgN n c e f) y) ||| (orb n (sgN n c e f) y)))), some (.int (nI ((cyC n (sgN n c e f) y) + 1))), some (.int (nI (y + 1)))]) (st' := []) d_110_43 (fun _ => rfl) ?_
        refine cr_al (congrArg (fun z__ : Nat => ([some (.ref a), some (.int (nI e)), some (.int (nI f)), some (.int (nI z__)), some (.int (nI ((cyC n (sgN n c e f) y) + 1))), some (.int (nI (y + 1)))] : AL)) (show (cyS n (sgN n c e f) y) ||| (orb n (sgN n c e f) y) = cyS n (sgN n c e f) (y + 1) by exact (if_neg (by rw [bt_e0.mp c23]; exact Bool.false_ne_true)).symm)) ?_
        refine cr_al (congrArg (fun z__ : Nat => ([some (.ref a), some (.int (nI e)), some (.int (nI f)), some (.int (nI (cyS n (sgN n c e f) (y + 1)))), some (.int (nI z__)), some (.int (nI (y + 1)))] : AL)) (show (cyC n (sgN n c e f) y) + 1 = cyC n (sgN n c e f) (y + 1) by exact (if_neg (by rw [bt_e0.mp c23]; exact Bool.false_ne_true)).symm)) ?_
        exact ihy  (trivial)
  · show CR _ _ 8 [some (.ref a), some (.int (nI e)), some (.int (nI f)), some (.int (nI (cyS n (sgN n c e f) n))), some (.int (nI (cyC n (sgN n c e f) n))), some (.int (nI n))] [] S G B J R _
    refine cr_nx (pc' := 10) (al' := [some (.ref a), some (.int (nI e)), some (.int (nI f)), some (.int (nI (cyS n (sgN n c e f) n))), some (.int (nI (cyC n (sgN n c e f) n))), some (.int (nI n))]) (st' := [.int (nI n)]) d_110_8 (fun _ => rfl) ?_
    refine cr_nx (pc' := 11) (al' := [some (.ref a), some (.int (nI e)), some (.int (nI f)), some (.int (nI (cyS n (sgN n c e f) n))), some (.int (nI (cyC n (sgN n c e f) n))), some (.int (nI n))]) (st' := [.ref a, .int (nI n)]) d_110_10 (fun _ => rfl) ?_
    refine cr_gf (v := .int (nI n)) d_110_11 cw_110 cf_10_15 ht.1 ht.2.2.1 (by decide) hn ?_
    refine cn_cge (t := 46) d_110_14 (by decide) (by first | omega | assumption | exact cu_36 (by omega) (cu_lt (by omega) (by omega))) (by first | omega | assumption | exact cu_36 (by omega) (cu_lt (by omega) (by omega))) (fun c14 => ?_) (fun c14 => ?_)
    · refine cr_nx (pc' := 48) (al' := [some (.ref a), some (.int (nI e)), some (.int (nI f)), some (.int (nI (cyS n (sgN n c e f) n))), some (.int (nI (cyC n (sgN n c e f) n))), some (.int (nI n))]) (st' := [.int (nI (cyC n (sgN n c e f) n))]) d_110_46 (fun _ => rfl) ?_
      exact cr_ri d_110_48 cx_110 rfl ⟨rfl, rfl, rfl, rfl, rfl, rfl⟩
    · omega
theorem k_longestCycle {S : CS} {G : Nat → Nat → Value} {B : Nat → Nat → Int32} {J : Nat → Nat → Int64} {R : Nat → Nat → Option Nat} {a n : Nat} (ht : TabAt S G a) (hn : G a 0 = .int (nI n)) {c : Nat → Nat} (hc : TabC B a n c) (hl : Lat n c) {e f : Nat} (he : e < n) (hf : f < n) : CR 3 111 0 [some (.ref a), some (.int (nI e)), some (.int (nI f)), none, none] [] S G B J R (cP (some (.int (nI (cyL n (sgN n c e f) n)))) S G B J R) := by
  have hn6 := hc.1
  have hP := sg_per hl he hf
  refine cn_ic (v := 0) d_111_0 (by decide) ?_
  refine cr_nx (pc' := 2) (al' := [some (.ref a), some (.int (nI e)), some (.int (nI f)), some (.int (nI 0)), none]) (st' := []) d_111_1 (fun _ => rfl) ?_
  refine cn_ic (v := 0) d_111_2 (by decide) ?_
  refine cr_nx (pc' := 5) (al' := [some (.ref a), some (.int (nI e)), some (.int (nI f)), some (.int (nI 0)), some (.int (nI 0))]) (st' := []) d_111_3 (fun _ => rfl) ?_
  refine cr_al (congrArg (fun z__ : Nat => ([some (.ref a), some (.int (nI e)), some (.int (nI f)), some (.int (nI z__)), some (.int (nI 0))] : AL)) (show 0 = cyL n (sgN n c e f) 0 by rfl)) ?_
  refine cr_up (al := fun y => [some (.ref a), some (.int (nI e)), some (.int (nI f)), some (.int (nI (cyL n (sgN n c e f) y))), some (.int (nI y))]) (S := fun y => S) (G := fun y => G) (B := fun y => B) (J := fun y => J) (R := fun y => R) (P := fun y => True) (n := n) (fun y hy py ihy => ?_) (fun py => ?_) 0  (by omega) (trivial)
  · show CR _ _ 5 [some (.ref a), some (.int (nI e)), some (.int (nI f)), some (.int (nI (cyL n (sgN n c e f) y))), some (.int (nI y))] [] S G B J R _
    have h1 := cyL_le hP y (by omega)
    refine cr_nx (pc' := 7) (al' := [some (.ref a), some (.int (nI e)), some (.int (nI f)), some (.int (nI (cyL n (sgN n c e f) y))), some (.int (nI y))]) (st' := [.int (nI y)]) d_111_5 (fun _ => rfl) ?_
    refine cr_nx (pc' := 8) (al' := [some (.ref a), some (.int (nI e)), some (.int (nI f)), some (.int (nI (cyL n (sgN n c e f) y))), some (.int (nI y))]) (st' := [.ref a, .int (nI y)]) d_111_7 (fun _ => rfl) ?_
    refine cr_gf (v := .int (nI n)) d_111_8 cw_111 cf_10_15 ht.1 ht.2.2.1 (by decide) hn ?_
    refine cn_cge (t := 36) d_111_11 (by decide) (by first | omega | assumption | exact cu_36 (by omega) (cu_lt (by omega) (by omega))) (by first | omega | assumption | exact cu_36 (by omega) (cu_lt (by omega) (by omega))) (fun c11 => ?_) (fun c11 => ?_)
    · omega
    · refine cr_nx (pc' := 15) (al' := [some (.ref a), some (.int (nI e)), some (.int (nI f)), some (.int (nI (cyL n (sgN n c e f) y))), some (.int (nI y))]) (st' := [.int (nI (cyL n (sgN n c e f) y))]) d_111_14 (fun _ => rfl) ?_
      refine cr_nx (pc' := 16) (al' := [some (.ref a), some (.int (nI e)), some (.int (nI f)), some (.int (nI (cyL n (sgN n c e f) y))), some (.int (nI y))]) (st' := [.ref a, .int (nI (cyL n (sgN n c e f) y))]) d_111_15 (fun _ => rfl) ?_
      refine cr_nx (pc' := 17) (al' := [some (.ref a), some (.int (nI e)), some (.int (nI f)), some (.int (nI (cyL n (sgN n c e f) y))), some (.int (nI y))]) (st' := [.int (nI e), .ref a, .int (nI (cyL n (sgN n c e f) y))]) d_111_16 (fun _ => rfl) ?_
      refine cr_nx (pc' := 18) (al' := [some (.ref a), some (.int (nI e)), some (.int (nI f)), some (.int (nI (cyL n (sgN n c e f) y))), some (.int (nI y))]) (st' := [.int (nI f), .int (nI e), .ref a, .int (nI (cyL n (sgN n c e f) y))]) d_111_17 (fun _ => rfl) ?_
      refine cr_nx (pc' := 20) (al' := [some (.ref a), some (.int (nI e)), some (.int (nI f)), some (.int (nI (cyL n (sgN n c e f) y))), some (.int (nI y))]) (st' := [.int (nI y), .int (nI f), .int (nI e), .ref a, .int (nI (cyL n (sgN n c e f) y))]) d_111_18 (fun _ => rfl) ?_
      refine cr_pv (b := a) (as := [.int (nI e), .int (nI f), .int (nI y)]) (al0 := [some (.ref a), some (.int (nI e)), some (.int (nI f)), some (.int (nI y)), none, none, none]) (r := [.int (nI (cyL n (sgN n c e f) y))]) d_111_20 cw_111 cm_10_60 cz_101 rfl rfl ht.1 (by rw [cw_101]; exact ht.2.2.1) (by rw [cw_101]; decide) rfl (Nat.le_of_ble_eq_true rfl) (k_cycleFrom ht hn hc hl (by omega) (by omega) (by omega)) ?_
      show CR _ _ 23 [some (.ref a), some (.int (nI e)), some (.int (nI f)), some (.int (nI (cyL n (sgN n c e f) y))), some (.int (nI y))] [.int (nI (orb n (sgN n c e f) y)), .int (nI (cyL n (sgN n c e f) y))] S G B J R _
      have b20 : orb n (sgN n c e f) y < 64 := oF_lt (sg_per hl (by omega) (by omega)) (by omega) (by omega)
      refine cr_ps (as := [.int (nI (orb n (sgN n c e f) y))]) (al0 := [some (.int (nI (orb n (sgN n c e f) y)))]) (r := [.int (nI (cyL n (sgN n c e f) y))]) d_111_23 cw_111 cm_10_64 (by decide) cz_290 rfl rfl rfl (Nat.le_of_ble_eq_true rfl) (k_bitCount (by omega)) ?_
      show CR _ _ 26 [some (.ref a), some (.int (nI e)), some (.int (nI f)), some (.int (nI (cyL n (sgN n c e f) y))), some (.int (nI y))] [.int (nI (onN (orb n (sgN n c e f) y))), .int (nI (cyL n (sgN n c e f) y))] S G B J R _
      have b23 := onN_16 (orb n (sgN n c e f) y)
      refine cn_mx d_111_26 cw_111 cm_10_37 (by omega) (by omega) rfl ?_
      refine cr_nx (pc' := 30) (al' := [some (.ref a), some (.int (nI e)), some (.int (nI f)), some (.int (nI (max (cyL n (sgN n c e f) y) (onN (orb n (sgN n c e f) y))))), some (.int (nI y))]) (st' := []) d_111_29 (fun _ => rfl) ?_
      refine cn_inc d_111_30 rfl rfl ?_
      show CR _ _ 33 [some (.ref a), some (.int (nI e)), some (.int (nI f)), some (.int (nI (max (cyL n (sgN n c e f) y) (onN (orb n (sgN n c e f) y))))), some (.int (nI (y + 1)))] [] S G B J R _
      refine cr_nx (pc' := 5) (al' := [some (.ref a), some (.int (nI e)), some (.int (nI f)), some (.int (nI (max (cyL n (sgN n c e f) y) (onN (orb n (sgN n c e f) y))))), some (.int (nI (y + 1)))]) (st' := []) d_111_33 (fun _ => rfl) ?_
      refine cr_al (congrArg (fun z__ : Nat => ([some (.ref a), some (.int (nI e)), some (.int (nI f)), some (.int (nI z__)), some (.int (nI (y + 1)))] : AL)) (show max (cyL n (sgN n c e f) y) (onN (orb n (sgN n c e f) y)) = cyL n (sgN n c e f) (y + 1) by rw [orb_on hP hn6 hy]; rfl)) ?_
      exact ihy  (trivial)
  · show CR _ _ 5 [some (.ref a), some (.int (nI e)), some (.int (nI f)), some (.int (nI (cyL n (sgN n c e f) n))), some (.int (nI n))] [] S G B J R _
    refine cr_nx (pc' := 7) (al' := [some (.ref a), some (.int (nI e)), some (.int (nI f)), some (.int (nI (cyL n (sgN n c e f) n))), some (.int (nI n))]) (st' := [.int (nI n)]) d_111_5 (fun _ => rfl) ?_
    refine cr_nx (pc' := 8) (al' := [some (.ref a), some (.int (nI e)), some (.int (nI f)), some (.int (nI (cyL n (sgN n c e f) n))), some (.int (nI n))]) (st' := [.ref a, .int (nI n)]) d_111_7 (fun _ => rfl) ?_
    refine cr_gf (v := .int (nI n)) d_111_8 cw_111 cf_10_15 ht.1 ht.2.2.1 (by decide) hn ?_
    refine cn_cge (t := 36) d_111_11 (by decide) (by first | omega | assumption | exact cu_36 (by omega) (cu_lt (by omega) (by omega))) (by first | omega | assumption | exact cu_36 (by omega) (cu_lt (by omega) (by omega))) (fun c11 => ?_) (fun c11 => ?_)
    · refine cr_nx (pc' := 37) (al' := [some (.ref a), some (.int (nI e)), some (.int (nI f)), some (.int (nI (cyL n (sgN n c e f) n))), some (.int (nI n))]) (st' := [.int (nI (cyL n (sgN n c e f) n))]) d_111_36 (fun _ => rfl) ?_
      exact cr_ri d_111_37 cx_111 rfl ⟨rfl, rfl, rfl, rfl, rfl, rfl⟩
    · omega
