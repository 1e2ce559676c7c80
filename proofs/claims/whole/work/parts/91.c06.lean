/-! Tables filled in all ways: theory; printed by wip/whole/gen_c06.py. -/
def upN (c : Nat → Nat) (k v : Nat) : Nat → Nat := fun q => if q = k then v else c q
theorem upN_s {c : Nat → Nat} {k v : Nat} : upN c k v k = v := if_pos rfl
theorem upN_n {c : Nat → Nat} {k v q : Nat} (h : q ≠ k) : upN c k v q = c q := if_neg h
theorem upN_id {c : Nat → Nat} {k : Nat} : upN c k (c k) = c := by
  funext q
  by_cases e : q = k
  · rw [e, upN_s]
  · rw [upN_n e]
/-- what stands in a row, in a column, ahead of cell k -/
def rwF (n : Nat) (c : Nat → Nat) (k x y : Nat) : Nat := if n * x + y < k then 1 * 2 ^ c (n * x + y) else 0
def rwM (n : Nat) (c : Nat → Nat) (k x : Nat) : Nat := ORs (rwF n c k x) n
def clF (n : Nat) (c : Nat → Nat) (k y x : Nat) : Nat := if n * x + y < k then 1 * 2 ^ c (n * x + y) else 0
def clM (n : Nat) (c : Nat → Nat) (k y : Nat) : Nat := ORs (clF n c k y) n
theorem if_bit {p : Prop} [Decidable p] {a v : Nat} : (if p then 1 * 2 ^ a else 0).testBit v = true ↔ p ∧ a = v := by
  by_cases h : p
  · rw [if_pos h, Nat.one_mul, Nat.testBit_two_pow, decide_eq_true_iff]
    exact ⟨fun e => ⟨h, e⟩, fun e => e.2⟩
  · rw [if_neg h, Nat.zero_testBit]
    exact ⟨fun e => absurd e Bool.false_ne_true, fun e => absurd e.1 h⟩
theorem rw_bit {n : Nat} {c : Nat → Nat} {k x v : Nat} : (rwM n c k x).testBit v = true ↔ ∃ y, y < n ∧ n * x + y < k ∧ c (n * x + y) = v := by
  unfold rwM
  rw [ORs_bit]
  constructor
  · rintro ⟨i, hi, e⟩
    exact ⟨i, hi, if_bit.mp e⟩
  · rintro ⟨i, hi, e⟩
    exact ⟨i, hi, if_bit.mpr e⟩
theorem cl_bit {n : Nat} {c : Nat → Nat} {k y v : Nat} : (clM n c k y).testBit v = true ↔ ∃ x, x < n ∧ n * x + y < k ∧ c (n * x + y) = v := by
  unfold clM
  rw [ORs_bit]
  constructor
  · rintro ⟨i, hi, e⟩
    exact ⟨i, hi, if_bit.mp e⟩
  · rintro ⟨i, hi, e⟩
    exact ⟨i, hi, if_bit.mpr e⟩
def frB (n : Nat) (c : Nat → Nat) (k v : Nat) : Bool := !(rwM n c k (k / n)).testBit v && !(clM n c k (k % n)).testBit v
theorem fr_iff {n : Nat} {c : Nat → Nat} {k v : Nat} : frB n c k v = true ↔ (∀ y, y < n → n * (k / n) + y < k → ¬ c (n * (k / n) + y) = v) ∧ ∀ x, x < n → n * x + k % n < k → ¬ c (n * x + k % n) = v := by
  unfold frB
  rw [Bool.and_eq_true, Bool.not_eq_true', Bool.not_eq_true', Bool.eq_false_iff, Bool.eq_false_iff, Ne, Ne, rw_bit, cl_bit]
  constructor
  · rintro ⟨h1, h2⟩
    exact ⟨fun y a b e => h1 ⟨y, a, b, e⟩, fun x a b e => h2 ⟨x, a, b, e⟩⟩
  · rintro ⟨h1, h2⟩
    exact ⟨fun ⟨y, a, b, e⟩ => h1 y a b e, fun ⟨x, a, b, e⟩ => h2 x a b e⟩
theorem fr_cg {n : Nat} {c d : Nat → Nat} {k v : Nat} (h : ∀ q, q < k → c q = d q) : frB n c k v = frB n d k v := by
  rw [Bool.eq_iff_iff, fr_iff, fr_iff]
  constructor
  · rintro ⟨h1, h2⟩
    exact ⟨fun y a b e => h1 y a b (by rw [h _ b]; exact e), fun x a b e => h2 x a b (by rw [h _ b]; exact e)⟩
  · rintro ⟨h1, h2⟩
    exact ⟨fun y a b e => h1 y a b (by rw [← h _ b]; exact e), fun x a b e => h2 x a b (by rw [← h _ b]; exact e)⟩
/-- latin as far as k -/
def PLat (n : Nat) (c : Nat → Nat) (k : Nat) : Prop := (∀ q, q < k → c q < n) ∧ (∀ x y z, y < n → z < n → n * x + y < k → n * x + z < k → c (n * x + y) = c (n * x + z) → y = z) ∧ ∀ x y z, z < n → n * x + z < k → n * y + z < k → c (n * x + z) = c (n * y + z) → x = y
theorem PLat.o {n : Nat} {c : Nat → Nat} : PLat n c 0 := ⟨all_0, fun x y z _ _ h => absurd h (Nat.not_lt_zero _), fun x y z _ h => absurd h (Nat.not_lt_zero _)⟩
theorem PLat.lat {n : Nat} {c : Nat → Nat} (h : PLat n c (n * n)) : Lat n c := ⟨h.1, fun x y z hx hy hz e => h.2.1 x y z hy hz (cu_lt hx hy) (cu_lt hx hz) e, fun x y z hx hy hz e => h.2.2 x y z hz (cu_lt hx hz) (cu_lt hy hz) e⟩
theorem PLat.mo {n : Nat} {c : Nat → Nat} {k j : Nat} (h : PLat n c k) (hj : j ≤ k) : PLat n c j := ⟨fun q hq => h.1 q (by omega), fun x y z hy hz a b e => h.2.1 x y z hy hz (by omega) (by omega) e, fun x y z hz a b e => h.2.2 x y z hz (by omega) (by omega) e⟩
theorem PLat.cg {n : Nat} {c d : Nat → Nat} {k : Nat} (h : PLat n c k) (e : ∀ q, q < k → d q = c q) : PLat n d k := ⟨fun q hq => by rw [e q hq]; exact h.1 q hq, fun x y z hy hz a b q => h.2.1 x y z hy hz a b (by rw [← e _ a, ← e _ b]; exact q), fun x y z hz a b q => h.2.2 x y z hz a b (by rw [← e _ a, ← e _ b]; exact q)⟩
theorem PLat.s {n : Nat} {c : Nat → Nat} {k v : Nat} (h : PLat n c k) (hk : k < n * n) (hv : v < n) (hf : frB n c k v = true) : PLat n (upN c k v) (k + 1) := by
  obtain ⟨f1, f2⟩ := fr_iff.mp hf
  have hn : 0 < n := by omega
  refine ⟨fun q hq => ?_, fun x y z hy hz a b e => ?_, fun x y z hz a b e => ?_⟩
  · by_cases q1 : q = k
    · rw [q1, upN_s]; exact hv
    · rw [upN_n q1]; exact h.1 q (by omega)
  · by_cases q1 : n * x + y = k
    · by_cases q2 : n * x + z = k
      · omega
      · rw [q1, upN_s, upN_n q2] at e
        have hx : k / n = x := by rw [← q1]; exact dm_d hy
        rw [← hx] at e b q2
        exact absurd e.symm (f1 z hz (by omega))
    · by_cases q2 : n * x + z = k
      · rw [q2, upN_s, upN_n q1] at e
        have hx : k / n = x := by rw [← q2]; exact dm_d hz
        rw [← hx] at e a q1
        exact absurd e (f1 y hy (by omega))
      · rw [upN_n q1, upN_n q2] at e
        exact h.2.1 x y z hy hz (by omega) (by omega) e
  · by_cases q1 : n * x + z = k
    · by_cases q2 : n * y + z = k
      · exact (dm_i hz hz (q1.trans q2.symm)).1
      · rw [q1, upN_s, upN_n q2] at e
        have hx : k % n = z := by rw [← q1]; exact dm_m hz
        rw [← hx] at e b q2
        have hyn : y < n := by
          refine Nat.lt_of_not_le fun q => ?_
          have : n * n ≤ n * y := Nat.mul_le_mul_left n q
          omega
        exact absurd e.symm (f2 y hyn (by omega))
    · by_cases q2 : n * y + z = k
      · rw [q2, upN_s, upN_n q1] at e
        have hx : k % n = z := by rw [← q2]; exact dm_m hz
        rw [← hx] at e a q1
        have hxn : x < n := by
          refine Nat.lt_of_not_le fun q => ?_
          have : n * n ≤ n * x := Nat.mul_le_mul_left n q
          omega
        exact absurd e (f2 x hxn (by omega))
      · rw [upN_n q1, upN_n q2] at e
        exact h.2.2 x y z hz (by omega) (by omega) e
theorem PLat.fr {n : Nat} {c : Nat → Nat} {k : Nat} (h : PLat n c (k + 1)) (hn : 0 < n) : frB n c k (c k) = true := by
  rw [fr_iff]
  have hk : n * (k / n) + k % n = k := dm_q
  have hm : k % n < n := Nat.mod_lt _ hn
  constructor
  · intro y hy a e
    have := h.2.1 (k / n) y (k % n) hy hm (by omega) (by omega) (by rw [hk]; exact e)
    omega
  · intro x hx a e
    have := h.2.2 x (k / n) (k % n) hm (by omega) (by omega) (by rw [hk]; exact e)
    rw [this] at a
    omega
/-- told cells -/
def tdB (T : Nat → Option Nat) (k v : Nat) : Bool := match T k with
  | none => true
  | some u => u == v
theorem td_n {T : Nat → Option Nat} {k v : Nat} (h : T k = none) : tdB T k v = true := by unfold tdB; rw [h]
theorem td_s {T : Nat → Option Nat} {k u v : Nat} (h : T k = some u) : tdB T k v = true ↔ u = v := by unfold tdB; rw [h]; exact beq_iff_eq
theorem td_e {T U : Nat → Option Nat} {k v : Nat} (h : T k = U k) : tdB T k v = tdB U k v := by unfold tdB; rw [h]
/-- all fillings from cell k on, f cells more, lower ones ahead -/
def flL (n : Nat) (T : Nat → Option Nat) : Nat → Nat → (Nat → Nat) → List (Nat → Nat)
  | 0, _, c => [c]
  | f + 1, k, c => (List.range n).flatMap fun v => if (tdB T k v && frB n c k v) = true then flL n T f (k + 1) (upN c k v) else []
def flX (n : Nat) (T : Nat → Option Nat) (f k : Nat) (c : Nat → Nat) (v : Nat) : List (Nat → Nat) := if (tdB T k v && frB n c k v) = true then flL n T f (k + 1) (upN c k v) else []
def flV (n : Nat) (T : Nat → Option Nat) (f k : Nat) (c : Nat → Nat) (v : Nat) : List (Nat → Nat) := (List.range v).flatMap (flX n T f k c)
theorem flV_0 {n : Nat} {T : Nat → Option Nat} {f k : Nat} {c : Nat → Nat} : flV n T f k c 0 = [] := rfl
theorem flV_s {n : Nat} {T : Nat → Option Nat} {f k : Nat} {c : Nat → Nat} {v : Nat} : flV n T f k c (v + 1) = flV n T f k c v ++ flX n T f k c v := by
  unfold flV
  rw [List.range_succ, List.flatMap_append]
  simp
theorem flL_s {n : Nat} {T : Nat → Option Nat} {f k : Nat} {c : Nat → Nat} : flL n T (f + 1) k c = flV n T f k c n := rfl
theorem flV_pre {n : Nat} {T : Nat → Option Nat} {f k : Nat} {c : Nat → Nat} {v : Nat} : ∀ {u : Nat}, v ≤ u → ∃ r, flV n T f k c u = flV n T f k c v ++ r
  | 0, h => ⟨[], by rw [show v = 0 by omega]; rfl⟩
  | u + 1, h => by
    rcases Nat.lt_or_ge u v with q | q
    · exact ⟨[], by rw [show v = u + 1 by omega, List.append_nil]⟩
    · obtain ⟨r, e⟩ := flV_pre (n := n) (T := T) (f := f) (k := k) (c := c) q
      exact ⟨r ++ flX n T f k c u, by rw [flV_s, e, List.append_assoc]⟩
/-- how many -/
def nF (n : Nat) (T : Nat → Option Nat) : Nat → Nat → (Nat → Nat) → Nat
  | 0, _, _ => 1
  | f + 1, k, c => SM (fun v => if (tdB T k v && frB n c k v) = true then nF n T f (k + 1) (upN c k v) else 0) n
theorem fm_ln {α : Type} (g : Nat → List α) : ∀ n, ((List.range n).flatMap g).length = SM (fun v => (g v).length) n
  | 0 => rfl
  | n + 1 => by
    rw [List.range_succ, List.flatMap_append, List.length_append, fm_ln g n, SM_s]
    simp
theorem fl_len {n : Nat} {T : Nat → Option Nat} : ∀ (f k : Nat) (c : Nat → Nat), (flL n T f k c).length = nF n T f k c
  | 0, _, _ => rfl
  | f + 1, k, c => by
    unfold flL nF
    rw [fm_ln]
    refine SM_c (fun v _ => ?_)
    split
    · exact fl_len f _ _
    · rfl
theorem nF_T {n : Nat} {T U : Nat → Option Nat} : ∀ (f k : Nat) (c : Nat → Nat), (∀ q, k ≤ q → T q = U q) → nF n T f k c = nF n U f k c
  | 0, _, _, _ => rfl
  | f + 1, k, c, h => by
    unfold nF
    refine SM_c (fun v _ => ?_)
    rw [td_e (h k (Nat.le_refl _)), nF_T f (k + 1) _ (fun q hq => h q (by omega))]
theorem nF_c {n : Nat} {T : Nat → Option Nat} : ∀ (f k : Nat) (c d : Nat → Nat), (∀ q, q < k → c q = d q) → nF n T f k c = nF n T f k d
  | 0, _, _, _, _ => rfl
  | f + 1, k, c, d, h => by
    unfold nF
    refine SM_c (fun v _ => ?_)
    rw [fr_cg h, nF_c f (k + 1) (upN c k v) (upN d k v) (fun q hq => ?_)]
    by_cases e : q = k
    · rw [e, upN_s, upN_s]
    · rw [upN_n e, upN_n e]
      exact h q (by omega)
theorem SM_if {p : Prop} [Decidable p] {h : Nat → Nat} : ∀ {m : Nat}, SM (fun v => if p then h v else 0) m = if p then SM h m else 0
  | 0 => by split <;> rfl
  | m + 1 => by
    rw [SM_s, SM_if (m := m)]
    split
    · rfl
    · rfl
theorem SM_sw {f : Nat → Nat → Nat} {m : Nat} : ∀ {n : Nat}, SM (fun x => SM (fun y => f x y) m) n = SM (fun y => SM (fun x => f x y) n) m
  | 0 => (SM_0s (fun _ _ => rfl)).symm
  | n + 1 => by
    rw [SM_s, SM_sw (n := n), ← SM_add]
    exact SM_c (fun y _ => rfl)
theorem SM_one {f : Nat → Nat} {n a : Nat} (ha : a < n) (h : ∀ v, v < n → v ≠ a → f v = 0) : SM f n = f a := by
  rw [SM_rm ha, SM_0s (fun k hk => ?_), Nat.zero_add]
  by_cases e : k = a
  · rw [if_pos e]
  · rw [if_neg e]; exact h k hk e
def seT (T : Nat → Option Nat) (q v : Nat) : Nat → Option Nat := fun p => if p = q then some v else T p
theorem seT_s {T : Nat → Option Nat} {q v : Nat} : seT T q v q = some v := if_pos rfl
theorem seT_n {T : Nat → Option Nat} {q v p : Nat} (h : p ≠ q) : seT T q v p = T p := if_neg h
/-- any open cell may be filled first -/
theorem nF_br {n : Nat} : ∀ (f k : Nat) (c : Nat → Nat) (T : Nat → Option Nat) (q : Nat), T q = none → k ≤ q → q < k + f → nF n T f k c = SM (fun v => nF n (seT T q v) f k c) n
  | 0, k, c, T, q, h, h1, h2 => by omega
  | f + 1, k, c, T, q, h, h1, h2 => by
    by_cases e : q = k
    · subst e
      unfold nF
      refine SM_c (fun v hv => ?_)
      rw [td_n h, Bool.true_and, SM_one hv (fun u _ hu => if_neg (fun e => ?_))]
      · rw [(td_s seT_s).mpr rfl, Bool.true_and]
        split
        · exact nF_T f _ _ (fun p hp => (seT_n (by omega)).symm)
        · rfl
      · rw [Bool.and_eq_true] at e
        exact hu ((td_s seT_s).mp e.1).symm
    · unfold nF
      rw [SM_sw]
      refine SM_c (fun v hv => ?_)
      rw [nF_br f (k + 1) (upN c k v) T q h (by omega) (by omega), ← SM_if]
      refine SM_c (fun u hu => ?_)
      rw [td_e (T := seT T q u) (U := T) (seT_n (fun x => e x.symm))]
/-- told cells that clash -/
theorem nF_cl {n : Nat} {T : Nat → Option Nat} {p q v : Nat} (hp : T p = some v) (hq : T q = some v) (hpq : p < q) (hn : 0 < n) (hs : p / n = q / n ∨ p % n = q % n) : ∀ (f k : Nat) (c : Nat → Nat), k ≤ q → q < k + f → q < n * n → (p < k → c p = v) → nF n T f k c = 0
  | 0, k, c, h1, h2, h3, h4 => by omega
  | f + 1, k, c, h1, h2, h3, h4 => by
    unfold nF
    refine SM_0s (fun w hw => ?_)
    by_cases e : (tdB T k w && frB n c k w) = true
    · rw [if_pos e]
      rw [Bool.and_eq_true] at e
      by_cases ek : k = q
      · exfalso
        rw [ek] at e
        have hwv : v = w := (td_s hq).mp e.1
        obtain ⟨f1, f2⟩ := fr_iff.mp e.2
        have hc : c p = v := h4 (by omega)
        rcases hs with s | s
        · refine f1 (p % n) (Nat.mod_lt _ hn) ?_ ?_
          · rw [← s, dm_q]; exact hpq
          · rw [← s, dm_q, ← hwv]; exact hc
        · refine f2 (p / n) (dm_dl (by omega)) ?_ ?_
          · rw [← s, dm_q]; exact hpq
          · rw [← s, dm_q, ← hwv]; exact hc
      · refine nF_cl hp hq hpq hn hs f (k + 1) _ (by omega) (by omega) h3 (fun hk => ?_)
        by_cases e2 : p = k
        · rw [← e2, upN_s]
          rw [← e2] at e
          exact ((td_s hp).mp e.1).symm
        · rw [upN_n e2]
          exact h4 (by omega)
    · rw [if_neg e]
/-- all cells told, no clash -/
theorem nF_1 {n : Nat} {T : Nat → Option Nat} {c : Nat → Nat} (hn : 0 < n) : ∀ (f k : Nat), (∀ q, k ≤ q → q < k + f → T q = some (c q)) → PLat n c (k + f) → nF n T f k c = 1
  | 0, _, _, _ => rfl
  | f + 1, k, h, hl => by
    unfold nF
    have hk := h k (Nat.le_refl _) (by omega)
    rw [SM_one (a := c k) (hl.1 k (by omega)) (fun v _ hv => if_neg (fun e => ?_))]
    · rw [(td_s hk).mpr rfl, (hl.mo (show k + 1 ≤ k + (f + 1) by omega)).fr hn, Bool.true_and, if_pos rfl, upN_id]
      exact nF_1 hn f (k + 1) (fun q h1 h2 => h q (by omega) (by omega)) (by rw [show k + 1 + f = k + (f + 1) by omega]; exact hl)
    · rw [Bool.and_eq_true] at e
      exact hv ((td_s hk).mp e.1).symm
/-- the number of fillings of a board -/
def nB (n : Nat) (T : Nat → Option Nat) : Nat := nF n T (n * n) 0 (fun _ => 0)
theorem nB_br {n : Nat} {T : Nat → Option Nat} {q : Nat} (h : T q = none) (hq : q < n * n) : nB n T = SM (fun v => nB n (seT T q v)) n := nF_br _ _ _ _ _ h (Nat.zero_le _) (by omega)
theorem nB_cl {n : Nat} {T : Nat → Option Nat} {p q v : Nat} (hp : T p = some v) (hq : T q = some v) (hpq : p ≠ q) (hs : p / n = q / n ∨ p % n = q % n) (hp2 : p < n * n) (hq2 : q < n * n) : nB n T = 0 := by
  have hn : 0 < n := by
    rcases Nat.eq_zero_or_pos n with e | e
    · rw [e] at hp2; omega
    · exact e
  rcases Nat.lt_or_ge p q with e | e
  · exact nF_cl hp hq e hn hs _ _ _ (Nat.zero_le _) (by omega) hq2 (fun h => absurd h (Nat.not_lt_zero _))
  · exact nF_cl hq hp (by omega) hn (hs.imp Eq.symm Eq.symm) _ _ _ (Nat.zero_le _) (by omega) hp2 (fun h => absurd h (Nat.not_lt_zero _))
theorem nB_1 {n : Nat} {T : Nat → Option Nat} {c : Nat → Nat} (hn : 0 < n) (h : ∀ q, q < n * n → T q = some (c q)) (hl : Lat n c) : nB n T = 1 := by
  unfold nB
  rw [nF_c (n * n) 0 _ c (fun q hq => absurd hq (Nat.not_lt_zero _))]
  refine nF_1 hn _ _ (fun q _ hq => h q (by omega)) ?_
  rw [Nat.zero_add]
  refine ⟨hl.1, fun x y z hy hz a b e => ?_, fun x y z hz a b e => ?_⟩
  · have hx : x < n := by
      refine Nat.lt_of_not_le fun q => ?_
      have : n * n ≤ n * x := Nat.mul_le_mul_left n q
      omega
    exact hl.2.1 x y z hx hy hz e
  · have hx : x < n := by
      refine Nat.lt_of_not_le fun q => ?_
      have : n * n ≤ n * x := Nat.mul_le_mul_left n q
      omega
    have hy : y < n := by
      refine Nat.lt_of_not_le fun q => ?_
      have : n * n ≤ n * y := Nat.mul_le_mul_left n q
      omega
    exact hl.2.2 x y z hx hy hz e
theorem nB_T {n : Nat} {T U : Nat → Option Nat} (h : ∀ q, q < n * n → T q = U q) : nB n T = nB n U := by
  have key : ∀ (f k : Nat) (c : Nat → Nat), k + f ≤ n * n → nF n T f k c = nF n U f k c := by
    intro f
    induction f with
    | zero => intros; rfl
    | succ f ih =>
      intro k c hk
      unfold nF
      refine SM_c (fun v _ => ?_)
      rw [td_e (h k (by omega)), ih (k + 1) _ (by omega)]
  exact key _ _ _ (by omega)
/-- what is filled: latin, and as told -/
theorem fl_mem {n : Nat} {T : Nat → Option Nat} : ∀ (f k : Nat) (c d : Nat → Nat), k + f ≤ n * n → PLat n c k → (∀ q u, q < k → T q = some u → c q = u) → d ∈ flL n T f k c → PLat n d (k + f) ∧ (∀ q u, q < k + f → T q = some u → d q = u) ∧ ∀ q, q < k → d q = c q
  | 0, k, c, d, hk, hl, ht, hd => by
    unfold flL at hd
    rw [List.mem_singleton] at hd
    subst hd
    exact ⟨hl, ht, fun _ _ => rfl⟩
  | f + 1, k, c, d, hk, hl, ht, hd => by
    unfold flL at hd
    rw [List.mem_flatMap] at hd
    obtain ⟨v, hv, hd⟩ := hd
    rw [List.mem_range] at hv
    split at hd
    next e =>
      rw [Bool.and_eq_true] at e
      have ih := fl_mem f (k + 1) (upN c k v) d (by omega) (hl.s (by omega) hv e.2) (fun q u hq hT => by
        by_cases e2 : q = k
        · rw [e2, upN_s]
          rw [e2] at hT
          exact ((td_s hT).mp e.1).symm
        · rw [upN_n e2]
          exact ht q u (by omega) hT) hd
      rw [show k + 1 + f = k + (f + 1) by omega] at ih
      exact ⟨ih.1, ih.2.1, fun q hq => by rw [ih.2.2 q (by omega), upN_n (by omega)]⟩
    next e => exact absurd hd (List.not_mem_nil)
