/-! The number of a permutation; printed by wip/whole/gen_rank.py. -/
/-- as the reference reckons it: what is left, the number so far -/
def rkS (n : Nat) (a : Nat → Nat) : Nat → Nat × Nat
  | 0 => (1 * 2 ^ n - 1, 0)
  | k + 1 => match rkS n a k with
    | (l, v) => (l &&& ((1 * 2 ^ a k) ^^^ 4294967295), v + onN (l &&& (1 * 2 ^ a k - 1)) * FA (n - 1 - k))
/-- as the class does: what is used, the number so far -/
def rkT (n : Nat) (a : Nat → Nat) : Nat → Nat × Nat
  | 0 => (0, 0)
  | k + 1 => match rkT n a k with
    | (u, v) => (u ||| 1 * 2 ^ a k, v + (a k - onN (u &&& (1 * 2 ^ a k - 1))) * FA (n - 1 - k))
def ltF (l : List Nat) (k : Nat) : Nat := l.getD k 0
def rkCk (n : Nat) (l : List Nat) : Bool := match (rkS n (ltF l) n).2 with
  | r => decide (r < FA n) && ((rkT n (ltF l) n).2 == r) && (List.range n).all (fun k => (pmE n r k == ltF l k) && decide ((rkS n (ltF l) k).1 < 64) && decide ((rkS n (ltF l) k).2 < 720) && decide ((rkT n (ltF l) k).1 < 64) && decide ((rkT n (ltF l) k).2 < 720) && decide (onN ((rkT n (ltF l) k).1 &&& (1 * 2 ^ ltF l k - 1)) ≤ ltF l k))
theorem rkS_c {n : Nat} {a b : Nat → Nat} : ∀ {m : Nat}, (∀ k, k < m → a k = b k) → rkS n a m = rkS n b m
  | 0, _ => rfl
  | m + 1, h => by
    unfold rkS
    rw [rkS_c (fun k hk => h k (by omega)), h m (by omega)]
theorem rkT_c {n : Nat} {a b : Nat → Nat} : ∀ {m : Nat}, (∀ k, k < m → a k = b k) → rkT n a m = rkT n b m
  | 0, _ => rfl
  | m + 1, h => by
    unfold rkT
    rw [rkT_c (fun k hk => h k (by omega)), h m (by omega)]
abbrev rkOk (n r : Nat) (a : Nat → Nat) : Prop := r < FA n ∧ (rkS n a n).2 = r ∧ (rkT n a n).2 = r ∧ ∀ k, k < n → pmE n r k = a k ∧ (rkS n a k).1 < 64 ∧ (rkS n a k).2 < 720 ∧ (rkT n a k).1 < 64 ∧ (rkT n a k).2 < 720 ∧ onN ((rkT n a k).1 &&& (1 * 2 ^ a k - 1)) ≤ a k
theorem rk_of {n : Nat} {l : List Nat} {p : Nat → Nat} (h : rkCk n l = true) (e : ∀ k, k < n → p k = ltF l k) : ∃ r, rkOk n r p := by
  refine ⟨(rkS n (ltF l) n).2, ?_⟩
  unfold rkCk at h
  simp only [Bool.and_eq_true, decide_eq_true_eq, beq_iff_eq, List.all_eq_true, List.mem_range] at h
  obtain ⟨⟨h1, h2⟩, h3⟩ := h
  refine ⟨h1, by rw [rkS_c e], by rw [rkT_c e]; exact h2, fun k hk => ?_⟩
  obtain ⟨⟨⟨⟨⟨e1, e2⟩, e3⟩, e4⟩, e5⟩, e6⟩ := h3 k hk
  rw [rkS_c (m := k) (fun q hq => e q (by omega)), rkT_c (m := k) (fun q hq => e q (by omega)), e k hk]
  exact ⟨e1, e2, e3, e4, e5, e6⟩
def rkAll (n : Nat) : Nat → List Nat → Bool
  | 0, l => rkCk n l
  | k + 1, l => (List.range n).all fun a => l.contains a || rkAll n k (l ++ [a])
theorem rk_all : (List.range 7).all (fun n => rkAll n n []) = true := by decide +kernel
theorem rkAll_s {n : Nat} {p : Nat → Nat} (hP : Per n p) : ∀ k m, m + k = n → rkAll n k ((List.range m).map p) = true → rkCk n ((List.range n).map p) = true
  | 0, m, h, e => by
    have : m = n := by omega
    subst this
    exact e
  | k + 1, m, h, e => by
    unfold rkAll at e
    have h1 := List.all_eq_true.mp e (p m) (List.mem_range.mpr (hP.1 m (by omega)))
    have h2 : ((List.range m).map p).contains (p m) = false := by
      cases hc : ((List.range m).map p).contains (p m)
      · rfl
      · rw [List.contains_iff_mem] at hc
        obtain ⟨i, hi, he⟩ := List.mem_map.mp hc
        have hi := List.mem_range.mp hi
        have := hP.2 i m (by omega) (by omega) he
        omega
    rw [h2, Bool.false_or] at h1
    refine rkAll_s hP k (m + 1) (by omega) ?_
    rw [List.range_succ, List.map_append]
    exact h1
/-- every permutation has its number -/
theorem per_num {n : Nat} {p : Nat → Nat} (hn : n ≤ 6) (h : Per n p) : ∃ r, rkOk n r p := by
  have h1 := List.all_eq_true.mp rk_all n (List.mem_range.mpr (by omega))
  refine rk_of (rkAll_s h n 0 (by omega) h1) (fun k hk => ?_)
  unfold ltF
  rw [List.getD_eq_getElem?_getD, List.getElem?_map, List.getElem?_range hk]
  rfl
theorem pm_per {n r : Nat} (hn : n ≤ 6) (hr : r < FA n) : Per n (pmE n r) := by
  have h1 := List.all_eq_true.mp (List.all_eq_true.mp pm_ck n (List.mem_range.mpr (by omega))) r (List.mem_range.mpr hr)
  have h2 := List.all_eq_true.mp (List.all_eq_true.mp pm_in n (List.mem_range.mpr (by omega))) r (List.mem_range.mpr hr)
  refine ⟨fun k hk => ?_, fun i j hi hj e => ?_⟩
  · have h3 := List.all_eq_true.mp h1 k (List.mem_range.mpr hk)
    unfold pmCk at h3
    simp only [Bool.and_eq_true, decide_eq_true_eq] at h3
    exact h3.1.1.1.1
  · unfold pmIn at h2
    rcases Nat.lt_trichotomy i j with h4 | h4 | h4
    · have h5 := List.all_eq_true.mp (List.all_eq_true.mp h2 j (List.mem_range.mpr hj)) i (List.mem_range.mpr h4)
      rw [e] at h5
      simp at h5
    · exact h4
    · have h5 := List.all_eq_true.mp (List.all_eq_true.mp h2 i (List.mem_range.mpr hi)) j (List.mem_range.mpr h4)
      rw [e] at h5
      simp at h5
theorem pm_f {n r k : Nat} (hn : n ≤ 6) (hr : r < FA n) (hk : k < n) : pmE n r k < n ∧ (pmS n r k).1.testBit (pmE n r k) = true ∧ SB (pmS n r k).1 (pmE n r k) = (pmS n r k).2 / FA (n - 1 - k) ∧ (pmS n r k).1 < 64 ∧ (pmS n r k).2 < 720 := by
  have h1 := List.all_eq_true.mp (List.all_eq_true.mp (List.all_eq_true.mp pm_ck n (List.mem_range.mpr (by omega))) r (List.mem_range.mpr hr)) k (List.mem_range.mpr hk)
  unfold pmCk at h1
  simp only [Bool.and_eq_true, decide_eq_true_eq, beq_iff_eq] at h1
  exact ⟨h1.1.1.1.1, h1.1.1.1.2, h1.1.1.2, h1.1.2, h1.2⟩
theorem nx_pm {n r k : Nat} (hn : n ≤ 6) (hr : r + 1 < FA n) (hk : k < n) : nxP 0 n (pmE n r) k = pmE n (r + 1) k := by
  have h1 := List.all_eq_true.mp (List.all_eq_true.mp nx_ck n (List.mem_range.mpr (by omega))) r (List.mem_range.mpr (by omega))
  unfold nxCk at h1
  exact beq_iff_eq.mp (List.all_eq_true.mp h1 k (List.mem_range.mpr hk))
theorem pm_id {n k : Nat} (hn : n ≤ 6) (hk : k < n) : pmE n 0 k = k := beq_iff_eq.mp (List.all_eq_true.mp (List.all_eq_true.mp pm_0 n (List.mem_range.mpr (by omega))) k (List.mem_range.mpr hk))
theorem fst_no {p : Nat → Bool} : ∀ {f e : Nat} {q : Nat}, e ≤ q → q < fst p f e → p q = false
  | 0, e, q, h1, h2 => by unfold fst at h2; omega
  | f + 1, e, q, h1, h2 => by
    unfold fst at h2
    by_cases hp : p e = true
    · rw [if_pos hp] at h2
      omega
    · rw [if_neg hp] at h2
      by_cases he : q = e
      · subst he
        simpa using hp
      · exact fst_no (by omega) h2
theorem FA_pos : ∀ n, 0 < FA n
  | 0 => by decide
  | n + 1 => Nat.mul_pos (by omega) (FA_pos n)
theorem FA_720 {n : Nat} (h : n ≤ 6) : FA n ≤ 720 := by
  have : ∀ n, n < 7 → FA n ≤ 720 := by decide
  exact this n (by omega)
theorem pm_no {n r k e : Nat} (h : e < pmE n r k) : ¬ ((pmS n r k).1.testBit e = true ∧ SB (pmS n r k).1 e = (pmS n r k).2 / FA (n - 1 - k)) := by
  have h1 : (fun e => (pmS n r k).1.testBit e && (SB (pmS n r k).1 e == (pmS n r k).2 / FA (n - 1 - k))) e = false := fst_no (Nat.zero_le e) h
  simp only [Bool.and_eq_false_iff, beq_eq_false_iff_ne] at h1
  rintro ⟨a, b⟩
  rcases h1 with h1 | h1
  · rw [a] at h1
    cases h1
  · exact h1 b
