/-! Tables filled in all ways: the reference; printed by wip/whole/gen_c07.py. -/
theorem rw_put {n : Nat} {c : Nat → Nat} {k v : Nat} (hn : 0 < n) : rwM n (upN c k v) (k + 1) (k / n) = rwM n c k (k / n) ||| 1 * 2 ^ v := by
  apply Nat.eq_of_testBit_eq
  intro i
  rw [Bool.eq_iff_iff, Nat.testBit_or, Bool.or_eq_true, rw_bit, rw_bit, Nat.one_mul, Nat.testBit_two_pow, decide_eq_true_iff]
  have hk : n * (k / n) + k % n = k := dm_q
  have hm : k % n < n := Nat.mod_lt _ hn
  constructor
  · rintro ⟨y, hy, h1, h2⟩
    by_cases e : n * (k / n) + y = k
    · rw [e, upN_s] at h2
      exact Or.inr h2
    · rw [upN_n e] at h2
      exact Or.inl ⟨y, hy, by omega, h2⟩
  · rintro (⟨y, hy, h1, h2⟩ | h)
    · exact ⟨y, hy, by omega, by rw [upN_n (by omega)]; exact h2⟩
    · exact ⟨k % n, hm, by omega, by rw [hk, upN_s]; exact h⟩
theorem rw_oth {n : Nat} {c : Nat → Nat} {k v x : Nat} (hx : x ≠ k / n) : rwM n (upN c k v) (k + 1) x = rwM n c k x := by
  apply Nat.eq_of_testBit_eq
  intro i
  rw [Bool.eq_iff_iff, rw_bit, rw_bit]
  have key : ∀ y, y < n → n * x + y ≠ k := fun y hy e => hx (by rw [← e, dm_d hy])
  constructor
  · rintro ⟨y, hy, h1, h2⟩
    rw [upN_n (key y hy)] at h2
    exact ⟨y, hy, by have := key y hy; omega, h2⟩
  · rintro ⟨y, hy, h1, h2⟩
    exact ⟨y, hy, by omega, by rw [upN_n (key y hy)]; exact h2⟩
theorem cl_put {n : Nat} {c : Nat → Nat} {k v : Nat} (hk2 : k < n * n) : clM n (upN c k v) (k + 1) (k % n) = clM n c k (k % n) ||| 1 * 2 ^ v := by
  apply Nat.eq_of_testBit_eq
  intro i
  rw [Bool.eq_iff_iff, Nat.testBit_or, Bool.or_eq_true, cl_bit, cl_bit, Nat.one_mul, Nat.testBit_two_pow, decide_eq_true_iff]
  have hk : n * (k / n) + k % n = k := dm_q
  constructor
  · rintro ⟨x, hx, h1, h2⟩
    by_cases e : n * x + k % n = k
    · rw [e, upN_s] at h2
      exact Or.inr h2
    · rw [upN_n e] at h2
      exact Or.inl ⟨x, hx, by omega, h2⟩
  · rintro (⟨x, hx, h1, h2⟩ | h)
    · exact ⟨x, hx, by omega, by rw [upN_n (by omega)]; exact h2⟩
    · exact ⟨k / n, dm_dl hk2, by omega, by rw [hk, upN_s]; exact h⟩
theorem cl_oth {n : Nat} {c : Nat → Nat} {k v y : Nat} (hy : y < n) (hx : y ≠ k % n) : clM n (upN c k v) (k + 1) y = clM n c k y := by
  apply Nat.eq_of_testBit_eq
  intro i
  rw [Bool.eq_iff_iff, cl_bit, cl_bit]
  have key : ∀ x, n * x + y ≠ k := fun x e => hx (by rw [← e, dm_m hy])
  constructor
  · rintro ⟨x, hx, h1, h2⟩
    rw [upN_n (key x)] at h2
    exact ⟨x, hx, by have := key x; omega, h2⟩
  · rintro ⟨x, hx, h1, h2⟩
    exact ⟨x, hx, by omega, by rw [upN_n (key x)]; exact h2⟩
theorem rw_64 {n : Nat} {c : Nat → Nat} {k x : Nat} (hn : n ≤ 6) (h : ∀ q, q < k → c q < n) : rwM n c k x < 64 := ORs_lt (m := 6) (fun y _ => by
  unfold rwF
  split
  next e => have := h _ e; exact tw_64 (by omega)
  next e => decide)
theorem cl_64 {n : Nat} {c : Nat → Nat} {k y : Nat} (hn : n ≤ 6) (h : ∀ q, q < k → c q < n) : clM n c k y < 64 := ORs_lt (m := 6) (fun x _ => by
  unfold clF
  split
  next e => have := h _ e; exact tw_64 (by omega)
  next e => decide)
theorem fr_e {n : Nat} {c : Nat → Nat} {k v : Nat} : (rwM n c k (k / n) ||| clM n c k (k % n)) &&& 1 * 2 ^ v = 0 ↔ frB n c k v = true := by
  rw [and_p, Nat.testBit_or]
  unfold frB
  cases (rwM n c k (k / n)).testBit v <;> cases (clM n c k (k % n)).testBit v <;> simp
def oI (t : Option Nat) : Int32 := match t with
  | none => -1
  | some v => nI v
theorem oI_n {t : Option Nat} (h : ∀ u, t = some u → u < 6) : oI t = -1 ↔ t = none := by
  cases t with
  | none => exact ⟨fun _ => rfl, fun _ => rfl⟩
  | some u => exact ⟨fun e => absurd e (ia_ne (h u rfl)), fun e => by cases e⟩
theorem oI_s {t : Option Nat} {v : Nat} (h : ∀ u, t = some u → u < 6) (hv : v < 6) : oI t = nI v ↔ t = some v := by
  cases t with
  | none => exact ⟨fun e => absurd e.symm (ia_ne hv), fun e => by cases e⟩
  | some u => exact ⟨fun e => by rw [(nI_eq (by have := h u rfl; omega) (by omega)).mp e], fun e => by cases e; rfl⟩
def stI (s : Option Nat) : Int32 := match s with
  | none => -1
  | some v => nI v
theorem stI_e {s : Option Nat} {x : Nat} (h : ∀ u, s = some u → u ≤ 100000) (hx : x ≤ 100000) : nI x = stI s ↔ s = some x := by
  cases s with
  | none => exact ⟨fun e => absurd e (by
      intro e
      have : (nI x).toInt = (-1 : Int32).toInt := congrArg _ e
      rw [nI_toInt (by omega)] at this
      have h2 : (-1 : Int32).toInt = -1 := by decide
      omega), fun e => by cases e⟩
  | some u => exact ⟨fun e => by rw [(nI_eq (a := x) (b := u) (by omega) (by have := h u rfl; omega)).mp e], fun e => by cases e; rfl⟩
def capN (s : Option Nat) (x : Nat) : Nat := match s with
  | none => x
  | some s => min s x
/-- how far the count may go -/
def capO (s : Option Nat) (m L : Nat) : Prop := match s with
  | none => m + L ≤ 100000
  | some s => m < s ∧ s ≤ 100000
theorem capO.le {s : Option Nat} {m L : Nat} (h : capO s m L) : ∀ u, s = some u → u ≤ 100000 := by
  rintro u rfl
  exact h.2
theorem capO.m {s : Option Nat} {m L : Nat} (h : capO s m L) : m ≤ 100000 := by
  cases s with
  | none => have : m + L ≤ 100000 := h; omega
  | some u => have := h.1; have := h.2; omega
theorem capO.ne {s : Option Nat} {m L : Nat} (h : capO s m L) : ¬ s = some m := by
  rintro rfl
  have := h.1
  omega
def FiS (n : Nat) (T : Nat → Option Nat) (k : Nat) (c : Nat → Nat) (g : Nat → Int32) (A : Nat → Nat → Int32) : Prop := g 6 = nI n ∧ (∀ q, q < k → A 4 q = nI (c q)) ∧ (∀ x, x < n → A 23 x = nI (rwM n c k x)) ∧ (∀ y, y < n → A 24 y = nI (clM n c k y)) ∧ ∀ q, q < n * n → A 25 q = oI (T q)
def FiF (g : Nat → Int32) (A : Nat → Nat → Int32) (g' : Nat → Int32) (A' : Nat → Nat → Int32) : Prop := (∀ k, (k < 24 ∨ 30 ≤ k) → k ≠ 44 → g' k = g k) ∧ ∀ j, j ≠ 4 → j ≠ 5 → j ≠ 12 → j ≠ 23 → j ≠ 24 → A' j = A j
theorem FiF.tr {g : Nat → Int32} {A : Nat → Nat → Int32} {g1 : Nat → Int32} {A1 : Nat → Nat → Int32} {g2 : Nat → Int32} {A2 : Nat → Nat → Int32} (h : FiF g A g1 A1) (h2 : FiF g1 A1 g2 A2) : FiF g A g2 A2 := ⟨fun k a b => (h2.1 k a b).trans (h.1 k a b), fun j a b d e f => (h2.2 j a b d e f).trans (h.2 j a b d e f)⟩
theorem FiF.rf {g : Nat → Int32} {A : Nat → Nat → Int32} : FiF g A g A := ⟨fun _ _ _ => rfl, fun _ _ _ _ _ _ => rfl⟩
theorem FiF.u {g : Nat → Int32} {A : Nat → Nat → Int32} {g1 : Nat → Int32} {A1 : Nat → Nat → Int32} {j : Nat} {w : Nat → Int32} (h : FiF g A g1 A1) (hj : j = 4 ∨ j = 5 ∨ j = 12 ∨ j = 23 ∨ j = 24) : FiF g A g1 (rf_u A1 j w) := ⟨h.1, fun i a b d e f => by rw [rf_u_n (by omega)]; exact h.2 i a b d e f⟩
theorem FiF.g {g : Nat → Int32} {A : Nat → Nat → Int32} {g1 : Nat → Int32} {A1 : Nat → Nat → Int32} {v : Int32} (h : FiF g A g1 A1) : FiF g A (upd g1 44 v) A1 := ⟨fun k a b => by rw [pk_un b]; exact h.1 k a b, h.2⟩
def FiO (s : Option Nat) (m : Nat) (l : List (Nat → Nat)) (n : Nat) (g' : Nat → Int32) (A' : Nat → Nat → Int32) : Prop := g' 44 = nI (capN s (m + l.length)) ∧ ∀ t, s = some t → t ≤ m + l.length → ∀ q, q < n * n → A' 5 q = nI ((l.getD (t - m - 1) (fun _ => 0)) q)
def FiQ (s : Option Nat) (m : Nat) (l : List (Nat → Nat)) (n : Nat) (T : Nat → Option Nat) (k : Nat) (c : Nat → Nat) (g : Nat → Int32) (A : Nat → Nat → Int32) : Option Value → (Nat → Int32) → (Nat → Nat → Int32) → Prop := fun v g' A' => v = none ∧ FiS n T k c g' A' ∧ FiF g A g' A' ∧ FiO s m l n g' A'
theorem FiS.fr {n : Nat} {T : Nat → Option Nat} {k : Nat} {c : Nat → Nat} {g : Nat → Int32} {A : Nat → Nat → Int32} {g' : Nat → Int32} {A' : Nat → Nat → Int32} (h : FiS n T k c g A) (h6 : g' 6 = g 6) (h4 : A' 4 = A 4) (h23 : A' 23 = A 23) (h24 : A' 24 = A 24) (h25 : A' 25 = A 25) : FiS n T k c g' A' := by
  unfold FiS
  rw [h6, h4, h23, h24, h25]
  exact h
theorem FiS.put {n : Nat} {T : Nat → Option Nat} {k v : Nat} {c : Nat → Nat} {g : Nat → Int32} {A : Nat → Nat → Int32} (h : FiS n T k c g A) (hk : k < n * n) (hn : 0 < n) : FiS n T (k + 1) (upN c k v) g (rf_u (rf_u (rf_u A 23 (upd (A 23) (k / n) (nI (rwM n c k (k / n) ||| 1 * 2 ^ v)))) 24 (upd (A 24) (k % n) (nI (clM n c k (k % n) ||| 1 * 2 ^ v)))) 4 (upd (A 4) k (nI v))) := by
  refine ⟨h.1, fun q hq => ?_, fun x hx => ?_, fun y hy => ?_, fun q hq => ?_⟩
  · rw [rf_u_s]
    by_cases e : q = k
    · rw [e, pk_us, upN_s]
    · rw [pk_un e, upN_n e]
      exact h.2.1 q (by omega)
  · rw [rf_u_n (by decide), rf_u_n (by decide), rf_u_s]
    by_cases e : x = k / n
    · rw [e, pk_us, rw_put hn]
    · rw [pk_un e, rw_oth e]
      exact h.2.2.1 x hx
  · rw [rf_u_n (by decide), rf_u_s]
    by_cases e : y = k % n
    · rw [e, pk_us, cl_put hk]
    · rw [pk_un e, cl_oth hy e]
      exact h.2.2.2.1 y hy
  · rw [rf_u_n (by decide), rf_u_n (by decide), rf_u_n (by decide)]
    exact h.2.2.2.2 q hq
theorem FiS.bk {n : Nat} {T : Nat → Option Nat} {k v : Nat} {c : Nat → Nat} {g : Nat → Int32} {A : Nat → Nat → Int32} (hs : FiS n T (k + 1) (upN c k v) g A) (hk : k < n * n) (hn : 0 < n) (hn6 : n ≤ 6) (hv : v < n) (hl : PLat n c k) (hf : frB n c k v = true) : FiS n T k c g (rf_u (rf_u A 23 (upd (A 23) (k / n) (nI (rwM n (upN c k v) (k + 1) (k / n) &&& (1 * 2 ^ v ^^^ 4294967295))))) 24 (upd (A 24) (k % n) (nI (clM n (upN c k v) (k + 1) (k % n) &&& (1 * 2 ^ v ^^^ 4294967295))))) := by
  unfold frB at hf
  rw [Bool.and_eq_true, Bool.not_eq_true', Bool.not_eq_true'] at hf
  refine ⟨hs.1, fun q hq => ?_, fun x hx => ?_, fun y hy => ?_, fun q hq => ?_⟩
  · rw [rf_u_n (by decide), rf_u_n (by decide), hs.2.1 q (by omega), upN_n (by omega)]
  · rw [rf_u_n (by decide), rf_u_s]
    by_cases e : x = k / n
    · rw [e, pk_us, rw_put hn, un_mark _ (rw_64 hn6 hl.1) v (by omega) hf.1]
    · rw [pk_un e, hs.2.2.1 x hx, rw_oth e]
  · rw [rf_u_s]
    by_cases e : y = k % n
    · rw [e, pk_us, cl_put hk, un_mark _ (cl_64 hn6 hl.1) v (by omega) hf.2]
    · rw [pk_un e, hs.2.2.2.1 y hy, cl_oth hy e]
  · rw [rf_u_n (by decide), rf_u_n (by decide)]
    exact hs.2.2.2.2 q hq
theorem FiO.ap {s : Option Nat} {m : Nat} {l r : List (Nat → Nat)} {n : Nat} {g' : Nat → Int32} {A' : Nat → Nat → Int32} (hm : ∀ t, s = some t → m + l.length < t) (h : FiO s (m + l.length) r n g' A') : FiO s m (l ++ r) n g' A' := by
  refine ⟨by rw [h.1, List.length_append, Nat.add_assoc], fun t ht hle q hq => ?_⟩
  rw [List.length_append, ← Nat.add_assoc] at hle
  have h1 := hm t ht
  rw [h.2 t ht hle q hq, List.getD_eq_getElem?_getD, List.getD_eq_getElem?_getD, List.getElem?_append_right (by omega), show t - m - 1 - l.length = t - (m + l.length) - 1 by omega]
theorem FiO.nil {s : Option Nat} {m : Nat} {n : Nat} {g' : Nat → Int32} {A' : Nat → Nat → Int32} {L : Nat} (hc : capO s m L) (h : g' 44 = nI m) : FiO s m [] n g' A' := by
  refine ⟨?_, fun t ht hle => ?_⟩
  · rw [h, List.length_nil, Nat.add_zero]
    cases s with
    | none => rfl
    | some t => have h1 : m < t := hc.1; unfold capN; dsimp only; rw [show min t m = m by omega]
  · subst ht
    have := hc.1
    rw [List.length_nil] at hle
    omega
/-- reached: what comes behind doesn't count -/
theorem FiO.full {s : Option Nat} {m : Nat} {l : List (Nat → Nat)} {n : Nat} {g' : Nat → Int32} {A' : Nat → Nat → Int32} (r : List (Nat → Nat)) (h : FiO s m l n g' A') {L : Nat} (hc : capO s m L) (hs : s = some (capN s (m + l.length))) : FiO s m (l ++ r) n g' A' := by
  cases s with
  | none => cases hs
  | some t =>
    have ht : t = min t (m + l.length) := Option.some.inj hs
    have h1 : m < t := hc.1
    refine ⟨?_, fun u hu hle q hq => ?_⟩
    · rw [h.1]
      unfold capN
      dsimp only
      rw [List.length_append, ← ht, show min t (m + (l.length + r.length)) = t by omega]
    · have hu : t = u := Option.some.inj hu
      subst hu
      rw [h.2 t rfl (by omega) q hq, List.getD_eq_getElem?_getD, List.getD_eq_getElem?_getD, List.getElem?_append_left (by omega)]
theorem cap_lt {s : Option Nat} {m L x : Nat} (hc : capO s m L) (hs : ¬ s = some (capN s x)) : capN s x = x ∧ ∀ t, s = some t → x < t := by
  cases s with
  | none => exact ⟨rfl, fun t e => by cases e⟩
  | some t =>
    have h1 : ¬ t = min t x := fun e => hs (congrArg some e)
    refine ⟨?_, fun u e => ?_⟩
    · show min t x = x
      omega
    · cases e
      omega
theorem cap_le {s : Option Nat} {m L x : Nat} (hc : capO s m L) (hx : x ≤ m + L) : capN s x ≤ 100000 := by
  cases s with
  | none => have : m + L ≤ 100000 := hc; show x ≤ 100000; omega
  | some t => have := hc.2; show min t x ≤ 100000; omega
