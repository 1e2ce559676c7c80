/-! Rows that are filled cell by cell. -/
/-- of a row that is filled by f at the places I u v: all u below x, and of u = x all v below y -/
def ScP (f : Nat → Int32) (I : Nat → Nat → Nat) (n x y : Nat) (w : Nat → Int32) : Prop := (∀ u v, u < x → v < n → w (I u v) = f (I u v)) ∧ ∀ v, v < y → w (I x v) = f (I x v)
theorem sc_0 {f : Nat → Int32} {I : Nat → Nat → Nat} {n : Nat} {w : Nat → Int32} : ScP f I n 0 0 w := ⟨fun u _ h => absurd h (Nat.not_lt_zero u), fun v h => absurd h (Nat.not_lt_zero v)⟩
theorem sc_k {f w : Nat → Int32} {k q : Nat} {z : Int32} (e : z = f k) (h : w q = f q) : upd w k z q = f q := by
  by_cases hq : q = k
  · subst hq
    rw [pk_us, e]
  · rw [pk_un hq, h]
theorem sc_n {f w : Nat → Int32} {k : Nat} {z : Int32} (e : z = f k) : upd w k z k = f k := by rw [pk_us, e]
theorem sc_in {f : Nat → Int32} {I : Nat → Nat → Nat} {n x y k : Nat} {w : Nat → Int32} {z : Int32} (h : ScP f I n x y w) (hk : k = I x y) (e : z = f k) : ScP f I n x (y + 1) (upd w k z) := by
  subst hk
  refine ⟨fun u v hu hv => sc_k e (h.1 u v hu hv), fun v hv => ?_⟩
  rcases Nat.lt_succ_iff_lt_or_eq.mp hv with q | q
  · exact sc_k e (h.2 v q)
  · subst q
    exact sc_n e
theorem sc_out {f : Nat → Int32} {I : Nat → Nat → Nat} {n x : Nat} {w : Nat → Int32} (h : ScP f I n x n w) : ScP f I n (x + 1) 0 w := by
  refine ⟨fun u v hu hv => ?_, fun v hv => absurd hv (Nat.not_lt_zero v)⟩
  rcases Nat.lt_succ_iff_lt_or_eq.mp hu with q | q
  · exact h.1 u v q hv
  · subst q
    exact h.2 v hv
theorem sc_all {f : Nat → Int32} {I : Nat → Nat → Nat} {n m : Nat} {w : Nat → Int32} (h : ScP f I n n 0 w) (hon : ∀ q, q < m → ∃ x y, x < n ∧ y < n ∧ I x y = q) : ∀ q, q < m → w q = f q := by
  intro q hq
  obtain ⟨x, y, hx, hy, e⟩ := hon q hq
  rw [← e]
  exact h.1 x y hx hy
theorem sc_rm {n : Nat} : ∀ q, q < n * n → ∃ x y, x < n ∧ y < n ∧ n * x + y = q := fun q hq => ⟨q / n, q % n, dm_dl hq, dm_ml hq, dm_q⟩
/-- a table was laid into made -/
def mkR (g : Nat → Int32) (A : Nat → Nat → Int32) (m : Nat) (t : Nat → Nat) : Option Value → (Nat → Int32) → (Nat → Nat → Int32) → Prop := fun r g' A' => r = none ∧ g' = upd g 8 (nI m) ∧ ∃ w, A' = rf_u A 5 w ∧ ∀ q, q < m * m → w q = nI (t q)
/-- a table was made at d -/
def mkC (d : Nat) (S : CS) (G : Nat → Nat → Value) (B : Nat → Nat → Int32) (J : Nat → Nat → Int64) (R : Nat → Nat → Option Nat) (m : Nat) (t : Nat → Nat) : CQ := fun r S' G' B' J' R' => r = none ∧ S' = S ∧ G' = up2 G d 0 (.int (nI m)) ∧ J' = J ∧ R' = R ∧ ∃ w, B' = upr B (d + 1) w ∧ ∀ q, q < m * m → w q = nI (t q)
theorem TabAt.up {S : CS} {G : Nat → Nat → Value} {a d : Nat} {v : Value} (h : TabAt S G a) : TabAt S (up2 G d 0 v) a := ⟨h.1, h.2.1, h.2.2.1, h.2.2.2.1, by rw [up2_n (fun e => absurd e.2 (by decide))]; exact h.2.2.2.2⟩
theorem TabC.up {B : Nat → Nat → Int32} {a d n : Nat} {c : Nat → Nat} {w : Nat → Int32} (hne : a ≠ d) (h : TabC B a n c) : TabC (upr B (d + 1) w) a n c := ⟨h.1, fun q hq => by rw [upr_n (show a + 1 ≠ d + 1 by omega)]; exact h.2 q hq⟩
theorem up2_0 {G : Nat → Nat → Value} {a d : Nat} {v x : Value} (hne : a ≠ d) (h : G a 0 = x) : up2 G d 0 v a 0 = x := by rw [up2_n (fun e => hne e.1)]; exact h
