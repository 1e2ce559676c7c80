/-! How many loops with unit 0 there are: reckoned; printed by wip/whole/gen_c19.py. -/
noncomputable def qS (t : Nat → Nat) (n : Nat) : Nat := Nat.rec (motive := fun _ => Nat) 0 (fun v acc => Nat.add acc (t v)) n
theorem qS_SM (t : Nat → Nat) : ∀ n, qS t n = SM t n
  | 0 => rfl
  | n + 1 => by
    show qS t n + t n = SM t n + t n
    rw [qS_SM t n]
noncomputable def qC (n F : Nat) : Nat → Nat → Nat → Nat → Nat := Nat.rec (motive := fun _ => Nat → Nat → Nat → Nat → Nat) (fun _ _ _ _ => 0) (fun _ ih x y r C => cond (Nat.ble n x) 1 (qS (fun v => cond (Nat.beq (Nat.land (Nat.shiftRight (Nat.lor r (Nat.shiftRight C (Nat.mul 8 y))) v) 1) 0) (cond (Nat.beq (Nat.succ y) n) (ih (Nat.succ x) 1 (Nat.pow 2 (Nat.succ x)) (Nat.lor C (Nat.pow 2 (Nat.add (Nat.mul 8 y) v)))) (ih x (Nat.succ y) (Nat.lor r (Nat.pow 2 v)) (Nat.lor C (Nat.pow 2 (Nat.add (Nat.mul 8 y) v))))) 0) n)) F
theorem qC_l {n F y r C : Nat} : qC n (F + 1) n y r C = 1 := by
  show cond (Nat.ble n n) 1 _ = 1
  rw [Nat.ble_eq_true_of_le (Nat.le_refl n)]
  rfl
theorem qC_s {n F x y r C : Nat} (hx : x < n) : qC n (F + 1) x y r C = SM (fun v => if (r ||| (C >>> (8 * y))).testBit v = false then (if y + 1 = n then qC n F (x + 1) 1 (2 ^ (x + 1)) (C ||| 2 ^ (8 * y + v)) else qC n F x (y + 1) (r ||| 2 ^ v) (C ||| 2 ^ (8 * y + v))) else 0) n := by
  have hb : Nat.ble n x = false := by
    cases e : Nat.ble n x
    · rfl
    · have := Nat.le_of_ble_eq_true e
      omega
  show cond (Nat.ble n x) 1 _ = _
  rw [hb]
  show qS _ n = _
  rw [qS_SM]
  refine SM_c (fun v _ => ?_)
  have e1 : Nat.beq (Nat.land (Nat.shiftRight (Nat.lor r (Nat.shiftRight C (Nat.mul 8 y))) v) 1) 0 = !(r ||| (C >>> (8 * y))).testBit v := by
    have hq : Nat.land (Nat.shiftRight (Nat.lor r (Nat.shiftRight C (Nat.mul 8 y))) v) 1 = (r ||| (C >>> (8 * y))) >>> v &&& 1 := rfl
    rw [hq]
    have ht : (r ||| (C >>> (8 * y))).testBit v = (1 &&& ((r ||| (C >>> (8 * y))) >>> v) != 0) := rfl
    rw [ht, Nat.and_comm]
    cases h : (1 &&& ((r ||| (C >>> (8 * y))) >>> v)) with
    | zero => rfl
    | succ k => rfl
  rw [e1]
  have e2 : Nat.beq (Nat.succ y) n = decide (y + 1 = n) := by
    by_cases h : y + 1 = n
    · rw [decide_eq_true h]
      subst h
      exact Nat.beq_refl _
    · rw [decide_eq_false h]
      cases q : Nat.beq (Nat.succ y) n
      · rfl
      · exact absurd (Nat.eq_of_beq_eq_true q) h
  rw [e2]
  cases (r ||| (C >>> (8 * y))).testBit v
  · rw [if_pos rfl]
    by_cases h : y + 1 = n
    · rw [decide_eq_true h, if_pos h]
      rfl
    · rw [decide_eq_false h, if_neg h]
      rfl
  · rfl
theorem q_cnt {n : Nat} (hn6 : n ≤ 6) (hn : 0 < n) : ∀ (F f x y : Nat) (c : Nat → Nat) (r C : Nat), n * x + y + f = n * n → f + 1 ≤ F → 1 ≤ x → x < n → 1 ≤ y → y < n → r = rwM n c (n * x + y) x → (∀ z v, 1 ≤ z → z < n → v < 8 → C.testBit (8 * z + v) = (clM n c (n * x + y) z).testBit v) → PLat n c (n * x + y) → (∀ q u, q < n * x + y → T00 n q = some u → c q = u) → (flL n (T00 n) f (n * x + y) c).length = qC n F x y r C
  | 0, f, x, y, c, r, C, hk, hF, hx1, hx, hy1, hy, hr, hC, hl, ht => by omega
  | F + 1, f, x, y, c, r, C, hk, hF, hx1, hx, hy1, hy, hr, hC, hl, ht => by
    have hlt := cu_lt hx hy
    obtain ⟨f1, rfl⟩ : ∃ f1, f = f1 + 1 := ⟨f - 1, by omega⟩
    rw [qC_s hx, flL_s]
    unfold flV
    rw [fm_ln]
    refine SM_c (fun v hv => ?_)
    have htd : tdB (T00 n) (n * x + y) v = true := td_n (T0_in hx hy hx1 hy1)
    have hbit : ((r ||| (C >>> (8 * y))).testBit v = false) ↔ frB n c (n * x + y) v = true := by
      rw [Nat.testBit_or, Nat.testBit_shiftRight, hC y v hy1 hy (by omega), hr]
      unfold frB
      rw [dm_d hy, dm_m hy]
      cases (rwM n c (n * x + y) x).testBit v <;> cases (clM n c (n * x + y) y).testBit v <;> simp
    by_cases hfr : frB n c (n * x + y) v = true
    · rw [if_pos (hbit.mpr hfr), flX_t htd hfr]
      have hl1 := hl.s hlt hv hfr
      have hag : ∀ q u, q < n * x + y + 1 → T00 n q = some u → upN c (n * x + y) v q = u := fun q u hq hq2 => by
        by_cases e : q = n * x + y
        · rw [e, T0_in hx hy hx1 hy1] at hq2
          cases hq2
        · rw [upN_n e]
          exact ht q u (by omega) hq2
      have hC1 : ∀ z w, 1 ≤ z → z < n → w < 8 → (C ||| 2 ^ (8 * y + v)).testBit (8 * z + w) = (clM n (upN c (n * x + y) v) (n * x + y + 1) z).testBit w := fun z w hz1 hz hw => by
        rw [Nat.testBit_or, hC z w hz1 hz hw, Nat.testBit_two_pow]
        by_cases e : z = y
        · have hp := cl_put (c := c) (v := v) hlt
          rw [dm_m hy] at hp
          rw [e, hp, Nat.testBit_or, Nat.one_mul, Nat.testBit_two_pow]
          congr 1
          rw [Bool.eq_iff_iff, decide_eq_true_iff, decide_eq_true_iff]
          omega
        · rw [cl_oth hz (by rw [dm_m hy]; exact e), decide_eq_false (by omega), Bool.or_false]
      by_cases hye : y + 1 = n
      · rw [if_pos hye]
        have ek : n * x + y + 1 = n * (x + 1) := by rw [Nat.mul_succ]; omega
        by_cases hxe : x + 1 = n
        · have ef : f1 = 0 := by rw [hxe] at ek; omega
          subst ef
          obtain ⟨F1, rfl⟩ : ∃ F1, F = F1 + 1 := ⟨F - 1, by omega⟩
          rw [hxe, qC_l]
          rfl
        · obtain ⟨f2, rfl⟩ : ∃ f2, f1 = f2 + 1 := ⟨f1 - 1, by
            have : n * (x + 1) + n ≤ n * n := by rw [← Nat.mul_succ]; exact Nat.mul_le_mul_left n (by omega)
            omega⟩
          have hx2 : x + 1 < n := by omega
          rw [ek] at hl1 hC1 ⊢
          have hag2 : ∀ q u, q < n * (x + 1) → T00 n q = some u → upN c (n * x + y) v q = u := fun q u hq hq2 => hag q u (by omega) hq2
          have hfc := fr_col (c := upN c (n * x + y) v) hn hx2 hag2
          have hT := T0_col (n := n) hx2 hn
          rw [flL_td hx2 hT hfc]
          refine q_cnt hn6 hn F f2 (x + 1) 1 _ _ _ (by omega) (by omega) (by omega) hx2 (Nat.le_refl _) (by omega) ?_ (fun z w hz1 hz hw => ?_) (hl1.s (by have := cu_lt hx2 hn; omega) hx2 hfc) (fun q u hq hq2 => ?_)
          · rw [rw_new hn, Nat.one_mul]
          · rw [hC1 z w hz1 hz hw, cl_oth hz (by rw [Nat.mul_mod_right]; omega)]
          · by_cases e : q = n * (x + 1)
            · rw [e, upN_s]
              rw [e, hT] at hq2
              exact Option.some.inj hq2
            · rw [upN_n e]
              exact hag2 q u (by omega) hq2
      · rw [if_neg hye]
        refine q_cnt hn6 hn F f1 x (y + 1) _ _ _ (by omega) (by omega) hx1 hx (by omega) (by omega) ?_ hC1 hl1 hag
        have hrw := rw_put (n := n) (c := c) (k := n * x + y) (v := v) hn
        rw [dm_d hy] at hrw
        rw [show n * x + (y + 1) = n * x + y + 1 from rfl, hrw, hr, Nat.one_mul]
    · rw [if_neg (fun e => hfr (hbit.mp e)), flX_f (fun h => hfr h.2)]
      rfl
def qM (n : Nat) : Nat := SM (fun y => 2 ^ (8 * y + y)) n
theorem q_6 : qC 6 40 1 1 2 (qM 6) = 9408 := by decide +kernel
theorem q_5 : qC 5 40 1 1 2 (qM 5) = 56 := by decide +kernel
theorem q_4 : qC 4 40 1 1 2 (qM 4) = 4 := by decide +kernel
theorem q_3 : qC 3 40 1 1 2 (qM 3) = 1 := by decide +kernel
theorem q_2 : qC 2 40 1 1 2 (qM 2) = 1 := by decide +kernel
theorem qM_bit : ∀ n, n < 7 → ∀ z, z < n → ∀ v, v < 8 → (qM n).testBit (8 * z + v) = decide (v = z) := by decide +kernel
theorem fl_9408 {n : Nat} (hn6 : n ≤ 6) (hn : 0 < n) : (flA n (T00 n)).length ≤ 9408 := by
  by_cases h2 : 2 ≤ n
  · have hnn : n + 1 ≤ n * n := by
      have := Nat.mul_le_mul_left n h2
      omega
    have h36 := Nat.mul_le_mul hn6 hn6
    obtain ⟨f, hf⟩ : ∃ f, n + 1 + f = n * n := ⟨n * n - (n + 1), by omega⟩
    have hfl : flA n (T00 n) = flL n (T00 n) f (n + 1) (mixC (h00 n) (n + 1)) := fl_preL hn (n + 1) f hf (h00_p h2) (h00_T h2)
    have hmul : n * 1 + 1 = n + 1 := by rw [Nat.mul_one]
    have hc1 : ∀ q, q < n → mixC (h00 n) (n + 1) q = q := fun q hq => by rw [mixC_l (by omega)]; exact if_pos hq
    have hr2 : rwM n (mixC (h00 n) (n + 1)) (n * 1 + 1) 1 = 2 := by
      rw [← mixC_s, show h00 n n = 1 from by unfold h00; rw [if_neg (by omega), Nat.div_self hn]]
      have := rw_new (n := n) (x := 1) (c := mixC (h00 n) n) (v := 1) hn
      rw [Nat.mul_one] at this ⊢
      rw [this]
    have hq := q_cnt hn6 hn 40 f 1 1 (mixC (h00 n) (n + 1)) 2 (qM n) (by omega) (by omega) (Nat.le_refl _) (by omega) (Nat.le_refl _) (by omega) hr2.symm (fun z v hz1 hz hv => by
      rw [hmul, cl_00 hz1 hz (hc1 z hz), qM_bit n (by omega) z hz v hv, Nat.one_mul, Nat.testBit_two_pow, Bool.eq_iff_iff, decide_eq_true_iff, decide_eq_true_iff]
      exact ⟨Eq.symm, Eq.symm⟩) (by rw [hmul]; exact (h00_p h2).cg (fun q hq => mixC_l hq)) (fun q u hq hq2 => by
      rw [hmul] at hq
      rw [mixC_l hq]
      rw [h00_T h2 q hq] at hq2
      exact Option.some.inj hq2)
    rw [hmul] at hq
    rw [hfl, hq]
    have hn5 : n = 2 ∨ n = 3 ∨ n = 4 ∨ n = 5 ∨ n = 6 := by omega
    rcases hn5 with rfl | rfl | rfl | rfl | rfl
    · rw [q_2]; decide
    · rw [q_3]; decide
    · rw [q_4]; decide
    · rw [q_5]; decide
    · rw [q_6]; decide
  · have h1n : n = 1 := by omega
    subst h1n
    decide
