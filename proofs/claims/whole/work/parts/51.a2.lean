/-! Parts, sets, nuclei: the class; printed by wip/whole/gen_a2.py. -/
def roF (n : Nat) (c : Nat → Nat) (x p y : Nat) : Nat := if p.testBit y = true then 1 * 2 ^ c (n * x + y) else 0
def roN (n : Nat) (c : Nat → Nat) (x p : Nat) : Nat := ORs (roF n c x p) n
theorem roN_lt {n : Nat} {c : Nat → Nat} {x p : Nat} (hc : ∀ q, q < n * n → c q < n) (hx : x < n) : roN n c x p < 2 ^ n := ORs_lt fun y hy => by
  unfold roF
  split
  · rw [Nat.one_mul]
    exact tw_lt (hc _ (cu_lt hx hy))
  · exact Nat.two_pow_pos n
theorem jn_row (n : Nat) (c : Nat → Nat) (s x : Nat) : ORs (jnf n c s x) n = if s.testBit x = true then roN n c x s else 0 := by
  by_cases h : s.testBit x = true
  · rw [if_pos h, roN]
    apply ORs_c
    intro i _
    unfold jnf roF
    by_cases h2 : s.testBit i = true
    · rw [if_pos ⟨h, h2⟩, if_pos h2]
    · rw [if_neg (fun e => h2 e.2), if_neg h2]
  · rw [if_neg h]
    have : ∀ m, ORs (jnf n c s x) m = 0 := by
      intro m
      induction m with
      | zero => rfl
      | succ m ih => rw [ORs_s, ih, jnf, if_neg (fun e => h e.1)]; rfl
    exact this n
theorem k_rowOf {S : CS} {G : Nat → Nat → Value} {B : Nat → Nat → Int32} {J : Nat → Nat → Int64} {R : Nat → Nat → Option Nat} {a n : Nat} (ht : TabAt S G a) (hn : G a 0 = .int (nI n)) {c : Nat → Nat} (hc : TabC B a n c) {x p : Nat} (hx : x < n) (hp : p < 2 ^ 31) : CR 1 49 0 [some (.ref a), some (.int (nI x)), some (.int (nI p)), none, none] [] S G B J R (cP (some (.int (nI (roN n c x p)))) S G B J R) := by
  have hn6 := hc.1
  refine cn_ic (v := 0) d_49_0 (by decide) ?_
  refine cr_nx (pc' := 2) (al' := [some (.ref a), some (.int (nI x)), some (.int (nI p)), some (.int (nI 0)), none]) (st' := []) d_49_1 (fun _ => rfl) ?_
  refine cn_ic (v := 0) d_49_2 (by decide) ?_
  refine cr_nx (pc' := 5) (al' := [some (.ref a), some (.int (nI x)), some (.int (nI p)), some (.int (nI 0)), some (.int (nI 0))]) (st' := []) d_49_3 (fun _ => rfl) ?_
  refine cr_al (congrArg (fun z__ : Nat => ([some (.ref a), some (.int (nI x)), some (.int (nI p)), some (.int (nI z__)), some (.int (nI 0))] : AL)) (show 0 = ORs (roF n c x p) 0 by first | rfl | omega | (simp only [SM_s]; omega) | (simp [SM_s, *]; done) | (simp [SM_s, *]; omega))) ?_
  refine cr_up (al := fun y => [some (.ref a), some (.int (nI x)), some (.int (nI p)), some (.int (nI (ORs (roF n c x p) y))), some (.int (nI y))]) (S := fun y => S) (G := fun y => G) (B := fun y => B) (J := fun y => J) (R := fun y => R) (P := fun y => True) (n := n) (fun y hy py ihy => ?_) (fun py => ?_) 0  (by omega) (trivial)
  · show CR _ _ 5 [some (.ref a), some (.int (nI x)), some (.int (nI p)), some (.int (nI (ORs (roF n c x p) y))), some (.int (nI y))] [] S G B J R _
    refine cr_nx (pc' := 7) (al' := [some (.ref a), some (.int (nI x)), some (.int (nI p)), some (.int (nI (ORs (roF n c x p) y))), some (.int (nI y))]) (st' := [.int (nI y)]) d_49_5 (fun _ => rfl) ?_
    refine cr_nx (pc' := 8) (al' := [some (.ref a), some (.int (nI x)), some (.int (nI p)), some (.int (nI (ORs (roF n c x p) y))), some (.int (nI y))]) (st' := [.ref a, .int (nI y)]) d_49_7 (fun _ => rfl) ?_
    refine cr_gf (v := .int (nI n)) d_49_8 cw_49 cf_7_21 ht.1 ht.2.2.1 (by decide) hn ?_
    refine cn_cge (t := 41) d_49_11 (by decide) (by first | omega | assumption | exact cu_36 (by omega) (cu_lt (by omega) (by omega))) (by first | omega | assumption | exact cu_36 (by omega) (cu_lt (by omega) (by omega))) (fun c11 => ?_) (fun c11 => ?_)
    · omega
    · refine cr_nx (pc' := 15) (al' := [some (.ref a), some (.int (nI x)), some (.int (nI p)), some (.int (nI (ORs (roF n c x p) y))), some (.int (nI y))]) (st' := [.int (nI p)]) d_49_14 (fun _ => rfl) ?_
      refine cr_nx (pc' := 17) (al' := [some (.ref a), some (.int (nI x)), some (.int (nI p)), some (.int (nI (ORs (roF n c x p) y))), some (.int (nI y))]) (st' := [.int (nI y), .int (nI p)]) d_49_15 (fun _ => rfl) ?_
      refine cn_shr d_49_17 (by first | omega | assumption | exact cu_36 (by omega) (cu_lt (by omega) (by omega))) (by first | omega | assumption | exact cu_36 (by omega) (cu_lt (by omega) (by omega))) ?_
      refine cn_ic (v := 1) d_49_18 (by decide) ?_
      refine cn_and d_49_19 ?_
      refine cn_ieq (t := 35) d_49_20 (by decide) (by have := bt_lt p y; omega) (fun c20 => ?_) (fun c20 => ?_)
      · refine cn_inc d_49_35 rfl rfl ?_
        show CR _ _ 38 [some (.ref a), some (.int (nI x)), some (.int (nI p)), some (.int (nI (ORs (roF n c x p) y))), some (.int (nI (y + 1)))] [] S G B J R _
        refine cr_nx (pc' := 5) (al' := [some (.ref a), some (.int (nI x)), some (.int (nI p)), some (.int (nI (ORs (roF n c x p) y))), some (.int (nI (y + 1)))]) (st' := []) d_49_38 (fun _ => rfl) ?_
        refine cr_al (congrArg (fun z__ : Nat => ([some (.ref a), some (.int (nI x)), some (.int (nI p)), some (.int (nI z__)), some (.int (nI (y + 1)))] : AL)) (show ORs (roF n c x p) y = ORs (roF n c x p) (y + 1) by first | (rw [ORs_s, roF, if_pos (bt_p0.mp c20)]) | (rw [ORs_s, roF, if_neg (by rw [bt_e0.mp c20]; exact Bool.false_ne_true), Nat.or_zero]))) ?_
        exact ihy  (trivial)
      · refine cr_nx (pc' := 24) (al' := [some (.ref a), some (.int (nI x)), some (.int (nI p)), some (.int (nI (ORs (roF n c x p) y))), some (.int (nI y))]) (st' := [.int (nI (ORs (roF n c x p) y))]) d_49_23 (fun _ => rfl) ?_
        refine cn_ic (v := 1) d_49_24 (by decide) ?_
        refine cr_nx (pc' := 26) (al' := [some (.ref a), some (.int (nI x)), some (.int (nI p)), some (.int (nI (ORs (roF n c x p) y))), some (.int (nI y))]) (st' := [.ref a, .int (nI 1), .int (nI (ORs (roF n c x p) y))]) d_49_25 (fun _ => rfl) ?_
        refine cr_nx (pc' := 27) (al' := [some (.ref a), some (.int (nI x)), some (.int (nI p)), some (.int (nI (ORs (roF n c x p) y))), some (.int (nI y))]) (st' := [.int (nI x), .ref a, .int (nI 1), .int (nI (ORs (roF n c x p) y))]) d_49_26 (fun _ => rfl) ?_
        refine cr_nx (pc' := 29) (al' := [some (.ref a), some (.int (nI x)), some (.int (nI p)), some (.int (nI (ORs (roF n c x p) y))), some (.int (nI y))]) (st' := [.int (nI y), .int (nI x), .ref a, .int (nI 1), .int (nI (ORs (roF n c x p) y))]) d_49_27 (fun _ => rfl) ?_
        refine cr_pv (b := a) (as := [.int (nI x), .int (nI y)]) (al0 := [some (.ref a), some (.int (nI x)), some (.int (nI y))]) (r := [.int (nI 1), .int (nI (ORs (roF n c x p) y))]) d_49_29 cw_49 cm_7_29 cz_91 rfl rfl ht.1 (by rw [cw_91]; exact ht.2.2.1) (by rw [cw_91]; decide) rfl (Nat.le_of_ble_eq_true rfl) (k_times ht hn hc (by omega) (by omega)) ?_
        show CR _ _ 32 [some (.ref a), some (.int (nI x)), some (.int (nI p)), some (.int (nI (ORs (roF n c x p) y))), some (.int (nI y))] [.int (nI (c (n * x + y))), .int (nI 1), .int (nI (ORs (roF n c x p) y))] S G B J R _
        have b29 : c (n * x + y) < n := (hc.2 _ (cu_lt (by omega) (by omega))).2
        refine cn_shl d_49_32 (by first | omega | assumption | exact cu_36 (by omega) (cu_lt (by omega) (by omega))) ?_
        refine cn_or d_49_33 ?_
        refine cr_nx (pc' := 35) (al' := [some (.ref a), some (.int (nI x)), some (.int (nI p)), some (.int (nI ((ORs (roF n c x p) y) ||| (1 * 2 ^ (c (n * x + y)))))), some (.int (nI y))]) (st' := []) d_49_34 (fun _ => rfl) ?_
        refine cn_inc d_49_35 rfl rfl ?_
        show CR _ _ 38 [some (.ref a), some (.int (nI x)), some (.int (nI p)), some (.int (nI ((ORs (roF n c x p) y) ||| (1 * 2 ^ (c (n * x + y)))))), some (.int (nI (y + 1)))] [] S G B J R _
        refine cr_nx (pc' := 5) (al' := [some (.ref a), some (.int (nI x)), some (.int (nI p)), some (.int (nI ((ORs (roF n c x p) y) ||| (1 * 2 ^ (c (n * x + y)))))), some (.int (nI (y + 1)))]) (st' := []) d_49_38 (fun _ => rfl) ?_
        refine cr_al (congrArg (fun z__ : Nat => ([some (.ref a), some (.int (nI x)), some (.int (nI p)), some (.int (nI z__)), some (.int (nI (y + 1)))] : AL)) (show (ORs (roF n c x p) y) ||| (1 * 2 ^ (c (n * x + y))) = ORs (roF n c x p) (y + 1) by first | (rw [ORs_s, roF, if_pos (bt_p0.mp c20)]) | (rw [ORs_s, roF, if_neg (by rw [bt_e0.mp c20]; exact Bool.false_ne_true), Nat.or_zero]))) ?_
        exact ihy  (trivial)
  · show CR _ _ 5 [some (.ref a), some (.int (nI x)), some (.int (nI p)), some (.int (nI (ORs (roF n c x p) n))), some (.int (nI n))] [] S G B J R _
    refine cr_nx (pc' := 7) (al' := [some (.ref a), some (.int (nI x)), some (.int (nI p)), some (.int (nI (ORs (roF n c x p) n))), some (.int (nI n))]) (st' := [.int (nI n)]) d_49_5 (fun _ => rfl) ?_
    refine cr_nx (pc' := 8) (al' := [some (.ref a), some (.int (nI x)), some (.int (nI p)), some (.int (nI (ORs (roF n c x p) n))), some (.int (nI n))]) (st' := [.ref a, .int (nI n)]) d_49_7 (fun _ => rfl) ?_
    refine cr_gf (v := .int (nI n)) d_49_8 cw_49 cf_7_21 ht.1 ht.2.2.1 (by decide) hn ?_
    refine cn_cge (t := 41) d_49_11 (by decide) (by first | omega | assumption | exact cu_36 (by omega) (cu_lt (by omega) (by omega))) (by first | omega | assumption | exact cu_36 (by omega) (cu_lt (by omega) (by omega))) (fun c11 => ?_) (fun c11 => ?_)
    · refine cr_nx (pc' := 42) (al' := [some (.ref a), some (.int (nI x)), some (.int (nI p)), some (.int (nI (ORs (roF n c x p) n))), some (.int (nI n))]) (st' := [.int (nI (ORs (roF n c x p) n))]) d_49_41 (fun _ => rfl) ?_
      exact cr_ri d_49_42 cx_49 rfl ⟨rfl, rfl, rfl, rfl, rfl, rfl⟩
    · omega
theorem k_joinedTo {S : CS} {G : Nat → Nat → Value} {B : Nat → Nat → Int32} {J : Nat → Nat → Int64} {R : Nat → Nat → Option Nat} {a n : Nat} (ht : TabAt S G a) (hn : G a 0 = .int (nI n)) {c : Nat → Nat} (hc : TabC B a n c) {p : Nat} (hp : p < 2 ^ 31) : CR 2 48 0 [some (.ref a), some (.int (nI p)), none, none] [] S G B J R (cP (some (.int (nI (jnS n c p)))) S G B J R) := by
  have hn6 := hc.1
  refine cr_nx (pc' := 1) (al' := [some (.ref a), some (.int (nI p)), none, none]) (st' := [.int (nI p)]) d_48_0 (fun _ => rfl) ?_
  refine cr_nx (pc' := 2) (al' := [some (.ref a), some (.int (nI p)), some (.int (nI p)), none]) (st' := []) d_48_1 (fun _ => rfl) ?_
  refine cn_ic (v := 0) d_48_2 (by decide) ?_
  refine cr_nx (pc' := 4) (al' := [some (.ref a), some (.int (nI p)), some (.int (nI p)), some (.int (nI 0))]) (st' := []) d_48_3 (fun _ => rfl) ?_
  refine cr_al (congrArg (fun z__ : Nat => ([some (.ref a), some (.int (nI p)), some (.int (nI z__)), some (.int (nI 0))] : AL)) (show p = p ||| ORs (fun x => ORs (jnf n c p x) n) 0 by exact (Nat.or_zero _).symm)) ?_
  refine cr_up (al := fun x => [some (.ref a), some (.int (nI p)), some (.int (nI (p ||| ORs (fun x => ORs (jnf n c p x) n) x))), some (.int (nI x))]) (S := fun x => S) (G := fun x => G) (B := fun x => B) (J := fun x => J) (R := fun x => R) (P := fun x => True) (n := n) (fun x hx px ihx => ?_) (fun px => ?_) 0  (by omega) (trivial)
  · show CR _ _ 4 [some (.ref a), some (.int (nI p)), some (.int (nI (p ||| ORs (fun x => ORs (jnf n c p x) n) x))), some (.int (nI x))] [] S G B J R _
    refine cr_nx (pc' := 5) (al' := [some (.ref a), some (.int (nI p)), some (.int (nI (p ||| ORs (fun x => ORs (jnf n c p x) n) x))), some (.int (nI x))]) (st' := [.int (nI x)]) d_48_4 (fun _ => rfl) ?_
    refine cr_nx (pc' := 6) (al' := [some (.ref a), some (.int (nI p)), some (.int (nI (p ||| ORs (fun x => ORs (jnf n c p x) n) x))), some (.int (nI x))]) (st' := [.ref a, .int (nI x)]) d_48_5 (fun _ => rfl) ?_
    refine cr_gf (v := .int (nI n)) d_48_6 cw_48 cf_7_21 ht.1 ht.2.2.1 (by decide) hn ?_
    refine cn_cge (t := 35) d_48_9 (by decide) (by first | omega | assumption | exact cu_36 (by omega) (cu_lt (by omega) (by omega))) (by first | omega | assumption | exact cu_36 (by omega) (cu_lt (by omega) (by omega))) (fun c9 => ?_) (fun c9 => ?_)
    · omega
    · refine cr_nx (pc' := 13) (al' := [some (.ref a), some (.int (nI p)), some (.int (nI (p ||| ORs (fun x => ORs (jnf n c p x) n) x))), some (.int (nI x))]) (st' := [.int (nI p)]) d_48_12 (fun _ => rfl) ?_
      refine cr_nx (pc' := 14) (al' := [some (.ref a), some (.int (nI p)), some (.int (nI (p ||| ORs (fun x => ORs (jnf n c p x) n) x))), some (.int (nI x))]) (st' := [.int (nI x), .int (nI p)]) d_48_13 (fun _ => rfl) ?_
      refine cn_shr d_48_14 (by first | omega | assumption | exact cu_36 (by omega) (cu_lt (by omega) (by omega))) (by first | omega | assumption | exact cu_36 (by omega) (cu_lt (by omega) (by omega))) ?_
      refine cn_ic (v := 1) d_48_15 (by decide) ?_
      refine cn_and d_48_16 ?_
      refine cn_ieq (t := 29) d_48_17 (by decide) (by have := bt_lt p x; omega) (fun c17 => ?_) (fun c17 => ?_)
      · refine cn_inc d_48_29 rfl rfl ?_
        show CR _ _ 32 [some (.ref a), some (.int (nI p)), some (.int (nI (p ||| ORs (fun x => ORs (jnf n c p x) n) x))), some (.int (nI (x + 1)))] [] S G B J R _
        refine cr_nx (pc' := 4) (al' := [some (.ref a), some (.int (nI p)), some (.int (nI (p ||| ORs (fun x => ORs (jnf n c p x) n) x))), some (.int (nI (x + 1)))]) (st' := []) d_48_32 (fun _ => rfl) ?_
        refine cr_al (congrArg (fun z__ : Nat => ([some (.ref a), some (.int (nI p)), some (.int (nI z__)), some (.int (nI (x + 1)))] : AL)) (show p ||| ORs (fun x => ORs (jnf n c p x) n) x = p ||| ORs (fun x => ORs (jnf n c p x) n) (x + 1) by first | (rw [ORs_s, jn_row, if_pos (bt_p0.mp c17), Nat.or_assoc]) | (rw [ORs_s, jn_row, if_neg (by rw [bt_e0.mp c17]; exact Bool.false_ne_true), Nat.or_zero]))) ?_
        exact ihx  (trivial)
      · refine cr_nx (pc' := 21) (al' := [some (.ref a), some (.int (nI p)), some (.int (nI (p ||| ORs (fun x => ORs (jnf n c p x) n) x))), some (.int (nI x))]) (st' := [.int (nI (p ||| ORs (fun x => ORs (jnf n c p x) n) x))]) d_48_20 (fun _ => rfl) ?_
        refine cr_nx (pc' := 22) (al' := [some (.ref a), some (.int (nI p)), some (.int (nI (p ||| ORs (fun x => ORs (jnf n c p x) n) x))), some (.int (nI x))]) (st' := [.ref a, .int (nI (p ||| ORs (fun x => ORs (jnf n c p x) n) x))]) d_48_21 (fun _ => rfl) ?_
        refine cr_nx (pc' := 23) (al' := [some (.ref a), some (.int (nI p)), some (.int (nI (p ||| ORs (fun x => ORs (jnf n c p x) n) x))), some (.int (nI x))]) (st' := [.int (nI x), .ref a, .int (nI (p ||| ORs (fun x => ORs (jnf n c p x) n) x))]) d_48_22 (fun _ => rfl) ?_
        refine cr_nx (pc' := 24) (al' := [some (.ref a), some (.int (nI p)), some (.int (nI (p ||| ORs (fun x => ORs (jnf n c p x) n) x))), some (.int (nI x))]) (st' := [.int (nI p), .int (nI x), .ref a, .int (nI (p ||| ORs (fun x => ORs (jnf n c p x) n) x))]) d_48_23 (fun _ => rfl) ?_
        refine cr_ps (as := [.ref a, .int (nI x), .int (nI p)]) (al0 := [some (.ref a), some (.int (nI x)), some (.int (nI p)), none, none]) (r := [.int (nI (p ||| ORs (fun x => ORs (jnf n c p x) n) x))]) d_48_24 cw_48 cm_7_25 (by decide) cz_49 rfl rfl rfl (Nat.le_of_ble_eq_true rfl) (k_rowOf ht hn hc (by omega) (by first | omega | assumption | exact cu_36 (by omega) (cu_lt (by omega) (by omega)))) ?_
        show CR _ _ 27 [some (.ref a), some (.int (nI p)), some (.int (nI (p ||| ORs (fun x => ORs (jnf n c p x) n) x))), some (.int (nI x))] [.int (nI (roN n c x p)), .int (nI (p ||| ORs (fun x => ORs (jnf n c p x) n) x))] S G B J R _
        have b24 : roN n c x p < 64 := le_64 (by omega) (roN_lt (fun q hq => (hc.2 q hq).2) (by omega))
        refine cn_or d_48_27 ?_
        refine cr_nx (pc' := 29) (al' := [some (.ref a), some (.int (nI p)), some (.int (nI ((p ||| ORs (fun x => ORs (jnf n c p x) n) x) ||| (roN n c x p)))), some (.int (nI x))]) (st' := []) d_48_28 (fun _ => rfl) ?_
        refine cn_inc d_48_29 rfl rfl ?_
        show CR _ _ 32 [some (.ref a), some (.int (nI p)), some (.int (nI ((p ||| ORs (fun x => ORs (jnf n c p x) n) x) ||| (roN n c x p)))), some (.int (nI (x + 1)))] [] S G B J R _
        refine cr_nx (pc' := 4) (al' := [some (.ref a), some (.int (nI p)), some (.int (nI ((p ||| ORs (fun x => ORs (jnf n c p x) n) x) ||| (roN n c x p)))), some (.int (nI (x + 1)))]) (st' := []) d_48_32 (fun _ => rfl) ?_
        refine cr_al (congrArg (fun z__ : Nat => ([some (.ref a), some (.int (nI p)), some (.int (nI z__)), some (.int (nI (x + 1)))] : AL)) (show (p ||| ORs (fun x => ORs (jnf n c p x) n) x) ||| (roN n c x p) = p ||| ORs (fun x => ORs (jnf n c p x) n) (x + 1) by first | (rw [ORs_s, jn_row, if_pos (bt_p0.mp c17), Nat.or_assoc]) | (rw [ORs_s, jn_row, if_neg (by rw [bt_e0.mp c17]; exact Bool.false_ne_true), Nat.or_zero]))) ?_
        exact ihx  (trivial)
  · show CR _ _ 4 [some (.ref a), some (.int (nI p)), some (.int (nI (p ||| ORs (fun x => ORs (jnf n c p x) n) n))), some (.int (nI n))] [] S G B J R _
    refine cr_nx (pc' := 5) (al' := [some (.ref a), some (.int (nI p)), some (.int (nI (p ||| ORs (fun x => ORs (jnf n c p x) n) n))), some (.int (nI n))]) (st' := [.int (nI n)]) d_48_4 (fun _ => rfl) ?_
    refine cr_nx (pc' := 6) (al' := [some (.ref a), some (.int (nI p)), some (.int (nI (p ||| ORs (fun x => ORs (jnf n c p x) n) n))), some (.int (nI n))]) (st' := [.ref a, .int (nI n)]) d_48_5 (fun _ => rfl) ?_
    refine cr_gf (v := .int (nI n)) d_48_6 cw_48 cf_7_21 ht.1 ht.2.2.1 (by decide) hn ?_
    refine cn_cge (t := 35) d_48_9 (by decide) (by first | omega | assumption | exact cu_36 (by omega) (cu_lt (by omega) (by omega))) (by first | omega | assumption | exact cu_36 (by omega) (cu_lt (by omega) (by omega))) (fun c9 => ?_) (fun c9 => ?_)
    · refine cr_nx (pc' := 36) (al' := [some (.ref a), some (.int (nI p)), some (.int (nI (p ||| ORs (fun x => ORs (jnf n c p x) n) n))), some (.int (nI n))]) (st' := [.int (nI (p ||| ORs (fun x => ORs (jnf n c p x) n) n))]) d_48_35 (fun _ => rfl) ?_
      exact cr_ri d_48_36 cx_48 rfl ⟨rfl, rfl, rfl, rfl, rfl, rfl⟩
    · omega
theorem k_leastClosed {S : CS} {G : Nat → Nat → Value} {B : Nat → Nat → Int32} {J : Nat → Nat → Int64} {R : Nat → Nat → Option Nat} {a n : Nat} (ht : TabAt S G a) (hn : G a 0 = .int (nI n)) {c : Nat → Nat} (hc : TabC B a n c) {p : Nat} (hp : p < 2 ^ n) : CR 3 63 0 [some (.ref a), some (.int (nI p)), none, none] [] S G B J R (cP (some (.int (nI (clN n c p)))) S G B J R) := by
  have hn6 := hc.1
  refine cr_nx (pc' := 1) (al' := [some (.ref a), some (.int (nI p)), none, none]) (st' := [.int (nI p)]) d_63_0 (fun _ => rfl) ?_
  refine cr_nx (pc' := 2) (al' := [some (.ref a), some (.int (nI p)), some (.int (nI p)), none]) (st' := []) d_63_1 (fun _ => rfl) ?_
  refine cn_ic (v := 0) d_63_2 (by decide) ?_
  refine cr_nx (pc' := 4) (al' := [some (.ref a), some (.int (nI p)), some (.int (nI p)), some (.int (nI 0))]) (st' := []) d_63_3 (fun _ => rfl) ?_
  refine cr_al (congrArg (fun z__ : Nat => ([some (.ref a), some (.int (nI p)), some (.int (nI z__)), some (.int (nI 0))] : AL)) (show p = jnT n c p 0 by rfl)) ?_
  refine cr_up (al := fun i => [some (.ref a), some (.int (nI p)), some (.int (nI (jnT n c p i))), some (.int (nI i))]) (S := fun i => S) (G := fun i => G) (B := fun i => B) (J := fun i => J) (R := fun i => R) (P := fun i => True) (n := n) (fun i hi pi ihi => ?_) (fun pi => ?_) 0  (by omega) (trivial)
  · show CR _ _ 4 [some (.ref a), some (.int (nI p)), some (.int (nI (jnT n c p i))), some (.int (nI i))] [] S G B J R _
    have hti := le_64 hn6 (jnT_lt hn6 (fun q hq => (hc.2 q hq).2) hp i)
    refine cr_nx (pc' := 5) (al' := [some (.ref a), some (.int (nI p)), some (.int (nI (jnT n c p i))), some (.int (nI i))]) (st' := [.int (nI i)]) d_63_4 (fun _ => rfl) ?_
    refine cr_nx (pc' := 6) (al' := [some (.ref a), some (.int (nI p)), some (.int (nI (jnT n c p i))), some (.int (nI i))]) (st' := [.ref a, .int (nI i)]) d_63_5 (fun _ => rfl) ?_
    refine cr_gf (v := .int (nI n)) d_63_6 cw_63 cf_7_21 ht.1 ht.2.2.1 (by decide) hn ?_
    refine cn_cge (t := 24) d_63_9 (by decide) (by first | omega | assumption | exact cu_36 (by omega) (cu_lt (by omega) (by omega))) (by first | omega | assumption | exact cu_36 (by omega) (cu_lt (by omega) (by omega))) (fun c9 => ?_) (fun c9 => ?_)
    · omega
    · refine cr_nx (pc' := 13) (al' := [some (.ref a), some (.int (nI p)), some (.int (nI (jnT n c p i))), some (.int (nI i))]) (st' := [.ref a]) d_63_12 (fun _ => rfl) ?_
      refine cr_nx (pc' := 14) (al' := [some (.ref a), some (.int (nI p)), some (.int (nI (jnT n c p i))), some (.int (nI i))]) (st' := [.int (nI (jnT n c p i)), .ref a]) d_63_13 (fun _ => rfl) ?_
      refine cr_ps (as := [.ref a, .int (nI (jnT n c p i))]) (al0 := [some (.ref a), some (.int (nI (jnT n c p i))), none, none]) (r := []) d_63_14 cw_63 cm_7_15 (by decide) cz_48 rfl rfl rfl (Nat.le_of_ble_eq_true rfl) (k_joinedTo ht hn hc (by first | omega | assumption | exact cu_36 (by omega) (cu_lt (by omega) (by omega)))) ?_
      show CR _ _ 17 [some (.ref a), some (.int (nI p)), some (.int (nI (jnT n c p i))), some (.int (nI i))] [.int (nI (jnS n c (jnT n c p i)))] S G B J R _
      refine cr_nx (pc' := 18) (al' := [some (.ref a), some (.int (nI p)), some (.int (nI (jnS n c (jnT n c p i)))), some (.int (nI i))]) (st' := []) d_63_17 (fun _ => rfl) ?_
      refine cn_inc d_63_18 rfl rfl ?_
      show CR _ _ 21 [some (.ref a), some (.int (nI p)), some (.int (nI (jnS n c (jnT n c p i)))), some (.int (nI (i + 1)))] [] S G B J R _
      refine cr_nx (pc' := 4) (al' := [some (.ref a), some (.int (nI p)), some (.int (nI (jnS n c (jnT n c p i)))), some (.int (nI (i + 1)))]) (st' := []) d_63_21 (fun _ => rfl) ?_
      refine cr_al (congrArg (fun z__ : Nat => ([some (.ref a), some (.int (nI p)), some (.int (nI z__)), some (.int (nI (i + 1)))] : AL)) (show jnS n c (jnT n c p i) = jnT n c p (i + 1) by rfl)) ?_
      exact ihi  (trivial)
  · show CR _ _ 4 [some (.ref a), some (.int (nI p)), some (.int (nI (jnT n c p n))), some (.int (nI n))] [] S G B J R _
    refine cr_nx (pc' := 5) (al' := [some (.ref a), some (.int (nI p)), some (.int (nI (jnT n c p n))), some (.int (nI n))]) (st' := [.int (nI n)]) d_63_4 (fun _ => rfl) ?_
    refine cr_nx (pc' := 6) (al' := [some (.ref a), some (.int (nI p)), some (.int (nI (jnT n c p n))), some (.int (nI n))]) (st' := [.ref a, .int (nI n)]) d_63_5 (fun _ => rfl) ?_
    refine cr_gf (v := .int (nI n)) d_63_6 cw_63 cf_7_21 ht.1 ht.2.2.1 (by decide) hn ?_
    refine cn_cge (t := 24) d_63_9 (by decide) (by first | omega | assumption | exact cu_36 (by omega) (cu_lt (by omega) (by omega))) (by first | omega | assumption | exact cu_36 (by omega) (cu_lt (by omega) (by omega))) (fun c9 => ?_) (fun c9 => ?_)
    · refine cr_nx (pc' := 25) (al' := [some (.ref a), some (.int (nI p)), some (.int (nI (jnT n c p n))), some (.int (nI n))]) (st' := [.int (nI (jnT n c p n))]) d_63_24 (fun _ => rfl) ?_
      exact cr_ri d_63_25 cx_63 rfl ⟨rfl, rfl, rfl, rfl, rfl, rfl⟩
    · omega
theorem k_hasPart {S : CS} {G : Nat → Nat → Value} {B : Nat → Nat → Int32} {J : Nat → Nat → Int64} {R : Nat → Nat → Option Nat} {a n : Nat} (ht : TabAt S G a) (hn : G a 0 = .int (nI n)) (v : Int32) (hn6 : n ≤ 6) : CR 0 108 0 [some (.ref a), some (.int v)] [] S G B J R (cP (some (.int (bI (0 < v ∧ v < nI (1 * 2 ^ n))))) S G B J R) := by
  refine cr_nx (pc' := 1) (al' := [some (.ref a), some (.int v)]) (st' := [.int v]) d_108_0 (fun _ => rfl) ?_
  refine cr_ile (t := 18) d_108_1 (by decide) (fun c1 => ?_) (fun c1 => ?_)
  · refine cn_ic (v := 0) d_108_18 (by decide) ?_
    exact cr_ri d_108_19 cx_108 (by decide) (bJ_f (fun e => by first | exact absurd e.1 (by assumption) | exact absurd e.1 (Int32.not_lt.mpr (by assumption)) | exact absurd e.2 (by assumption) | exact absurd e.2 (Int32.not_lt.mpr (by assumption))))
  · refine cr_nx (pc' := 5) (al' := [some (.ref a), some (.int v)]) (st' := [.int v]) d_108_4 (fun _ => rfl) ?_
    refine cn_ic (v := 1) d_108_5 (by decide) ?_
    refine cr_nx (pc' := 7) (al' := [some (.ref a), some (.int v)]) (st' := [.ref a, .int (nI 1), .int v]) d_108_6 (fun _ => rfl) ?_
    refine cr_gf (v := .int (nI n)) d_108_7 cw_108 cf_10_15 ht.1 ht.2.2.1 (by decide) hn ?_
    refine cn_shl d_108_10 (by first | omega | assumption | exact cu_36 (by omega) (cu_lt (by omega) (by omega))) ?_
    refine cr_cge (t := 18) d_108_11 (by decide) (fun c11 => ?_) (fun c11 => ?_)
    · refine cn_ic (v := 0) d_108_18 (by decide) ?_
      exact cr_ri d_108_19 cx_108 (by decide) (bJ_f (fun e => by first | exact absurd e.1 (by assumption) | exact absurd e.1 (Int32.not_lt.mpr (by assumption)) | exact absurd e.2 (by assumption) | exact absurd e.2 (Int32.not_lt.mpr (by assumption))))
    · refine cn_ic (v := 1) d_108_14 (by decide) ?_
      refine cr_nx (pc' := 19) (al' := [some (.ref a), some (.int v)]) (st' := [.int (nI 1)]) d_108_15 (fun _ => rfl) ?_
      exact cr_ri d_108_19 cx_108 (by decide) (bJ_t ⟨by first | assumption | exact Int32.not_le.mp (by assumption), by first | assumption | exact Int32.not_le.mp (by assumption)⟩)
theorem hp_iff {n p : Nat} (hn : n ≤ 6) (hp : p < 2 ^ 31) : (0 < nI p ∧ nI p < nI (1 * 2 ^ n)) ↔ (0 < p ∧ p < 2 ^ n) := by
  have h1 : 1 * 2 ^ n ≤ 64 := by rw [Nat.one_mul]; exact Nat.pow_le_pow_right (by decide) hn
  rw [← nI_0, nI_ltI (by decide) hp, nI_ltI hp (by omega), Nat.one_mul]
theorem hp_raw {n : Nat} {v : Int32} (hn : n ≤ 6) : (0 < v ∧ v < nI (1 * 2 ^ n)) ↔ (nI 1 ≤ v ∧ v ≤ nI (1 * 2 ^ n - 1)) := by
  have h1 : 1 * 2 ^ n ≤ 64 := by rw [Nat.one_mul]; exact Nat.pow_le_pow_right (by decide) hn
  have h2 := Nat.two_pow_pos n
  rw [← nI_0, Int32.lt_iff_toInt_lt, Int32.lt_iff_toInt_lt, Int32.le_iff_toInt_le, Int32.le_iff_toInt_le, nI_toInt (n := 0) (by decide), nI_toInt (n := 1) (by decide), nI_toInt (n := 1 * 2 ^ n) (by omega), nI_toInt (n := 1 * 2 ^ n - 1) (by omega)]
  constructor <;> intro h <;> omega
theorem clB_iff {n : Nat} {c : Nat → Nat} {p : Nat} : clB n c p = true ↔ (0 < p ∧ p < 2 ^ n) ∧ jnS n c p = p := by
  unfold clB
  rw [Bool.and_eq_true, decide_eq_true_eq, decide_eq_true_eq]
  constructor
  · rintro ⟨h, e⟩
    refine ⟨h, ?_⟩
    have hn1 : 0 < n := by
      rcases Nat.eq_zero_or_pos n with h0 | h0
      · subst h0
        have := h.2
        omega
      · exact h0
    have sub : ∀ k m, k ≤ m → ∀ q, (jnT n c p k).testBit q = true → (jnT n c p m).testBit q = true := by
      intro k m hkm
      induction m with
      | zero => intro q hq; rw [Nat.le_zero.mp hkm] at hq; exact hq
      | succ m ih =>
        intro q hq
        rcases Nat.lt_or_ge k (m + 1) with h1 | h1
        · exact jnS_sub (ih (by omega) q hq)
        · rw [show m + 1 = k by omega]; exact hq
    apply Nat.eq_of_testBit_eq
    intro q
    cases h1 : p.testBit q
    · cases h2 : (jnS n c p).testBit q
      · rfl
      · have h3 := sub 1 n hn1 q h2
        have h4 : jnT n c p n = p := e
        rw [h4, h1] at h3
        cases h3
    · exact jnS_sub h1
  · rintro ⟨h, e⟩
    refine ⟨h, ?_⟩
    have : ∀ k, jnT n c p k = p := by
      intro k
      induction k with
      | zero => rfl
      | succ k ih => show jnS n c (jnT n c p k) = p; rw [ih]; exact e
    exact this n
theorem k_isClosed {S : CS} {G : Nat → Nat → Value} {B : Nat → Nat → Int32} {J : Nat → Nat → Int64} {R : Nat → Nat → Option Nat} {a n : Nat} (ht : TabAt S G a) (hn : G a 0 = .int (nI n)) {c : Nat → Nat} (hc : TabC B a n c) {p : Nat} (hp : p < 2 ^ 31) : CR 3 47 0 [some (.ref a), some (.int (nI p))] [] S G B J R (cP (some (.int (bI (clB n c p = true)))) S G B J R) := by
  have hn6 := hc.1
  refine cr_nx (pc' := 1) (al' := [some (.ref a), some (.int (nI p))]) (st' := [.ref a]) d_47_0 (fun _ => rfl) ?_
  refine cr_nx (pc' := 2) (al' := [some (.ref a), some (.int (nI p))]) (st' := [.int (nI p), .ref a]) d_47_1 (fun _ => rfl) ?_
  refine cr_pv (b := a) (as := [.int (nI p)]) (al0 := [some (.ref a), some (.int (nI p))]) (r := []) d_47_2 cw_47 cm_7_9 cz_108 rfl rfl ht.1 (by rw [cw_108]; exact ht.2.2.1) (by rw [cw_108]; decide) rfl (Nat.le_of_ble_eq_true rfl) (k_hasPart ht hn (nI p) (by omega)) ?_
  show CR _ _ 5 [some (.ref a), some (.int (nI p))] [.int (bI (0 < (nI p) ∧ (nI p) < nI (1 * 2 ^ n)))] S G B J R _
  refine cr_beq (t := 21) d_47_5 (by decide) (fun c5 => ?_) (fun c5 => ?_)
  · refine cn_ic (v := 0) d_47_21 (by decide) ?_
    exact cr_ri d_47_22 cx_47 (by decide) (bJ_f (fun e => by first | exact c14 (clB_iff.mp e).2 | exact c5 ((hp_iff hn6 hp).mpr (clB_iff.mp e).1)))
  · have hq := (hp_iff hn6 hp).mp c5
    have hj := le_64 hn6 (jnS_lt hn6 (fun q hq => (hc.2 q hq).2) hq.2)
    refine cr_nx (pc' := 9) (al' := [some (.ref a), some (.int (nI p))]) (st' := [.ref a]) d_47_8 (fun _ => rfl) ?_
    refine cr_nx (pc' := 10) (al' := [some (.ref a), some (.int (nI p))]) (st' := [.int (nI p), .ref a]) d_47_9 (fun _ => rfl) ?_
    refine cr_ps (as := [.ref a, .int (nI p)]) (al0 := [some (.ref a), some (.int (nI p)), none, none]) (r := []) d_47_10 cw_47 cm_7_15 (by decide) cz_48 rfl rfl rfl (Nat.le_of_ble_eq_true rfl) (k_joinedTo ht hn hc (by first | omega | assumption | exact cu_36 (by omega) (cu_lt (by omega) (by omega)))) ?_
    show CR _ _ 13 [some (.ref a), some (.int (nI p))] [.int (nI (jnS n c p))] S G B J R _
    refine cr_nx (pc' := 14) (al' := [some (.ref a), some (.int (nI p))]) (st' := [.int (nI p), .int (nI (jnS n c p))]) d_47_13 (fun _ => rfl) ?_
    refine cn_cne (t := 21) d_47_14 (by decide) (by first | omega | assumption | exact cu_36 (by omega) (cu_lt (by omega) (by omega))) (by first | omega | assumption | exact cu_36 (by omega) (cu_lt (by omega) (by omega))) (fun c14 => ?_) (fun c14 => ?_)
    · refine cn_ic (v := 0) d_47_21 (by decide) ?_
      exact cr_ri d_47_22 cx_47 (by decide) (bJ_f (fun e => by first | exact c14 (clB_iff.mp e).2 | exact c5 ((hp_iff hn6 hp).mpr (clB_iff.mp e).1)))
    · refine cn_ic (v := 1) d_47_17 (by decide) ?_
      refine cr_nx (pc' := 22) (al' := [some (.ref a), some (.int (nI p))]) (st' := [.int (nI 1)]) d_47_18 (fun _ => rfl) ?_
      exact cr_ri d_47_22 cx_47 (by decide) (bJ_t (clB_iff.mpr ⟨hq, c14⟩))
theorem k_joinsInSeat0 {S : CS} {G : Nat → Nat → Value} {B : Nat → Nat → Int32} {J : Nat → Nat → Int64} {R : Nat → Nat → Option Nat} {a n : Nat} (ht : TabAt S G a) (hn : G a 0 = .int (nI n)) {c : Nat → Nat} (hc : TabC B a n c) {q : Nat} (ha : q < n) : CR 2 57 0 [some (.ref a), some (.int (nI 0)), some (.int (nI q)), none, none, none] [] S G B J R (cP (some (.int (bI (nuB 0 n c q = true)))) S G B J R) := by
  have hn6 := hc.1
  refine cn_ic (v := 0) d_57_0 (by decide) ?_
  refine cr_nx (pc' := 2) (al' := [some (.ref a), some (.int (nI 0)), some (.int (nI q)), some (.int (nI 0)), none, none]) (st' := []) d_57_1 (fun _ => rfl) ?_
  refine cr_up (al := fun x => [some (.ref a), some (.int (nI 0)), some (.int (nI q)), some (.int (nI x)), none, none]) (S := fun x => S) (G := fun x => G) (B := fun x => B) (J := fun x => J) (R := fun x => R) (P := fun x => ∀ u, u < x → ∀ r, r < n → c (n * q + c (n * u + r)) = c (n * c (n * q + u) + r)) (n := n) (fun x hx px ihx => ?_) (fun px => ?_) 0  (by omega) (all_0)
  · show CR _ _ 2 [some (.ref a), some (.int (nI 0)), some (.int (nI q)), some (.int (nI x)), none, none] [] S G B J R _
    refine cr_nx (pc' := 3) (al' := [some (.ref a), some (.int (nI 0)), some (.int (nI q)), some (.int (nI x)), none, none]) (st' := [.int (nI x)]) d_57_2 (fun _ => rfl) ?_
    refine cr_nx (pc' := 4) (al' := [some (.ref a), some (.int (nI 0)), some (.int (nI q)), some (.int (nI x)), none, none]) (st' := [.ref a, .int (nI x)]) d_57_3 (fun _ => rfl) ?_
    refine cr_gf (v := .int (nI n)) d_57_4 cw_57 cf_7_21 ht.1 ht.2.2.1 (by decide) hn ?_
    refine cn_cge (t := 82) d_57_7 (by decide) (by first | omega | assumption | exact cu_36 (by omega) (cu_lt (by omega) (by omega))) (by first | omega | assumption | exact cu_36 (by omega) (cu_lt (by omega) (by omega))) (fun c7 => ?_) (fun c7 => ?_)
    · omega
    · refine cn_ic (v := 0) d_57_10 (by decide) ?_
      refine cr_nx (pc' := 13) (al' := [some (.ref a), some (.int (nI 0)), some (.int (nI q)), some (.int (nI x)), some (.int (nI 0)), none]) (st' := []) d_57_11 (fun _ => rfl) ?_
      refine cr_up (al := fun y => [some (.ref a), some (.int (nI 0)), some (.int (nI q)), some (.int (nI x)), some (.int (nI y)), none]) (S := fun y => S) (G := fun y => G) (B := fun y => B) (J := fun y => J) (R := fun y => R) (P := fun y => ∀ r, r < y → c (n * q + c (n * x + r)) = c (n * c (n * q + x) + r)) (n := n) (fun y hy py ihy => ?_) (fun py => ?_) 0  (by omega) (all_0)
      · show CR _ _ 13 [some (.ref a), some (.int (nI 0)), some (.int (nI q)), some (.int (nI x)), some (.int (nI y)), none] [] S G B J R _
        refine cr_nx (pc' := 15) (al' := [some (.ref a), some (.int (nI 0)), some (.int (nI q)), some (.int (nI x)), some (.int (nI y)), none]) (st' := [.int (nI y)]) d_57_13 (fun _ => rfl) ?_
        refine cr_nx (pc' := 16) (al' := [some (.ref a), some (.int (nI 0)), some (.int (nI q)), some (.int (nI x)), some (.int (nI y)), none]) (st' := [.ref a, .int (nI y)]) d_57_15 (fun _ => rfl) ?_
        refine cr_gf (v := .int (nI n)) d_57_16 cw_57 cf_7_21 ht.1 ht.2.2.1 (by decide) hn ?_
        refine cn_cge (t := 76) d_57_19 (by decide) (by first | omega | assumption | exact cu_36 (by omega) (cu_lt (by omega) (by omega))) (by first | omega | assumption | exact cu_36 (by omega) (cu_lt (by omega) (by omega))) (fun c19 => ?_) (fun c19 => ?_)
        · omega
        · refine cr_nx (pc' := 23) (al' := [some (.ref a), some (.int (nI 0)), some (.int (nI q)), some (.int (nI x)), some (.int (nI y)), none]) (st' := [.int (nI 0)]) d_57_22 (fun _ => rfl) ?_
          refine cn_ine (t := 37) d_57_23 (by decide) (by first | omega | assumption | exact cu_36 (by omega) (cu_lt (by omega) (by omega))) (fun c23 => ?_) (fun c23 => ?_)
          · omega
          · refine cr_nx (pc' := 27) (al' := [some (.ref a), some (.int (nI 0)), some (.int (nI q)), some (.int (nI x)), some (.int (nI y)), none]) (st' := [.ref a]) d_57_26 (fun _ => rfl) ?_
            refine cr_nx (pc' := 28) (al' := [some (.ref a), some (.int (nI 0)), some (.int (nI q)), some (.int (nI x)), some (.int (nI y)), none]) (st' := [.int (nI q), .ref a]) d_57_27 (fun _ => rfl) ?_
            refine cr_nx (pc' := 29) (al' := [some (.ref a), some (.int (nI 0)), some (.int (nI q)), some (.int (nI x)), some (.int (nI y)), none]) (st' := [.int (nI x), .int (nI q), .ref a]) d_57_28 (fun _ => rfl) ?_
            refine cr_nx (pc' := 31) (al' := [some (.ref a), some (.int (nI 0)), some (.int (nI q)), some (.int (nI x)), some (.int (nI y)), none]) (st' := [.int (nI y), .int (nI x), .int (nI q), .ref a]) d_57_29 (fun _ => rfl) ?_
            refine cr_ps (as := [.ref a, .int (nI q), .int (nI x), .int (nI y)]) (al0 := [some (.ref a), some (.int (nI q)), some (.int (nI x)), some (.int (nI y))]) (r := []) d_57_31 cw_57 cm_7_83 (by decide) cz_58 rfl rfl rfl (Nat.le_of_ble_eq_true rfl) (k_joins ht hn hc (by omega) (by omega) (by omega)) ?_
            show CR _ _ 34 [some (.ref a), some (.int (nI 0)), some (.int (nI q)), some (.int (nI x)), some (.int (nI y)), none] [.int (bI (c (n * q + c (n * x + y)) = c (n * c (n * q + x) + y)))] S G B J R _
            refine cr_nx (pc' := 61) (al' := [some (.ref a), some (.int (nI 0)), some (.int (nI q)), some (.int (nI x)), some (.int (nI y)), none]) (st' := [.int (bI (c (n * q + c (n * x + y)) = c (n * c (n * q + x) + y)))]) d_57_34 (fun _ => rfl) ?_
            refine cr_nx (pc' := 63) (al' := [some (.ref a), some (.int (nI 0)), some (.int (nI q)), some (.int (nI x)), some (.int (nI y)), some (.int (bI (c (n * q + c (n * x + y)) = c (n * c (n * q + x) + y))))]) (st' := []) d_57_61 (fun _ => rfl) ?_
            refine cr_nx (pc' := 65) (al' := [some (.ref a), some (.int (nI 0)), some (.int (nI q)), some (.int (nI x)), some (.int (nI y)), some (.int (bI (c (n * q + c (n * x + y)) = c (n * c (n * q + x) + y))))]) (st' := [.int (bI (c (n * q + c (n * x + y)) = c (n * c (n * q + x) + y)))]) d_57_63 (fun _ => rfl) ?_
            refine cr_bne (t := 70) d_57_65 (by decide) (fun c65 => ?_) (fun c65 => ?_)
            · refine cn_inc d_57_70 rfl rfl ?_
              show CR _ _ 73 [some (.ref a), some (.int (nI 0)), some (.int (nI q)), some (.int (nI x)), some (.int (nI (y + 1))), some (.int (bI (c (n * q + c (n * x + y)) = c (n * c (n * q + x) + y))))] [] S G B J R _
              refine cr_nx (pc' := 13) (al' := [some (.ref a), some (.int (nI 0)), some (.int (nI q)), some (.int (nI x)), some (.int (nI (y + 1))), some (.int (bI (c (n * q + c (n * x + y)) = c (n * c (n * q + x) + y))))]) (st' := []) d_57_73 (fun _ => rfl) ?_
              refine cr_dr (al1 := [some (.ref a), some (.int (nI 0)), some (.int (nI q)), some (.int (nI x)), some (.int (nI (y + 1))), none]) (le_s (le_s (le_s (le_s (le_s (le_d rfl (le_n))))))) ?_
              exact ihy  (all_s (p := fun r => c (n * q + c (n * x + r)) = c (n * c (n * q + x) + r)) py c65)
            · refine cn_ic (v := 0) d_57_68 (by decide) ?_
              exact cr_ri d_57_69 cx_57 (by decide) (bJ_f (fun e => c65 (of_decide_eq_true e x hx y hy)))
      · show CR _ _ 13 [some (.ref a), some (.int (nI 0)), some (.int (nI q)), some (.int (nI x)), some (.int (nI n)), none] [] S G B J R _
        refine cr_nx (pc' := 15) (al' := [some (.ref a), some (.int (nI 0)), some (.int (nI q)), some (.int (nI x)), some (.int (nI n)), none]) (st' := [.int (nI n)]) d_57_13 (fun _ => rfl) ?_
        refine cr_nx (pc' := 16) (al' := [some (.ref a), some (.int (nI 0)), some (.int (nI q)), some (.int (nI x)), some (.int (nI n)), none]) (st' := [.ref a, .int (nI n)]) d_57_15 (fun _ => rfl) ?_
        refine cr_gf (v := .int (nI n)) d_57_16 cw_57 cf_7_21 ht.1 ht.2.2.1 (by decide) hn ?_
        refine cn_cge (t := 76) d_57_19 (by decide) (by first | omega | assumption | exact cu_36 (by omega) (cu_lt (by omega) (by omega))) (by first | omega | assumption | exact cu_36 (by omega) (cu_lt (by omega) (by omega))) (fun c19 => ?_) (fun c19 => ?_)
        · refine cn_inc d_57_76 rfl rfl ?_
          show CR _ _ 79 [some (.ref a), some (.int (nI 0)), some (.int (nI q)), some (.int (nI (x + 1))), some (.int (nI n)), none] [] S G B J R _
          refine cr_nx (pc' := 2) (al' := [some (.ref a), some (.int (nI 0)), some (.int (nI q)), some (.int (nI (x + 1))), some (.int (nI n)), none]) (st' := []) d_57_79 (fun _ => rfl) ?_
          refine cr_dr (al1 := [some (.ref a), some (.int (nI 0)), some (.int (nI q)), some (.int (nI (x + 1))), none, none]) (le_s (le_s (le_s (le_s (le_d rfl (le_s (le_n))))))) ?_
          exact ihx  (all_s px py)
        · omega
  · show CR _ _ 2 [some (.ref a), some (.int (nI 0)), some (.int (nI q)), some (.int (nI n)), none, none] [] S G B J R _
    refine cr_nx (pc' := 3) (al' := [some (.ref a), some (.int (nI 0)), some (.int (nI q)), some (.int (nI n)), none, none]) (st' := [.int (nI n)]) d_57_2 (fun _ => rfl) ?_
    refine cr_nx (pc' := 4) (al' := [some (.ref a), some (.int (nI 0)), some (.int (nI q)), some (.int (nI n)), none, none]) (st' := [.ref a, .int (nI n)]) d_57_3 (fun _ => rfl) ?_
    refine cr_gf (v := .int (nI n)) d_57_4 cw_57 cf_7_21 ht.1 ht.2.2.1 (by decide) hn ?_
    refine cn_cge (t := 82) d_57_7 (by decide) (by first | omega | assumption | exact cu_36 (by omega) (cu_lt (by omega) (by omega))) (by first | omega | assumption | exact cu_36 (by omega) (cu_lt (by omega) (by omega))) (fun c7 => ?_) (fun c7 => ?_)
    · refine cn_ic (v := 1) d_57_82 (by decide) ?_
      exact cr_ri d_57_83 cx_57 (by decide) (bJ_t (decide_eq_true px))
    · omega
theorem k_joinsInSeat1 {S : CS} {G : Nat → Nat → Value} {B : Nat → Nat → Int32} {J : Nat → Nat → Int64} {R : Nat → Nat → Option Nat} {a n : Nat} (ht : TabAt S G a) (hn : G a 0 = .int (nI n)) {c : Nat → Nat} (hc : TabC B a n c) {q : Nat} (ha : q < n) : CR 2 57 0 [some (.ref a), some (.int (nI 1)), some (.int (nI q)), none, none, none] [] S G B J R (cP (some (.int (bI (nuB 1 n c q = true)))) S G B J R) := by
  have hn6 := hc.1
  refine cn_ic (v := 0) d_57_0 (by decide) ?_
  refine cr_nx (pc' := 2) (al' := [some (.ref a), some (.int (nI 1)), some (.int (nI q)), some (.int (nI 0)), none, none]) (st' := []) d_57_1 (fun _ => rfl) ?_
  refine cr_up (al := fun x => [some (.ref a), some (.int (nI 1)), some (.int (nI q)), some (.int (nI x)), none, none]) (S := fun x => S) (G := fun x => G) (B := fun x => B) (J := fun x => J) (R := fun x => R) (P := fun x => ∀ u, u < x → ∀ r, r < n → c (n * u + c (n * q + r)) = c (n * c (n * u + q) + r)) (n := n) (fun x hx px ihx => ?_) (fun px => ?_) 0  (by omega) (all_0)
  · show CR _ _ 2 [some (.ref a), some (.int (nI 1)), some (.int (nI q)), some (.int (nI x)), none, none] [] S G B J R _
    refine cr_nx (pc' := 3) (al' := [some (.ref a), some (.int (nI 1)), some (.int (nI q)), some (.int (nI x)), none, none]) (st' := [.int (nI x)]) d_57_2 (fun _ => rfl) ?_
    refine cr_nx (pc' := 4) (al' := [some (.ref a), some (.int (nI 1)), some (.int (nI q)), some (.int (nI x)), none, none]) (st' := [.ref a, .int (nI x)]) d_57_3 (fun _ => rfl) ?_
    refine cr_gf (v := .int (nI n)) d_57_4 cw_57 cf_7_21 ht.1 ht.2.2.1 (by decide) hn ?_
    refine cn_cge (t := 82) d_57_7 (by decide) (by first | omega | assumption | exact cu_36 (by omega) (cu_lt (by omega) (by omega))) (by first | omega | assumption | exact cu_36 (by omega) (cu_lt (by omega) (by omega))) (fun c7 => ?_) (fun c7 => ?_)
    · omega
    · refine cn_ic (v := 0) d_57_10 (by decide) ?_
      refine cr_nx (pc' := 13) (al' := [some (.ref a), some (.int (nI 1)), some (.int (nI q)), some (.int (nI x)), some (.int (nI 0)), none]) (st' := []) d_57_11 (fun _ => rfl) ?_
      refine cr_up (al := fun y => [some (.ref a), some (.int (nI 1)), some (.int (nI q)), some (.int (nI x)), some (.int (nI y)), none]) (S := fun y => S) (G := fun y => G) (B := fun y => B) (J := fun y => J) (R := fun y => R) (P := fun y => ∀ r, r < y → c (n * x + c (n * q + r)) = c (n * c (n * x + q) + r)) (n := n) (fun y hy py ihy => ?_) (fun py => ?_) 0  (by omega) (all_0)
      · show CR _ _ 13 [some (.ref a), some (.int (nI 1)), some (.int (nI q)), some (.int (nI x)), some (.int (nI y)), none] [] S G B J R _
        refine cr_nx (pc' := 15) (al' := [some (.ref a), some (.int (nI 1)), some (.int (nI q)), some (.int (nI x)), some (.int (nI y)), none]) (st' := [.int (nI y)]) d_57_13 (fun _ => rfl) ?_
        refine cr_nx (pc' := 16) (al' := [some (.ref a), some (.int (nI 1)), some (.int (nI q)), some (.int (nI x)), some (.int (nI y)), none]) (st' := [.ref a, .int (nI y)]) d_57_15 (fun _ => rfl) ?_
        refine cr_gf (v := .int (nI n)) d_57_16 cw_57 cf_7_21 ht.1 ht.2.2.1 (by decide) hn ?_
        refine cn_cge (t := 76) d_57_19 (by decide) (by first | omega | assumption | exact cu_36 (by omega) (cu_lt (by omega) (by omega))) (by first | omega | assumption | exact cu_36 (by omega) (cu_lt (by omega) (by omega))) (fun c19 => ?_) (fun c19 => ?_)
        · omega
        · refine cr_nx (pc' := 23) (al' := [some (.ref a), some (.int (nI 1)), some (.int (nI q)), some (.int (nI x)), some (.int (nI y)), none]) (st' := [.int (nI 1)]) d_57_22 (fun _ => rfl) ?_
          refine cn_ine (t := 37) d_57_23 (by decide) (by first | omega | assumption | exact cu_36 (by omega) (cu_lt (by omega) (by omega))) (fun c23 => ?_) (fun c23 => ?_)
          · refine cr_nx (pc' := 38) (al' := [some (.ref a), some (.int (nI 1)), some (.int (nI q)), some (.int (nI x)), some (.int (nI y)), none]) (st' := [.int (nI 1)]) d_57_37 (fun _ => rfl) ?_
            refine cn_ic (v := 1) d_57_38 (by decide) ?_
            refine cn_cne (t := 53) d_57_39 (by decide) (by first | omega | assumption | exact cu_36 (by omega) (cu_lt (by omega) (by omega))) (by first | omega | assumption | exact cu_36 (by omega) (cu_lt (by omega) (by omega))) (fun c39 => ?_) (fun c39 => ?_)
            · omega
            · refine cr_nx (pc' := 43) (al' := [some (.ref a), some (.int (nI 1)), some (.int (nI q)), some (.int (nI x)), some (.int (nI y)), none]) (st' := [.ref a]) d_57_42 (fun _ => rfl) ?_
              refine cr_nx (pc' := 44) (al' := [some (.ref a), some (.int (nI 1)), some (.int (nI q)), some (.int (nI x)), some (.int (nI y)), none]) (st' := [.int (nI x), .ref a]) d_57_43 (fun _ => rfl) ?_
              refine cr_nx (pc' := 45) (al' := [some (.ref a), some (.int (nI 1)), some (.int (nI q)), some (.int (nI x)), some (.int (nI y)), none]) (st' := [.int (nI q), .int (nI x), .ref a]) d_57_44 (fun _ => rfl) ?_
              refine cr_nx (pc' := 47) (al' := [some (.ref a), some (.int (nI 1)), some (.int (nI q)), some (.int (nI x)), some (.int (nI y)), none]) (st' := [.int (nI y), .int (nI q), .int (nI x), .ref a]) d_57_45 (fun _ => rfl) ?_
              refine cr_ps (as := [.ref a, .int (nI x), .int (nI q), .int (nI y)]) (al0 := [some (.ref a), some (.int (nI x)), some (.int (nI q)), some (.int (nI y))]) (r := []) d_57_47 cw_57 cm_7_83 (by decide) cz_58 rfl rfl rfl (Nat.le_of_ble_eq_true rfl) (k_joins ht hn hc (by omega) (by omega) (by omega)) ?_
              show CR _ _ 50 [some (.ref a), some (.int (nI 1)), some (.int (nI q)), some (.int (nI x)), some (.int (nI y)), none] [.int (bI (c (n * x + c (n * q + y)) = c (n * c (n * x + q) + y)))] S G B J R _
              refine cr_nx (pc' := 61) (al' := [some (.ref a), some (.int (nI 1)), some (.int (nI q)), some (.int (nI x)), some (.int (nI y)), none]) (st' := [.int (bI (c (n * x + c (n * q + y)) = c (n * c (n * x + q) + y)))]) d_57_50 (fun _ => rfl) ?_
              refine cr_nx (pc' := 63) (al' := [some (.ref a), some (.int (nI 1)), some (.int (nI q)), some (.int (nI x)), some (.int (nI y)), some (.int (bI (c (n * x + c (n * q + y)) = c (n * c (n * x + q) + y))))]) (st' := []) d_57_61 (fun _ => rfl) ?_
              refine cr_nx (pc' := 65) (al' := [some (.ref a), some (.int (nI 1)), some (.int (nI q)), some (.int (nI x)), some (.int (nI y)), some (.int (bI (c (n * x + c (n * q + y)) = c (n * c (n * x + q) + y))))]) (st' := [.int (bI (c (n * x + c (n * q + y)) = c (n * c (n * x + q) + y)))]) d_57_63 (fun _ => rfl) ?_
              refine cr_bne (t := 70) d_57_65 (by decide) (fun c65 => ?_) (fun c65 => ?_)
              · refine cn_inc d_57_70 rfl rfl ?_
                show CR _ _ 73 [some (.ref a), some (.int (nI 1)), some (.int (nI q)), some (.int (nI x)), some (.int (nI (y + 1))), some (.int (bI (c (n * x + c (n * q + y)) = c (n * c (n * x + q) + y))))] [] S G B J R _
                refine cr_nx (pc' := 13) (al' := [some (.ref a), some (.int (nI 1)), some (.int (nI q)), some (.int (nI x)), some (.int (nI (y + 1))), some (.int (bI (c (n * x + c (n * q + y)) = c (n * c (n * x + q) + y))))]) (st' := []) d_57_73 (fun _ => rfl) ?_
                refine cr_dr (al1 := [some (.ref a), some (.int (nI 1)), some (.int (nI q)), some (.int (nI x)), some (.int (nI (y + 1))), none]) (le_s (le_s (le_s (le_s (le_s (le_d rfl (le_n))))))) ?_
                exact ihy  (all_s (p := fun r => c (n * x + c (n * q + r)) = c (n * c (n * x + q) + r)) py c65)
              · refine cn_ic (v := 0) d_57_68 (by decide) ?_
                exact cr_ri d_57_69 cx_57 (by decide) (bJ_f (fun e => c65 (of_decide_eq_true e x hx y hy)))
          · omega
      · show CR _ _ 13 [some (.ref a), some (.int (nI 1)), some (.int (nI q)), some (.int (nI x)), some (.int (nI n)), none] [] S G B J R _
        refine cr_nx (pc' := 15) (al' := [some (.ref a), some (.int (nI 1)), some (.int (nI q)), some (.int (nI x)), some (.int (nI n)), none]) (st' := [.int (nI n)]) d_57_13 (fun _ => rfl) ?_
        refine cr_nx (pc' := 16) (al' := [some (.ref a), some (.int (nI 1)), some (.int (nI q)), some (.int (nI x)), some (.int (nI n)), none]) (st' := [.ref a, .int (nI n)]) d_57_15 (fun _ => rfl) ?_
        refine cr_gf (v := .int (nI n)) d_57_16 cw_57 cf_7_21 ht.1 ht.2.2.1 (by decide) hn ?_
        refine cn_cge (t := 76) d_57_19 (by decide) (by first | omega | assumption | exact cu_36 (by omega) (cu_lt (by omega) (by omega))) (by first | omega | assumption | exact cu_36 (by omega) (cu_lt (by omega) (by omega))) (fun c19 => ?_) (fun c19 => ?_)
        · refine cn_inc d_57_76 rfl rfl ?_
          show CR _ _ 79 [some (.ref a), some (.int (nI 1)), some (.int (nI q)), some (.int (nI (x + 1))), some (.int (nI n)), none] [] S G B J R _
          refine cr_nx (pc' := 2) (al' := [some (.ref a), some (.int (nI 1)), some (.int (nI q)), some (.int (nI (x + 1))), some (.int (nI n)), none]) (st' := []) d_57_79 (fun _ => rfl) ?_
          refine cr_dr (al1 := [some (.ref a), some (.int (nI 1)), some (.int (nI q)), some (.int (nI (x + 1))), none, none]) (le_s (le_s (le_s (le_s (le_d rfl (le_s (le_n))))))) ?_
          exact ihx  (all_s px py)
        · omega
  · show CR _ _ 2 [some (.ref a), some (.int (nI 1)), some (.int (nI q)), some (.int (nI n)), none, none] [] S G B J R _
    refine cr_nx (pc' := 3) (al' := [some (.ref a), some (.int (nI 1)), some (.int (nI q)), some (.int (nI n)), none, none]) (st' := [.int (nI n)]) d_57_2 (fun _ => rfl) ?_
    refine cr_nx (pc' := 4) (al' := [some (.ref a), some (.int (nI 1)), some (.int (nI q)), some (.int (nI n)), none, none]) (st' := [.ref a, .int (nI n)]) d_57_3 (fun _ => rfl) ?_
    refine cr_gf (v := .int (nI n)) d_57_4 cw_57 cf_7_21 ht.1 ht.2.2.1 (by decide) hn ?_
    refine cn_cge (t := 82) d_57_7 (by decide) (by first | omega | assumption | exact cu_36 (by omega) (cu_lt (by omega) (by omega))) (by first | omega | assumption | exact cu_36 (by omega) (cu_lt (by omega) (by omega))) (fun c7 => ?_) (fun c7 => ?_)
    · refine cn_ic (v := 1) d_57_82 (by decide) ?_
      exact cr_ri d_57_83 cx_57 (by decide) (bJ_t (decide_eq_true px))
    · omega
theorem k_joinsInSeat2 {S : CS} {G : Nat → Nat → Value} {B : Nat → Nat → Int32} {J : Nat → Nat → Int64} {R : Nat → Nat → Option Nat} {a n : Nat} (ht : TabAt S G a) (hn : G a 0 = .int (nI n)) {c : Nat → Nat} (hc : TabC B a n c) {q : Nat} (ha : q < n) : CR 2 57 0 [some (.ref a), some (.int (nI 2)), some (.int (nI q)), none, none, none] [] S G B J R (cP (some (.int (bI (nuB 2 n c q = true)))) S G B J R) := by
  have hn6 := hc.1
  refine cn_ic (v := 0) d_57_0 (by decide) ?_
  refine cr_nx (pc' := 2) (al' := [some (.ref a), some (.int (nI 2)), some (.int (nI q)), some (.int (nI 0)), none, none]) (st' := []) d_57_1 (fun _ => rfl) ?_
  refine cr_up (al := fun x => [some (.ref a), some (.int (nI 2)), some (.int (nI q)), some (.int (nI x)), none, none]) (S := fun x => S) (G := fun x => G) (B := fun x => B) (J := fun x => J) (R := fun x => R) (P := fun x => ∀ u, u < x → ∀ r, r < n → c (n * u + c (n * r + q)) = c (n * c (n * u + r) + q)) (n := n) (fun x hx px ihx => ?_) (fun px => ?_) 0  (by omega) (all_0)
  · show CR _ _ 2 [some (.ref a), some (.int (nI 2)), some (.int (nI q)), some (.int (nI x)), none, none] [] S G B J R _
    refine cr_nx (pc' := 3) (al' := [some (.ref a), some (.int (nI 2)), some (.int (nI q)), some (.int (nI x)), none, none]) (st' := [.int (nI x)]) d_57_2 (fun _ => rfl) ?_
    refine cr_nx (pc' := 4) (al' := [some (.ref a), some (.int (nI 2)), some (.int (nI q)), some (.int (nI x)), none, none]) (st' := [.ref a, .int (nI x)]) d_57_3 (fun _ => rfl) ?_
    refine cr_gf (v := .int (nI n)) d_57_4 cw_57 cf_7_21 ht.1 ht.2.2.1 (by decide) hn ?_
    refine cn_cge (t := 82) d_57_7 (by decide) (by first | omega | assumption | exact cu_36 (by omega) (cu_lt (by omega) (by omega))) (by first | omega | assumption | exact cu_36 (by omega) (cu_lt (by omega) (by omega))) (fun c7 => ?_) (fun c7 => ?_)
    · omega
    · refine cn_ic (v := 0) d_57_10 (by decide) ?_
      refine cr_nx (pc' := 13) (al' := [some (.ref a), some (.int (nI 2)), some (.int (nI q)), some (.int (nI x)), some (.int (nI 0)), none]) (st' := []) d_57_11 (fun _ => rfl) ?_
      refine cr_up (al := fun y => [some (.ref a), some (.int (nI 2)), some (.int (nI q)), some (.int (nI x)), some (.int (nI y)), none]) (S := fun y => S) (G := fun y => G) (B := fun y => B) (J := fun y => J) (R := fun y => R) (P := fun y => ∀ r, r < y → c (n * x + c (n * r + q)) = c (n * c (n * x + r) + q)) (n := n) (fun y hy py ihy => ?_) (fun py => ?_) 0  (by omega) (all_0)
      · show CR _ _ 13 [some (.ref a), some (.int (nI 2)), some (.int (nI q)), some (.int (nI x)), some (.int (nI y)), none] [] S G B J R _
        refine cr_nx (pc' := 15) (al' := [some (.ref a), some (.int (nI 2)), some (.int (nI q)), some (.int (nI x)), some (.int (nI y)), none]) (st' := [.int (nI y)]) d_57_13 (fun _ => rfl) ?_
        refine cr_nx (pc' := 16) (al' := [some (.ref a), some (.int (nI 2)), some (.int (nI q)), some (.int (nI x)), some (.int (nI y)), none]) (st' := [.ref a, .int (nI y)]) d_57_15 (fun _ => rfl) ?_
        refine cr_gf (v := .int (nI n)) d_57_16 cw_57 cf_7_21 ht.1 ht.2.2.1 (by decide) hn ?_
        refine cn_cge (t := 76) d_57_19 (by decide) (by first | omega | assumption | exact cu_36 (by omega) (cu_lt (by omega) (by omega))) (by first | omega | assumption | exact cu_36 (by omega) (cu_lt (by omega) (by omega))) (fun c19 => ?_) (fun c19 => ?_)
        · omega
        · refine cr_nx (pc' := 23) (al' := [some (.ref a), some (.int (nI 2)), some (.int (nI q)), some (.int (nI x)), some (.int (nI y)), none]) (st' := [.int (nI 2)]) d_57_22 (fun _ => rfl) ?_
          refine cn_ine (t := 37) d_57_23 (by decide) (by first | omega | assumption | exact cu_36 (by omega) (cu_lt (by omega) (by omega))) (fun c23 => ?_) (fun c23 => ?_)
          · refine cr_nx (pc' := 38) (al' := [some (.ref a), some (.int (nI 2)), some (.int (nI q)), some (.int (nI x)), some (.int (nI y)), none]) (st' := [.int (nI 2)]) d_57_37 (fun _ => rfl) ?_
            refine cn_ic (v := 1) d_57_38 (by decide) ?_
            refine cn_cne (t := 53) d_57_39 (by decide) (by first | omega | assumption | exact cu_36 (by omega) (cu_lt (by omega) (by omega))) (by first | omega | assumption | exact cu_36 (by omega) (cu_lt (by omega) (by omega))) (fun c39 => ?_) (fun c39 => ?_)
            · refine cr_nx (pc' := 54) (al' := [some (.ref a), some (.int (nI 2)), some (.int (nI q)), some (.int (nI x)), some (.int (nI y)), none]) (st' := [.ref a]) d_57_53 (fun _ => rfl) ?_
              refine cr_nx (pc' := 55) (al' := [some (.ref a), some (.int (nI 2)), some (.int (nI q)), some (.int (nI x)), some (.int (nI y)), none]) (st' := [.int (nI x), .ref a]) d_57_54 (fun _ => rfl) ?_
              refine cr_nx (pc' := 57) (al' := [some (.ref a), some (.int (nI 2)), some (.int (nI q)), some (.int (nI x)), some (.int (nI y)), none]) (st' := [.int (nI y), .int (nI x), .ref a]) d_57_55 (fun _ => rfl) ?_
              refine cr_nx (pc' := 58) (al' := [some (.ref a), some (.int (nI 2)), some (.int (nI q)), some (.int (nI x)), some (.int (nI y)), none]) (st' := [.int (nI q), .int (nI y), .int (nI x), .ref a]) d_57_57 (fun _ => rfl) ?_
              refine cr_ps (as := [.ref a, .int (nI x), .int (nI y), .int (nI q)]) (al0 := [some (.ref a), some (.int (nI x)), some (.int (nI y)), some (.int (nI q))]) (r := []) d_57_58 cw_57 cm_7_83 (by decide) cz_58 rfl rfl rfl (Nat.le_of_ble_eq_true rfl) (k_joins ht hn hc (by omega) (by omega) (by omega)) ?_
              show CR _ _ 61 [some (.ref a), some (.int (nI 2)), some (.int (nI q)), some (.int (nI x)), some (.int (nI y)), none] [.int (bI (c (n * x + c (n * y + q)) = c (n * c (n * x + y) + q)))] S G B J R _
              refine cr_nx (pc' := 63) (al' := [some (.ref a), some (.int (nI 2)), some (.int (nI q)), some (.int (nI x)), some (.int (nI y)), some (.int (bI (c (n * x + c (n * y + q)) = c (n * c (n * x + y) + q))))]) (st' := []) d_57_61 (fun _ => rfl) ?_
              refine cr_nx (pc' := 65) (al' := [some (.ref a), some (.int (nI 2)), some (.int (nI q)), some (.int (nI x)), some (.int (nI y)), some (.int (bI (c (n * x + c (n * y + q)) = c (n * c (n * x + y) + q))))]) (st' := [.int (bI (c (n * x + c (n * y + q)) = c (n * c (n * x + y) + q)))]) d_57_63 (fun _ => rfl) ?_
              refine cr_bne (t := 70) d_57_65 (by decide) (fun c65 => ?_) (fun c65 => ?_)
              · refine cn_inc d_57_70 rfl rfl ?_
                show CR _ _ 73 [some (.ref a), some (.int (nI 2)), some (.int (nI q)), some (.int (nI x)), some (.int (nI (y + 1))), some (.int (bI (c (n * x + c (n * y + q)) = c (n * c (n * x + y) + q))))] [] S G B J R _
                refine cr_nx (pc' := 13) (al' := [some (.ref a), some (.int (nI 2)), some (.int (nI q)), some (.int (nI x)), some (.int (nI (y + 1))), some (.int (bI (c (n * x + c (n * y + q)) = c (n * c (n * x + y) + q))))]) (st' := []) d_57_73 (fun _ => rfl) ?_
                refine cr_dr (al1 := [some (.ref a), some (.int (nI 2)), some (.int (nI q)), some (.int (nI x)), some (.int (nI (y + 1))), none]) (le_s (le_s (le_s (le_s (le_s (le_d rfl (le_n))))))) ?_
                exact ihy  (all_s (p := fun r => c (n * x + c (n * r + q)) = c (n * c (n * x + r) + q)) py c65)
              · refine cn_ic (v := 0) d_57_68 (by decide) ?_
                exact cr_ri d_57_69 cx_57 (by decide) (bJ_f (fun e => c65 (of_decide_eq_true e x hx y hy)))
            · omega
          · omega
      · show CR _ _ 13 [some (.ref a), some (.int (nI 2)), some (.int (nI q)), some (.int (nI x)), some (.int (nI n)), none] [] S G B J R _
        refine cr_nx (pc' := 15) (al' := [some (.ref a), some (.int (nI 2)), some (.int (nI q)), some (.int (nI x)), some (.int (nI n)), none]) (st' := [.int (nI n)]) d_57_13 (fun _ => rfl) ?_
        refine cr_nx (pc' := 16) (al' := [some (.ref a), some (.int (nI 2)), some (.int (nI q)), some (.int (nI x)), some (.int (nI n)), none]) (st' := [.ref a, .int (nI n)]) d_57_15 (fun _ => rfl) ?_
        refine cr_gf (v := .int (nI n)) d_57_16 cw_57 cf_7_21 ht.1 ht.2.2.1 (by decide) hn ?_
        refine cn_cge (t := 76) d_57_19 (by decide) (by first | omega | assumption | exact cu_36 (by omega) (cu_lt (by omega) (by omega))) (by first | omega | assumption | exact cu_36 (by omega) (cu_lt (by omega) (by omega))) (fun c19 => ?_) (fun c19 => ?_)
        · refine cn_inc d_57_76 rfl rfl ?_
          show CR _ _ 79 [some (.ref a), some (.int (nI 2)), some (.int (nI q)), some (.int (nI (x + 1))), some (.int (nI n)), none] [] S G B J R _
          refine cr_nx (pc' := 2) (al' := [some (.ref a), some (.int (nI 2)), some (.int (nI q)), some (.int (nI (x + 1))), some (.int (nI n)), none]) (st' := []) d_57_79 (fun _ => rfl) ?_
          refine cr_dr (al1 := [some (.ref a), some (.int (nI 2)), some (.int (nI q)), some (.int (nI (x + 1))), none, none]) (le_s (le_s (le_s (le_s (le_d rfl (le_s (le_n))))))) ?_
          exact ihx  (all_s px py)
        · omega
  · show CR _ _ 2 [some (.ref a), some (.int (nI 2)), some (.int (nI q)), some (.int (nI n)), none, none] [] S G B J R _
    refine cr_nx (pc' := 3) (al' := [some (.ref a), some (.int (nI 2)), some (.int (nI q)), some (.int (nI n)), none, none]) (st' := [.int (nI n)]) d_57_2 (fun _ => rfl) ?_
    refine cr_nx (pc' := 4) (al' := [some (.ref a), some (.int (nI 2)), some (.int (nI q)), some (.int (nI n)), none, none]) (st' := [.ref a, .int (nI n)]) d_57_3 (fun _ => rfl) ?_
    refine cr_gf (v := .int (nI n)) d_57_4 cw_57 cf_7_21 ht.1 ht.2.2.1 (by decide) hn ?_
    refine cn_cge (t := 82) d_57_7 (by decide) (by first | omega | assumption | exact cu_36 (by omega) (cu_lt (by omega) (by omega))) (by first | omega | assumption | exact cu_36 (by omega) (cu_lt (by omega) (by omega))) (fun c7 => ?_) (fun c7 => ?_)
    · refine cn_ic (v := 1) d_57_82 (by decide) ?_
      exact cr_ri d_57_83 cx_57 (by decide) (bJ_t (decide_eq_true px))
    · omega
theorem k_joining0 {S : CS} {G : Nat → Nat → Value} {B : Nat → Nat → Int32} {J : Nat → Nat → Int64} {R : Nat → Nat → Option Nat} {a n : Nat} (ht : TabAt S G a) (hn : G a 0 = .int (nI n)) {c : Nat → Nat} (hc : TabC B a n c) : CR 3 56 0 [some (.ref a), some (.int (nI 0)), none, none] [] S G B J R (cP (some (.int (nI (setN (nuB 0 n c) n)))) S G B J R) := by
  have hn6 := hc.1
  refine cn_ic (v := 0) d_56_0 (by decide) ?_
  refine cr_nx (pc' := 2) (al' := [some (.ref a), some (.int (nI 0)), some (.int (nI 0)), none]) (st' := []) d_56_1 (fun _ => rfl) ?_
  refine cn_ic (v := 0) d_56_2 (by decide) ?_
  refine cr_nx (pc' := 4) (al' := [some (.ref a), some (.int (nI 0)), some (.int (nI 0)), some (.int (nI 0))]) (st' := []) d_56_3 (fun _ => rfl) ?_
  refine cr_al (congrArg (fun z__ : Nat => ([some (.ref a), some (.int (nI 0)), some (.int (nI z__)), some (.int (nI 0))] : AL)) (show 0 = setN (nuB 0 n c) 0 by first | rfl | omega | (simp only [SM_s]; omega) | (simp [SM_s, *]; done) | (simp [SM_s, *]; omega))) ?_
  refine cr_up (al := fun q => [some (.ref a), some (.int (nI 0)), some (.int (nI (setN (nuB 0 n c) q))), some (.int (nI q))]) (S := fun q => S) (G := fun q => G) (B := fun q => B) (J := fun q => J) (R := fun q => R) (P := fun q => True) (n := n) (fun q hq pq ihq => ?_) (fun pq => ?_) 0  (by omega) (trivial)
  · show CR _ _ 4 [some (.ref a), some (.int (nI 0)), some (.int (nI (setN (nuB 0 n c) q))), some (.int (nI q))] [] S G B J R _
    refine cr_nx (pc' := 5) (al' := [some (.ref a), some (.int (nI 0)), some (.int (nI (setN (nuB 0 n c) q))), some (.int (nI q))]) (st' := [.int (nI q)]) d_56_4 (fun _ => rfl) ?_
    refine cr_nx (pc' := 6) (al' := [some (.ref a), some (.int (nI 0)), some (.int (nI (setN (nuB 0 n c) q))), some (.int (nI q))]) (st' := [.ref a, .int (nI q)]) d_56_5 (fun _ => rfl) ?_
    refine cr_gf (v := .int (nI n)) d_56_6 cw_56 cf_7_21 ht.1 ht.2.2.1 (by decide) hn ?_
    refine cn_cge (t := 33) d_56_9 (by decide) (by first | omega | assumption | exact cu_36 (by omega) (cu_lt (by omega) (by omega))) (by first | omega | assumption | exact cu_36 (by omega) (cu_lt (by omega) (by omega))) (fun c9 => ?_) (fun c9 => ?_)
    · omega
    · refine cr_nx (pc' := 13) (al' := [some (.ref a), some (.int (nI 0)), some (.int (nI (setN (nuB 0 n c) q))), some (.int (nI q))]) (st' := [.ref a]) d_56_12 (fun _ => rfl) ?_
      refine cr_nx (pc' := 14) (al' := [some (.ref a), some (.int (nI 0)), some (.int (nI (setN (nuB 0 n c) q))), some (.int (nI q))]) (st' := [.int (nI 0), .ref a]) d_56_13 (fun _ => rfl) ?_
      refine cr_nx (pc' := 15) (al' := [some (.ref a), some (.int (nI 0)), some (.int (nI (setN (nuB 0 n c) q))), some (.int (nI q))]) (st' := [.int (nI q), .int (nI 0), .ref a]) d_56_14 (fun _ => rfl) ?_
      refine cr_ps (as := [.ref a, .int (nI 0), .int (nI q)]) (al0 := [some (.ref a), some (.int (nI 0)), some (.int (nI q)), none, none, none]) (r := []) d_56_15 cw_56 cm_7_79 (by decide) cz_57 rfl rfl rfl (Nat.le_of_ble_eq_true rfl) (k_joinsInSeat0 ht hn hc (by omega)) ?_
      show CR _ _ 18 [some (.ref a), some (.int (nI 0)), some (.int (nI (setN (nuB 0 n c) q))), some (.int (nI q))] [.int (bI (nuB 0 n c q = true))] S G B J R _
      refine cr_beq (t := 27) d_56_18 (by decide) (fun c18 => ?_) (fun c18 => ?_)
      · refine cn_inc d_56_27 rfl rfl ?_
        show CR _ _ 30 [some (.ref a), some (.int (nI 0)), some (.int (nI (setN (nuB 0 n c) q))), some (.int (nI (q + 1)))] [] S G B J R _
        refine cr_nx (pc' := 4) (al' := [some (.ref a), some (.int (nI 0)), some (.int (nI (setN (nuB 0 n c) q))), some (.int (nI (q + 1)))]) (st' := []) d_56_30 (fun _ => rfl) ?_
        refine cr_al (congrArg (fun z__ : Nat => ([some (.ref a), some (.int (nI 0)), some (.int (nI z__)), some (.int (nI (q + 1)))] : AL)) (show setN (nuB 0 n c) q = setN (nuB 0 n c) (q + 1) by first | (rw [setN, setN, ORs_s, if_pos c18]) | (rw [setN, setN, ORs_s, if_neg c18, Nat.or_zero]))) ?_
        exact ihq  (trivial)
      · refine cr_nx (pc' := 22) (al' := [some (.ref a), some (.int (nI 0)), some (.int (nI (setN (nuB 0 n c) q))), some (.int (nI q))]) (st' := [.int (nI (setN (nuB 0 n c) q))]) d_56_21 (fun _ => rfl) ?_
        refine cn_ic (v := 1) d_56_22 (by decide) ?_
        refine cr_nx (pc' := 24) (al' := [some (.ref a), some (.int (nI 0)), some (.int (nI (setN (nuB 0 n c) q))), some (.int (nI q))]) (st' := [.int (nI q), .int (nI 1), .int (nI (setN (nuB 0 n c) q))]) d_56_23 (fun _ => rfl) ?_
        refine cn_shl d_56_24 (by first | omega | assumption | exact cu_36 (by omega) (cu_lt (by omega) (by omega))) ?_
        refine cn_or d_56_25 ?_
        refine cr_nx (pc' := 27) (al' := [some (.ref a), some (.int (nI 0)), some (.int (nI ((setN (nuB 0 n c) q) ||| (1 * 2 ^ q)))), some (.int (nI q))]) (st' := []) d_56_26 (fun _ => rfl) ?_
        refine cn_inc d_56_27 rfl rfl ?_
        show CR _ _ 30 [some (.ref a), some (.int (nI 0)), some (.int (nI ((setN (nuB 0 n c) q) ||| (1 * 2 ^ q)))), some (.int (nI (q + 1)))] [] S G B J R _
        refine cr_nx (pc' := 4) (al' := [some (.ref a), some (.int (nI 0)), some (.int (nI ((setN (nuB 0 n c) q) ||| (1 * 2 ^ q)))), some (.int (nI (q + 1)))]) (st' := []) d_56_30 (fun _ => rfl) ?_
        refine cr_al (congrArg (fun z__ : Nat => ([some (.ref a), some (.int (nI 0)), some (.int (nI z__)), some (.int (nI (q + 1)))] : AL)) (show (setN (nuB 0 n c) q) ||| (1 * 2 ^ q) = setN (nuB 0 n c) (q + 1) by first | (rw [setN, setN, ORs_s, if_pos c18]) | (rw [setN, setN, ORs_s, if_neg c18, Nat.or_zero]))) ?_
        exact ihq  (trivial)
  · show CR _ _ 4 [some (.ref a), some (.int (nI 0)), some (.int (nI (setN (nuB 0 n c) n))), some (.int (nI n))] [] S G B J R _
    refine cr_nx (pc' := 5) (al' := [some (.ref a), some (.int (nI 0)), some (.int (nI (setN (nuB 0 n c) n))), some (.int (nI n))]) (st' := [.int (nI n)]) d_56_4 (fun _ => rfl) ?_
    refine cr_nx (pc' := 6) (al' := [some (.ref a), some (.int (nI 0)), some (.int (nI (setN (nuB 0 n c) n))), some (.int (nI n))]) (st' := [.ref a, .int (nI n)]) d_56_5 (fun _ => rfl) ?_
    refine cr_gf (v := .int (nI n)) d_56_6 cw_56 cf_7_21 ht.1 ht.2.2.1 (by decide) hn ?_
    refine cn_cge (t := 33) d_56_9 (by decide) (by first | omega | assumption | exact cu_36 (by omega) (cu_lt (by omega) (by omega))) (by first | omega | assumption | exact cu_36 (by omega) (cu_lt (by omega) (by omega))) (fun c9 => ?_) (fun c9 => ?_)
    · refine cr_nx (pc' := 34) (al' := [some (.ref a), some (.int (nI 0)), some (.int (nI (setN (nuB 0 n c) n))), some (.int (nI n))]) (st' := [.int (nI (setN (nuB 0 n c) n))]) d_56_33 (fun _ => rfl) ?_
      exact cr_ri d_56_34 cx_56 rfl ⟨rfl, rfl, rfl, rfl, rfl, rfl⟩
    · omega
theorem k_joining1 {S : CS} {G : Nat → Nat → Value} {B : Nat → Nat → Int32} {J : Nat → Nat → Int64} {R : Nat → Nat → Option Nat} {a n : Nat} (ht : TabAt S G a) (hn : G a 0 = .int (nI n)) {c : Nat → Nat} (hc : TabC B a n c) : CR 3 56 0 [some (.ref a), some (.int (nI 1)), none, none] [] S G B J R (cP (some (.int (nI (setN (nuB 1 n c) n)))) S G B J R) := by
  have hn6 := hc.1
  refine cn_ic (v := 0) d_56_0 (by decide) ?_
  refine cr_nx (pc' := 2) (al' := [some (.ref a), some (.int (nI 1)), some (.int (nI 0)), none]) (st' := []) d_56_1 (fun _ => rfl) ?_
  refine cn_ic (v := 0) d_56_2 (by decide) ?_
  refine cr_nx (pc' := 4) (al' := [some (.ref a), some (.int (nI 1)), some (.int (nI 0)), some (.int (nI 0))]) (st' := []) d_56_3 (fun _ => rfl) ?_
  refine cr_al (congrArg (fun z__ : Nat => ([some (.ref a), some (.int (nI 1)), some (.int (nI z__)), some (.int (nI 0))] : AL)) (show 0 = setN (nuB 1 n c) 0 by first | rfl | omega | (simp only [SM_s]; omega) | (simp [SM_s, *]; done) | (simp [SM_s, *]; omega))) ?_
  refine cr_up (al := fun q => [some (.ref a), some (.int (nI 1)), some (.int (nI (setN (nuB 1 n c) q))), some (.int (nI q))]) (S := fun q => S) (G := fun q => G) (B := fun q => B) (J := fun q => J) (R := fun q => R) (P := fun q => True) (n := n) (fun q hq pq ihq => ?_) (fun pq => ?_) 0  (by omega) (trivial)
  · show CR _ _ 4 [some (.ref a), some (.int (nI 1)), some (.int (nI (setN (nuB 1 n c) q))), some (.int (nI q))] [] S G B J R _
    refine cr_nx (pc' := 5) (al' := [some (.ref a), some (.int (nI 1)), some (.int (nI (setN (nuB 1 n c) q))), some (.int (nI q))]) (st' := [.int (nI q)]) d_56_4 (fun _ => rfl) ?_
    refine cr_nx (pc' := 6) (al' := [some (.ref a), some (.int (nI 1)), some (.int (nI (setN (nuB 1 n c) q))), some (.int (nI q))]) (st' := [.ref a, .int (nI q)]) d_56_5 (fun _ => rfl) ?_
    refine cr_gf (v := .int (nI n)) d_56_6 cw_56 cf_7_21 ht.1 ht.2.2.1 (by decide) hn ?_
    refine cn_cge (t := 33) d_56_9 (by decide) (by first | omega | assumption | exact cu_36 (by omega) (cu_lt (by omega) (by omega))) (by first | omega | assumption | exact cu_36 (by omega) (cu_lt (by omega) (by omega))) (fun c9 => ?_) (fun c9 => ?_)
    · omega
    · refine cr_nx (pc' := 13) (al' := [some (.ref a), some (.int (nI 1)), some (.int (nI (setN (nuB 1 n c) q))), some (.int (nI q))]) (st' := [.ref a]) d_56_12 (fun _ => rfl) ?_
      refine cr_nx (pc' := 14) (al' := [some (.ref a), some (.int (nI 1)), some (.int (nI (setN (nuB 1 n c) q))), some (.int (nI q))]) (st' := [.int (nI 1), .ref a]) d_56_13 (fun _ => rfl) ?_
      refine cr_nx (pc' := 15) (al' := [some (.ref a), some (.int (nI 1)), some (.int (nI (setN (nuB 1 n c) q))), some (.int (nI q))]) (st' := [.int (nI q), .int (nI 1), .ref a]) d_56_14 (fun _ => rfl) ?_
      refine cr_ps (as := [.ref a, .int (nI 1), .int (nI q)]) (al0 := [some (.ref a), some (.int (nI 1)), some (.int (nI q)), none, none, none]) (r := []) d_56_15 cw_56 cm_7_79 (by decide) cz_57 rfl rfl rfl (Nat.le_of_ble_eq_true rfl) (k_joinsInSeat1 ht hn hc (by omega)) ?_
      show CR _ _ 18 [some (.ref a), some (.int (nI 1)), some (.int (nI (setN (nuB 1 n c) q))), some (.int (nI q))] [.int (bI (nuB 1 n c q = true))] S G B J R _
      refine cr_beq (t := 27) d_56_18 (by decide) (fun c18 => ?_) (fun c18 => ?_)
      · refine cn_inc d_56_27 rfl rfl ?_
        show CR _ _ 30 [some (.ref a), some (.int (nI 1)), some (.int (nI (setN (nuB 1 n c) q))), some (.int (nI (q + 1)))] [] S G B J R _
        refine cr_nx (pc' := 4) (al' := [some (.ref a), some (.int (nI 1)), some (.int (nI (setN (nuB 1 n c) q))), some (.int (nI (q + 1)))]) (st' := []) d_56_30 (fun _ => rfl) ?_
        refine cr_al (congrArg (fun z__ : Nat => ([some (.ref a), some (.int (nI 1)), some (.int (nI z__)), some (.int (nI (q + 1)))] : AL)) (show setN (nuB 1 n c) q = setN (nuB 1 n c) (q + 1) by first | (rw [setN, setN, ORs_s, if_pos c18]) | (rw [setN, setN, ORs_s, if_neg c18, Nat.or_zero]))) ?_
        exact ihq  (trivial)
      · refine cr_nx (pc' := 22) (al' := [some (.ref a), some (.int (nI 1)), some (.int (nI (setN (nuB 1 n c) q))), some (.int (nI q))]) (st' := [.int (nI (setN (nuB 1 n c) q))]) d_56_21 (fun _ => rfl) ?_
        refine cn_ic (v := 1) d_56_22 (by decide) ?_
        refine cr_nx (pc' := 24) (al' := [some (.ref a), some (.int (nI 1)), some (.int (nI (setN (nuB 1 n c) q))), some (.int (nI q))]) (st' := [.int (nI q), .int (nI 1), .int (nI (setN (nuB 1 n c) q))]) d_56_23 (fun _ => rfl) ?_
        refine cn_shl d_56_24 (by first | omega | assumption | exact cu_36 (by omega) (cu_lt (by omega) (by omega))) ?_
        refine cn_or d_56_25 ?_
        refine cr_nx (pc' := 27) (al' := [some (.ref a), some (.int (nI 1)), some (.int (nI ((setN (nuB 1 n c) q) ||| (1 * 2 ^ q)))), some (.int (nI q))]) (st' := []) d_56_26 (fun _ => rfl) ?_
        refine cn_inc d_56_27 rfl rfl ?_
        show CR _ _ 30 [some (.ref a), some (.int (nI 1)), some (.int (nI ((setN (nuB 1 n c) q) ||| (1 * 2 ^ q)))), some (.int (nI (q + 1)))] [] S G B J R _
        refine cr_nx (pc' := 4) (al' := [some (.ref a), some (.int (nI 1)), some (.int (nI ((setN (nuB 1 n c) q) ||| (1 * 2 ^ q)))), some (.int (nI (q + 1)))]) (st' := []) d_56_30 (fun _ => rfl) ?_
        refine cr_al (congrArg (fun z__ : Nat => ([some (.ref a), some (.int (nI 1)), some (.int (nI z__)), some (.int (nI (q + 1)))] : AL)) (show (setN (nuB 1 n c) q) ||| (1 * 2 ^ q) = setN (nuB 1 n c) (q + 1) by first | (rw [setN, setN, ORs_s, if_pos c18]) | (rw [setN, setN, ORs_s, if_neg c18, Nat.or_zero]))) ?_
        exact ihq  (trivial)
  · show CR _ _ 4 [some (.ref a), some (.int (nI 1)), some (.int (nI (setN (nuB 1 n c) n))), some (.int (nI n))] [] S G B J R _
    refine cr_nx (pc' := 5) (al' := [some (.ref a), some (.int (nI 1)), some (.int (nI (setN (nuB 1 n c) n))), some (.int (nI n))]) (st' := [.int (nI n)]) d_56_4 (fun _ => rfl) ?_
    refine cr_nx (pc' := 6) (al' := [some (.ref a), some (.int (nI 1)), some (.int (nI (setN (nuB 1 n c) n))), some (.int (nI n))]) (st' := [.ref a, .int (nI n)]) d_56_5 (fun _ => rfl) ?_
    refine cr_gf (v := .int (nI n)) d_56_6 cw_56 cf_7_21 ht.1 ht.2.2.1 (by decide) hn ?_
    refine cn_cge (t := 33) d_56_9 (by decide) (by first | omega | assumption | exact cu_36 (by omega) (cu_lt (by omega) (by omega))) (by first | omega | assumption | exact cu_36 (by omega) (cu_lt (by omega) (by omega))) (fun c9 => ?_) (fun c9 => ?_)
    · refine cr_nx (pc' := 34) (al' := [some (.ref a), some (.int (nI 1)), some (.int (nI (setN (nuB 1 n c) n))), some (.int (nI n))]) (st' := [.int (nI (setN (nuB 1 n c) n))]) d_56_33 (fun _ => rfl) ?_
      exact cr_ri d_56_34 cx_56 rfl ⟨rfl, rfl, rfl, rfl, rfl, rfl⟩
    · omega
theorem k_joining2 {S : CS} {G : Nat → Nat → Value} {B : Nat → Nat → Int32} {J : Nat → Nat → Int64} {R : Nat → Nat → Option Nat} {a n : Nat} (ht : TabAt S G a) (hn : G a 0 = .int (nI n)) {c : Nat → Nat} (hc : TabC B a n c) : CR 3 56 0 [some (.ref a), some (.int (nI 2)), none, none] [] S G B J R (cP (some (.int (nI (setN (nuB 2 n c) n)))) S G B J R) := by
  have hn6 := hc.1
  refine cn_ic (v := 0) d_56_0 (by decide) ?_
  refine cr_nx (pc' := 2) (al' := [some (.ref a), some (.int (nI 2)), some (.int (nI 0)), none]) (st' := []) d_56_1 (fun _ => rfl) ?_
  refine cn_ic (v := 0) d_56_2 (by decide) ?_
  refine cr_nx (pc' := 4) (al' := [some (.ref a), some (.int (nI 2)), some (.int (nI 0)), some (.int (nI 0))]) (st' := []) d_56_3 (fun _ => rfl) ?_
  refine cr_al (congrArg (fun z__ : Nat => ([some (.ref a), some (.int (nI 2)), some (.int (nI z__)), some (.int (nI 0))] : AL)) (show 0 = setN (nuB 2 n c) 0 by first | rfl | omega | (simp only [SM_s]; omega) | (simp [SM_s, *]; done) | (simp [SM_s, *]; omega))) ?_
  refine cr_up (al := fun q => [some (.ref a), some (.int (nI 2)), some (.int (nI (setN (nuB 2 n c) q))), some (.int (nI q))]) (S := fun q => S) (G := fun q => G) (B := fun q => B) (J := fun q => J) (R := fun q => R) (P := fun q => True) (n := n) (fun q hq pq ihq => ?_) (fun pq => ?_) 0  (by omega) (trivial)
  · show CR _ _ 4 [some (.ref a), some (.int (nI 2)), some (.int (nI (setN (nuB 2 n c) q))), some (.int (nI q))] [] S G B J R _
    refine cr_nx (pc' := 5) (al' := [some (.ref a), some (.int (nI 2)), some (.int (nI (setN (nuB 2 n c) q))), some (.int (nI q))]) (st' := [.int (nI q)]) d_56_4 (fun _ => rfl) ?_
    refine cr_nx (pc' := 6) (al' := [some (.ref a), some (.int (nI 2)), some (.int (nI (setN (nuB 2 n c) q))), some (.int (nI q))]) (st' := [.ref a, .int (nI q)]) d_56_5 (fun _ => rfl) ?_
    refine cr_gf (v := .int (nI n)) d_56_6 cw_56 cf_7_21 ht.1 ht.2.2.1 (by decide) hn ?_
    refine cn_cge (t := 33) d_56_9 (by decide) (by first | omega | assumption | exact cu_36 (by omega) (cu_lt (by omega) (by omega))) (by first | omega | assumption | exact cu_36 (by omega) (cu_lt (by omega) (by omega))) (fun c9 => ?_) (fun c9 => ?_)
    · omega
    · refine cr_nx (pc' := 13) (al' := [some (.ref a), some (.int (nI 2)), some (.int (nI (setN (nuB 2 n c) q))), some (.int (nI q))]) (st' := [.ref a]) d_56_12 (fun _ => rfl) ?_
      refine cr_nx (pc' := 14) (al' := [some (.ref a), some (.int (nI 2)), some (.int (nI (setN (nuB 2 n c) q))), some (.int (nI q))]) (st' := [.int (nI 2), .ref a]) d_56_13 (fun _ => rfl) ?_
      refine cr_nx (pc' := 15) (al' := [some (.ref a), some (.int (nI 2)), some (.int (nI (setN (nuB 2 n c) q))), some (.int (nI q))]) (st' := [.int (nI q), .int (nI 2), .ref a]) d_56_14 (fun _ => rfl) ?_
      refine cr_ps (as := [.ref a, .int (nI 2), .int (nI q)]) (al0 := [some (.ref a), some (.int (nI 2)), some (.int (nI q)), none, none, none]) (r := []) d_56_15 cw_56 cm_7_79 (by decide) cz_57 rfl rfl rfl (Nat.le_of_ble_eq_true rfl) (k_joinsInSeat2 ht hn hc (by omega)) ?_
      show CR _ _ 18 [some (.ref a), some (.int (nI 2)), some (.int (nI (setN (nuB 2 n c) q))), some (.int (nI q))] [.int (bI (nuB 2 n c q = true))] S G B J R _
      refine cr_beq (t := 27) d_56_18 (by decide) (fun c18 => ?_) (fun c18 => ?_)
      · refine cn_inc d_56_27 rfl rfl ?_
        show CR _ _ 30 [some (.ref a), some (.int (nI 2)), some (.int (nI (setN (nuB 2 n c) q))), some (.int (nI (q + 1)))] [] S G B J R _
        refine cr_nx (pc' := 4) (al' := [some (.ref a), some (.int (nI 2)), some (.int (nI (setN (nuB 2 n c) q))), some (.int (nI (q + 1)))]) (st' := []) d_56_30 (fun _ => rfl) ?_
        refine cr_al (congrArg (fun z__ : Nat => ([some (.ref a), some (.int (nI 2)), some (.int (nI z__)), some (.int (nI (q + 1)))] : AL)) (show setN (nuB 2 n c) q = setN (nuB 2 n c) (q + 1) by first | (rw [setN, setN, ORs_s, if_pos c18]) | (rw [setN, setN, ORs_s, if_neg c18, Nat.or_zero]))) ?_
        exact ihq  (trivial)
      · refine cr_nx (pc' := 22) (al' := [some (.ref a), some (.int (nI 2)), some (.int (nI (setN (nuB 2 n c) q))), some (.int (nI q))]) (st' := [.int (nI (setN (nuB 2 n c) q))]) d_56_21 (fun _ => rfl) ?_
        refine cn_ic (v := 1) d_56_22 (by decide) ?_
        refine cr_nx (pc' := 24) (al' := [some (.ref a), some (.int (nI 2)), some (.int (nI (setN (nuB 2 n c) q))), some (.int (nI q))]) (st' := [.int (nI q), .int (nI 1), .int (nI (setN (nuB 2 n c) q))]) d_56_23 (fun _ => rfl) ?_
        refine cn_shl d_56_24 (by first | omega | assumption | exact cu_36 (by omega) (cu_lt (by omega) (by omega))) ?_
        refine cn_or d_56_25 ?_
        refine cr_nx (pc' := 27) (al' := [some (.ref a), some (.int (nI 2)), some (.int (nI ((setN (nuB 2 n c) q) ||| (1 * 2 ^ q)))), some (.int (nI q))]) (st' := []) d_56_26 (fun _ => rfl) ?_
        refine cn_inc d_56_27 rfl rfl ?_
        show CR _ _ 30 [some (.ref a), some (.int (nI 2)), some (.int (nI ((setN (nuB 2 n c) q) ||| (1 * 2 ^ q)))), some (.int (nI (q + 1)))] [] S G B J R _
        refine cr_nx (pc' := 4) (al' := [some (.ref a), some (.int (nI 2)), some (.int (nI ((setN (nuB 2 n c) q) ||| (1 * 2 ^ q)))), some (.int (nI (q + 1)))]) (st' := []) d_56_30 (fun _ => rfl) ?_
        refine cr_al (congrArg (fun z__ : Nat => ([some (.ref a), some (.int (nI 2)), some (.int (nI z__)), some (.int (nI (q + 1)))] : AL)) (show (setN (nuB 2 n c) q) ||| (1 * 2 ^ q) = setN (nuB 2 n c) (q + 1) by first | (rw [setN, setN, ORs_s, if_pos c18]) | (rw [setN, setN, ORs_s, if_neg c18, Nat.or_zero]))) ?_
        exact ihq  (trivial)
  · show CR _ _ 4 [some (.ref a), some (.int (nI 2)), some (.int (nI (setN (nuB 2 n c) n))), some (.int (nI n))] [] S G B J R _
    refine cr_nx (pc' := 5) (al' := [some (.ref a), some (.int (nI 2)), some (.int (nI (setN (nuB 2 n c) n))), some (.int (nI n))]) (st' := [.int (nI n)]) d_56_4 (fun _ => rfl) ?_
    refine cr_nx (pc' := 6) (al' := [some (.ref a), some (.int (nI 2)), some (.int (nI (setN (nuB 2 n c) n))), some (.int (nI n))]) (st' := [.ref a, .int (nI n)]) d_56_5 (fun _ => rfl) ?_
    refine cr_gf (v := .int (nI n)) d_56_6 cw_56 cf_7_21 ht.1 ht.2.2.1 (by decide) hn ?_
    refine cn_cge (t := 33) d_56_9 (by decide) (by first | omega | assumption | exact cu_36 (by omega) (cu_lt (by omega) (by omega))) (by first | omega | assumption | exact cu_36 (by omega) (cu_lt (by omega) (by omega))) (fun c9 => ?_) (fun c9 => ?_)
    · refine cr_nx (pc' := 34) (al' := [some (.ref a), some (.int (nI 2)), some (.int (nI (setN (nuB 2 n c) n))), some (.int (nI n))]) (st' := [.int (nI (setN (nuB 2 n c) n))]) d_56_33 (fun _ => rfl) ?_
      exact cr_ri d_56_34 cx_56 rfl ⟨rfl, rfl, rfl, rfl, rfl, rfl⟩
    · omega
theorem set_and {p q : Nat → Bool} {n : Nat} : setN (fun a => p a && q a) n = setN p n &&& setN q n := by
  apply Nat.eq_of_testBit_eq
  intro k
  rw [Nat.testBit_and, Bool.eq_iff_iff, Bool.and_eq_true, setN_bit, setN_bit, setN_bit, Bool.and_eq_true]
  constructor
  · rintro ⟨h, a, b⟩
    exact ⟨⟨h, a⟩, h, b⟩
  · rintro ⟨⟨h, a⟩, _, b⟩
    exact ⟨h, a, b⟩
theorem nuV3 {n : Nat} {c : Nat → Nat} : nuV 3 n c = setN (nuB 0 n c) n &&& setN (nuB 1 n c) n &&& setN (nuB 2 n c) n := by
  rw [← set_and, ← set_and]
  rfl
theorem nuV5 {n : Nat} {c : Nat → Nat} : nuV 5 n c = nuV 3 n c &&& setN (nuB 3 n c) n := by
  show setN (fun a => nuF 3 n c a && nuB 3 n c a) n = _
  rw [set_and]
  rfl
theorem k_joiningAll {S : CS} {G : Nat → Nat → Value} {B : Nat → Nat → Int32} {J : Nat → Nat → Int64} {R : Nat → Nat → Option Nat} {a n : Nat} (ht : TabAt S G a) (hn : G a 0 = .int (nI n)) {c : Nat → Nat} (hc : TabC B a n c) : CR 4 59 0 [some (.ref a)] [] S G B J R (cP (some (.int (nI (nuV 3 n c)))) S G B J R) := by
  rw [show nuV 3 n c = setN (nuB 0 n c) n &&& setN (nuB 1 n c) n &&& setN (nuB 2 n c) n from nuV3]
  refine cr_nx (pc' := 1) (al' := [some (.ref a)]) (st' := [.ref a]) d_59_0 (fun _ => rfl) ?_
  refine cn_ic (v := 0) d_59_1 (by decide) ?_
  refine cr_ps (as := [.ref a, .int (nI 0)]) (al0 := [some (.ref a), some (.int (nI 0)), none, none]) (r := []) d_59_2 cw_59 cm_7_69 (by decide) cz_56 rfl rfl rfl (Nat.le_of_ble_eq_true rfl) (k_joining0 ht hn hc) ?_
  show CR _ _ 5 [some (.ref a)] [.int (nI (setN (nuB 0 n c) n))] S G B J R _
  refine cr_nx (pc' := 6) (al' := [some (.ref a)]) (st' := [.ref a, .int (nI (setN (nuB 0 n c) n))]) d_59_5 (fun _ => rfl) ?_
  refine cn_ic (v := 1) d_59_6 (by decide) ?_
  refine cr_ps (as := [.ref a, .int (nI 1)]) (al0 := [some (.ref a), some (.int (nI 1)), none, none]) (r := [.int (nI (setN (nuB 0 n c) n))]) d_59_7 cw_59 cm_7_69 (by decide) cz_56 rfl rfl rfl (Nat.le_of_ble_eq_true rfl) (k_joining1 ht hn hc) ?_
  show CR _ _ 10 [some (.ref a)] [.int (nI (setN (nuB 1 n c) n)), .int (nI (setN (nuB 0 n c) n))] S G B J R _
  refine cn_and d_59_10 ?_
  refine cr_nx (pc' := 12) (al' := [some (.ref a)]) (st' := [.ref a, .int (nI ((setN (nuB 0 n c) n) &&& (setN (nuB 1 n c) n)))]) d_59_11 (fun _ => rfl) ?_
  refine cn_ic (v := 2) d_59_12 (by decide) ?_
  refine cr_ps (as := [.ref a, .int (nI 2)]) (al0 := [some (.ref a), some (.int (nI 2)), none, none]) (r := [.int (nI ((setN (nuB 0 n c) n) &&& (setN (nuB 1 n c) n)))]) d_59_13 cw_59 cm_7_69 (by decide) cz_56 rfl rfl rfl (Nat.le_of_ble_eq_true rfl) (k_joining2 ht hn hc) ?_
  show CR _ _ 16 [some (.ref a)] [.int (nI (setN (nuB 2 n c) n)), .int (nI ((setN (nuB 0 n c) n) &&& (setN (nuB 1 n c) n)))] S G B J R _
  refine cn_and d_59_16 ?_
  exact cr_ri d_59_17 cx_59 rfl ⟨rfl, rfl, rfl, rfl, rfl, rfl⟩
theorem k_commutant {S : CS} {G : Nat → Nat → Value} {B : Nat → Nat → Int32} {J : Nat → Nat → Int64} {R : Nat → Nat → Option Nat} {a n : Nat} (ht : TabAt S G a) (hn : G a 0 = .int (nI n)) {c : Nat → Nat} (hc : TabC B a n c) : CR 1 60 0 [some (.ref a), none, none, none] [] S G B J R (cP (some (.int (nI (setN (nuB 3 n c) n)))) S G B J R) := by
  have hn6 := hc.1
  refine cn_ic (v := 0) d_60_0 (by decide) ?_
  refine cr_nx (pc' := 2) (al' := [some (.ref a), some (.int (nI 0)), none, none]) (st' := []) d_60_1 (fun _ => rfl) ?_
  refine cn_ic (v := 0) d_60_2 (by decide) ?_
  refine cr_nx (pc' := 4) (al' := [some (.ref a), some (.int (nI 0)), some (.int (nI 0)), none]) (st' := []) d_60_3 (fun _ => rfl) ?_
  refine cr_al (congrArg (fun z__ : Nat => ([some (.ref a), some (.int (nI z__)), some (.int (nI 0)), none] : AL)) (show 0 = setN (nuB 3 n c) 0 by first | rfl | omega | (simp only [SM_s]; omega) | (simp [SM_s, *]; done) | (simp [SM_s, *]; omega))) ?_
  refine cr_up (al := fun q => [some (.ref a), some (.int (nI (setN (nuB 3 n c) q))), some (.int (nI q)), none]) (S := fun q => S) (G := fun q => G) (B := fun q => B) (J := fun q => J) (R := fun q => R) (P := fun q => True) (n := n) (fun q hq pq ihq => ?_) (fun pq => ?_) 0  (by omega) (trivial)
  · show CR _ _ 4 [some (.ref a), some (.int (nI (setN (nuB 3 n c) q))), some (.int (nI q)), none] [] S G B J R _
    obtain ⟨d, hdd⟩ : ∃ d, d = FX (fun x => decide (¬ c (n * q + x) = c (n * x + q))) n := ⟨_, rfl⟩
    have hdn : d ≤ n := by rw [hdd]; exact FX_le _ n
    have hu : ∀ x, x < d → c (n * q + x) = c (n * x + q) := fun x hx => Decidable.not_not.mp (of_decide_eq_false (FX_no _ n x (by rw [hdd] at hx; exact hx)))
    have hy : d < n → ¬ c (n * q + d) = c (n * d + q) := fun h => by rw [hdd] at h ⊢; exact of_decide_eq_true (FX_yes _ n h)
    have h3 : nuB 3 n c q = true ↔ d = n := ⟨fun e => (Nat.lt_or_ge d n).elim (fun h => absurd (of_decide_eq_true e d h) (hy h)) (fun h => by omega), fun e => decide_eq_true (fun x hx => hu x (by omega))⟩
    refine cr_nx (pc' := 5) (al' := [some (.ref a), some (.int (nI (setN (nuB 3 n c) q))), some (.int (nI q)), none]) (st' := [.int (nI q)]) d_60_4 (fun _ => rfl) ?_
    refine cr_nx (pc' := 6) (al' := [some (.ref a), some (.int (nI (setN (nuB 3 n c) q))), some (.int (nI q)), none]) (st' := [.ref a, .int (nI q)]) d_60_5 (fun _ => rfl) ?_
    refine cr_gf (v := .int (nI n)) d_60_6 cw_60 cf_7_21 ht.1 ht.2.2.1 (by decide) hn ?_
    refine cn_cge (t := 63) d_60_9 (by decide) (by first | omega | assumption | exact cu_36 (by omega) (cu_lt (by omega) (by omega))) (by first | omega | assumption | exact cu_36 (by omega) (cu_lt (by omega) (by omega))) (fun c9 => ?_) (fun c9 => ?_)
    · omega
    · refine cn_ic (v := 0) d_60_12 (by decide) ?_
      refine cr_nx (pc' := 14) (al' := [some (.ref a), some (.int (nI (setN (nuB 3 n c) q))), some (.int (nI q)), some (.int (nI 0))]) (st' := []) d_60_13 (fun _ => rfl) ?_
      refine cr_up (al := fun x => [some (.ref a), some (.int (nI (setN (nuB 3 n c) q))), some (.int (nI q)), some (.int (nI x))]) (S := fun x => S) (G := fun x => G) (B := fun x => B) (J := fun x => J) (R := fun x => R) (P := fun x => True) (n := d) (fun x hx px ihx => ?_) (fun px => ?_) 0  (by omega) (trivial)
      · show CR _ _ 14 [some (.ref a), some (.int (nI (setN (nuB 3 n c) q))), some (.int (nI q)), some (.int (nI x))] [] S G B J R _
        refine cr_nx (pc' := 15) (al' := [some (.ref a), some (.int (nI (setN (nuB 3 n c) q))), some (.int (nI q)), some (.int (nI x))]) (st' := [.int (nI x)]) d_60_14 (fun _ => rfl) ?_
        refine cr_nx (pc' := 16) (al' := [some (.ref a), some (.int (nI (setN (nuB 3 n c) q))), some (.int (nI q)), some (.int (nI x))]) (st' := [.ref a, .int (nI x)]) d_60_15 (fun _ => rfl) ?_
        refine cr_gf (v := .int (nI n)) d_60_16 cw_60 cf_7_21 ht.1 ht.2.2.1 (by decide) hn ?_
        refine cn_cge (t := 43) d_60_19 (by decide) (by first | omega | assumption | exact cu_36 (by omega) (cu_lt (by omega) (by omega))) (by first | omega | assumption | exact cu_36 (by omega) (cu_lt (by omega) (by omega))) (fun c19 => ?_) (fun c19 => ?_)
        · omega
        · refine cr_nx (pc' := 23) (al' := [some (.ref a), some (.int (nI (setN (nuB 3 n c) q))), some (.int (nI q)), some (.int (nI x))]) (st' := [.ref a]) d_60_22 (fun _ => rfl) ?_
          refine cr_nx (pc' := 24) (al' := [some (.ref a), some (.int (nI (setN (nuB 3 n c) q))), some (.int (nI q)), some (.int (nI x))]) (st' := [.int (nI q), .ref a]) d_60_23 (fun _ => rfl) ?_
          refine cr_nx (pc' := 25) (al' := [some (.ref a), some (.int (nI (setN (nuB 3 n c) q))), some (.int (nI q)), some (.int (nI x))]) (st' := [.int (nI x), .int (nI q), .ref a]) d_60_24 (fun _ => rfl) ?_
          refine cr_pv (b := a) (as := [.int (nI q), .int (nI x)]) (al0 := [some (.ref a), some (.int (nI q)), some (.int (nI x))]) (r := []) d_60_25 cw_60 cm_7_29 cz_91 rfl rfl ht.1 (by rw [cw_91]; exact ht.2.2.1) (by rw [cw_91]; decide) rfl (Nat.le_of_ble_eq_true rfl) (k_times ht hn hc (by omega) (by omega)) ?_
          show CR _ _ 28 [some (.ref a), some (.int (nI (setN (nuB 3 n c) q))), some (.int (nI q)), some (.int (nI x))] [.int (nI (c (n * q + x)))] S G B J R _
          have b25 : c (n * q + x) < n := (hc.2 _ (cu_lt (by omega) (by omega))).2
          refine cr_nx (pc' := 29) (al' := [some (.ref a), some (.int (nI (setN (nuB 3 n c) q))), some (.int (nI q)), some (.int (nI x))]) (st' := [.ref a, .int (nI (c (n * q + x)))]) d_60_28 (fun _ => rfl) ?_
          refine cr_nx (pc' := 30) (al' := [some (.ref a), some (.int (nI (setN (nuB 3 n c) q))), some (.int (nI q)), some (.int (nI x))]) (st' := [.int (nI x), .ref a, .int (nI (c (n * q + x)))]) d_60_29 (fun _ => rfl) ?_
          refine cr_nx (pc' := 31) (al' := [some (.ref a), some (.int (nI (setN (nuB 3 n c) q))), some (.int (nI q)), some (.int (nI x))]) (st' := [.int (nI q), .int (nI x), .ref a, .int (nI (c (n * q + x)))]) d_60_30 (fun _ => rfl) ?_
          refine cr_pv (b := a) (as := [.int (nI x), .int (nI q)]) (al0 := [some (.ref a), some (.int (nI x)), some (.int (nI q))]) (r := [.int (nI (c (n * q + x)))]) d_60_31 cw_60 cm_7_29 cz_91 rfl rfl ht.1 (by rw [cw_91]; exact ht.2.2.1) (by rw [cw_91]; decide) rfl (Nat.le_of_ble_eq_true rfl) (k_times ht hn hc (by omega) (by omega)) ?_
          show CR _ _ 34 [some (.ref a), some (.int (nI (setN (nuB 3 n c) q))), some (.int (nI q)), some (.int (nI x))] [.int (nI (c (n * x + q))), .int (nI (c (n * q + x)))] S G B J R _
          have b31 : c (n * x + q) < n := (hc.2 _ (cu_lt (by omega) (by omega))).2
          refine cn_cne (t := 43) d_60_34 (by decide) (by first | omega | assumption | exact cu_36 (by omega) (cu_lt (by omega) (by omega))) (by first | omega | assumption | exact cu_36 (by omega) (cu_lt (by omega) (by omega))) (fun c34 => ?_) (fun c34 => ?_)
          · exact absurd (hu x hx) c34
          · refine cn_inc d_60_37 rfl rfl ?_
            show CR _ _ 40 [some (.ref a), some (.int (nI (setN (nuB 3 n c) q))), some (.int (nI q)), some (.int (nI (x + 1)))] [] S G B J R _
            refine cr_nx (pc' := 14) (al' := [some (.ref a), some (.int (nI (setN (nuB 3 n c) q))), some (.int (nI q)), some (.int (nI (x + 1)))]) (st' := []) d_60_40 (fun _ => rfl) ?_
            exact ihx  (trivial)
      · show CR _ _ 14 [some (.ref a), some (.int (nI (setN (nuB 3 n c) q))), some (.int (nI q)), some (.int (nI d))] [] S G B J R _
        refine cr_nx (pc' := 15) (al' := [some (.ref a), some (.int (nI (setN (nuB 3 n c) q))), some (.int (nI q)), some (.int (nI d))]) (st' := [.int (nI d)]) d_60_14 (fun _ => rfl) ?_
        refine cr_nx (pc' := 16) (al' := [some (.ref a), some (.int (nI (setN (nuB 3 n c) q))), some (.int (nI q)), some (.int (nI d))]) (st' := [.ref a, .int (nI d)]) d_60_15 (fun _ => rfl) ?_
        refine cr_gf (v := .int (nI n)) d_60_16 cw_60 cf_7_21 ht.1 ht.2.2.1 (by decide) hn ?_
        refine cn_cge (t := 43) d_60_19 (by decide) (by first | omega | assumption | exact cu_36 (by omega) (cu_lt (by omega) (by omega))) (by first | omega | assumption | exact cu_36 (by omega) (cu_lt (by omega) (by omega))) (fun c19 => ?_) (fun c19 => ?_)
        · refine cr_nx (pc' := 44) (al' := [some (.ref a), some (.int (nI (setN (nuB 3 n c) q))), some (.int (nI q)), some (.int (nI d))]) (st' := [.int (nI d)]) d_60_43 (fun _ => rfl) ?_
          refine cr_nx (pc' := 45) (al' := [some (.ref a), some (.int (nI (setN (nuB 3 n c) q))), some (.int (nI q)), some (.int (nI d))]) (st' := [.ref a, .int (nI d)]) d_60_44 (fun _ => rfl) ?_
          refine cr_gf (v := .int (nI n)) d_60_45 cw_60 cf_7_21 ht.1 ht.2.2.1 (by decide) hn ?_
          refine cn_cne (t := 57) d_60_48 (by decide) (by first | omega | assumption | exact cu_36 (by omega) (cu_lt (by omega) (by omega))) (by first | omega | assumption | exact cu_36 (by omega) (cu_lt (by omega) (by omega))) (fun c48 => ?_) (fun c48 => ?_)
          · refine cn_inc d_60_57 rfl rfl ?_
            show CR _ _ 60 [some (.ref a), some (.int (nI (setN (nuB 3 n c) q))), some (.int (nI (q + 1))), some (.int (nI d))] [] S G B J R _
            refine cr_nx (pc' := 4) (al' := [some (.ref a), some (.int (nI (setN (nuB 3 n c) q))), some (.int (nI (q + 1))), some (.int (nI d))]) (st' := []) d_60_60 (fun _ => rfl) ?_
            refine cr_al (congrArg (fun z__ : Nat => ([some (.ref a), some (.int (nI z__)), some (.int (nI (q + 1))), some (.int (nI d))] : AL)) (show setN (nuB 3 n c) q = setN (nuB 3 n c) (q + 1) by first | (rw [setN, setN, ORs_s, if_pos (h3.mpr c48)]) | (rw [setN, setN, ORs_s, if_neg (fun e => c48 (h3.mp e)), Nat.or_zero]))) ?_
            refine cr_dr (al1 := [some (.ref a), some (.int (nI (setN (nuB 3 n c) (q + 1)))), some (.int (nI (q + 1))), none]) (le_s (le_s (le_s (le_d rfl (le_n))))) ?_
            exact ihq  (trivial)
          · refine cr_nx (pc' := 52) (al' := [some (.ref a), some (.int (nI (setN (nuB 3 n c) q))), some (.int (nI q)), some (.int (nI d))]) (st' := [.int (nI (setN (nuB 3 n c) q))]) d_60_51 (fun _ => rfl) ?_
            refine cn_ic (v := 1) d_60_52 (by decide) ?_
            refine cr_nx (pc' := 54) (al' := [some (.ref a), some (.int (nI (setN (nuB 3 n c) q))), some (.int (nI q)), some (.int (nI d))]) (st' := [.int (nI q), .int (nI 1), .int (nI (setN (nuB 3 n c) q))]) d_60_53 (fun _ => rfl) ?_
            refine cn_shl d_60_54 (by first | omega | assumption | exact cu_36 (by omega) (cu_lt (by omega) (by omega))) ?_
            refine cn_or d_60_55 ?_
            refine cr_nx (pc' := 57) (al' := [some (.ref a), some (.int (nI ((setN (nuB 3 n c) q) ||| (1 * 2 ^ q)))), some (.int (nI q)), some (.int (nI d))]) (st' := []) d_60_56 (fun _ => rfl) ?_
            refine cn_inc d_60_57 rfl rfl ?_
            show CR _ _ 60 [some (.ref a), some (.int (nI ((setN (nuB 3 n c) q) ||| (1 * 2 ^ q)))), some (.int (nI (q + 1))), some (.int (nI d))] [] S G B J R _
            refine cr_nx (pc' := 4) (al' := [some (.ref a), some (.int (nI ((setN (nuB 3 n c) q) ||| (1 * 2 ^ q)))), some (.int (nI (q + 1))), some (.int (nI d))]) (st' := []) d_60_60 (fun _ => rfl) ?_
            refine cr_al (congrArg (fun z__ : Nat => ([some (.ref a), some (.int (nI z__)), some (.int (nI (q + 1))), some (.int (nI d))] : AL)) (show (setN (nuB 3 n c) q) ||| (1 * 2 ^ q) = setN (nuB 3 n c) (q + 1) by first | (rw [setN, setN, ORs_s, if_pos (h3.mpr c48)]) | (rw [setN, setN, ORs_s, if_neg (fun e => c48 (h3.mp e)), Nat.or_zero]))) ?_
            refine cr_dr (al1 := [some (.ref a), some (.int (nI (setN (nuB 3 n c) (q + 1)))), some (.int (nI (q + 1))), none]) (le_s (le_s (le_s (le_d rfl (le_n))))) ?_
            exact ihq  (trivial)
        · refine cr_nx (pc' := 23) (al' := [some (.ref a), some (.int (nI (setN (nuB 3 n c) q))), some (.int (nI q)), some (.int (nI d))]) (st' := [.ref a]) d_60_22 (fun _ => rfl) ?_
          refine cr_nx (pc' := 24) (al' := [some (.ref a), some (.int (nI (setN (nuB 3 n c) q))), some (.int (nI q)), some (.int (nI d))]) (st' := [.int (nI q), .ref a]) d_60_23 (fun _ => rfl) ?_
          refine cr_nx (pc' := 25) (al' := [some (.ref a), some (.int (nI (setN (nuB 3 n c) q))), some (.int (nI q)), some (.int (nI d))]) (st' := [.int (nI d), .int (nI q), .ref a]) d_60_24 (fun _ => rfl) ?_
          refine cr_pv (b := a) (as := [.int (nI q), .int (nI d)]) (al0 := [some (.ref a), some (.int (nI q)), some (.int (nI d))]) (r := []) d_60_25 cw_60 cm_7_29 cz_91 rfl rfl ht.1 (by rw [cw_91]; exact ht.2.2.1) (by rw [cw_91]; decide) rfl (Nat.le_of_ble_eq_true rfl) (k_times ht hn hc (by omega) (by omega)) ?_
          show CR _ _ 28 [some (.ref a), some (.int (nI (setN (nuB 3 n c) q))), some (.int (nI q)), some (.int (nI d))] [.int (nI (c (n * q + d)))] S G B J R _
          have b25 : c (n * q + d) < n := (hc.2 _ (cu_lt (by omega) (by omega))).2
          refine cr_nx (pc' := 29) (al' := [some (.ref a), some (.int (nI (setN (nuB 3 n c) q))), some (.int (nI q)), some (.int (nI d))]) (st' := [.ref a, .int (nI (c (n * q + d)))]) d_60_28 (fun _ => rfl) ?_
          refine cr_nx (pc' := 30) (al' := [some (.ref a), some (.int (nI (setN (nuB 3 n c) q))), some (.int (nI q)), some (.int (nI d))]) (st' := [.int (nI d), .ref a, .int (nI (c (n * q + d)))]) d_60_29 (fun _ => rfl) ?_
          refine cr_nx (pc' := 31) (al' := [some (.ref a), some (.int (nI (setN (nuB 3 n c) q))), some (.int (nI q)), some (.int (nI d))]) (st' := [.int (nI q), .int (nI d), .ref a, .int (nI (c (n * q + d)))]) d_60_30 (fun _ => rfl) ?_
          refine cr_pv (b := a) (as := [.int (nI d), .int (nI q)]) (al0 := [some (.ref a), some (.int (nI d)), some (.int (nI q))]) (r := [.int (nI (c (n * q + d)))]) d_60_31 cw_60 cm_7_29 cz_91 rfl rfl ht.1 (by rw [cw_91]; exact ht.2.2.1) (by rw [cw_91]; decide) rfl (Nat.le_of_ble_eq_true rfl) (k_times ht hn hc (by omega) (by omega)) ?_
          show CR _ _ 34 [some (.ref a), some (.int (nI (setN (nuB 3 n c) q))), some (.int (nI q)), some (.int (nI d))] [.int (nI (c (n * d + q))), .int (nI (c (n * q + d)))] S G B J R _
          have b31 : c (n * d + q) < n := (hc.2 _ (cu_lt (by omega) (by omega))).2
          refine cn_cne (t := 43) d_60_34 (by decide) (by first | omega | assumption | exact cu_36 (by omega) (cu_lt (by omega) (by omega))) (by first | omega | assumption | exact cu_36 (by omega) (cu_lt (by omega) (by omega))) (fun c34 => ?_) (fun c34 => ?_)
          · refine cr_nx (pc' := 44) (al' := [some (.ref a), some (.int (nI (setN (nuB 3 n c) q))), some (.int (nI q)), some (.int (nI d))]) (st' := [.int (nI d)]) d_60_43 (fun _ => rfl) ?_
            refine cr_nx (pc' := 45) (al' := [some (.ref a), some (.int (nI (setN (nuB 3 n c) q))), some (.int (nI q)), some (.int (nI d))]) (st' := [.ref a, .int (nI d)]) d_60_44 (fun _ => rfl) ?_
            refine cr_gf (v := .int (nI n)) d_60_45 cw_60 cf_7_21 ht.1 ht.2.2.1 (by decide) hn ?_
            refine cn_cne (t := 57) d_60_48 (by decide) (by first | omega | assumption | exact cu_36 (by omega) (cu_lt (by omega) (by omega))) (by first | omega | assumption | exact cu_36 (by omega) (cu_lt (by omega) (by omega))) (fun c48 => ?_) (fun c48 => ?_)
            · refine cn_inc d_60_57 rfl rfl ?_
              show CR _ _ 60 [some (.ref a), some (.int (nI (setN (nuB 3 n c) q))), some (.int (nI (q + 1))), some (.int (nI d))] [] S G B J R _
              refine cr_nx (pc' := 4) (al' := [some (.ref a), some (.int (nI (setN (nuB 3 n c) q))), some (.int (nI (q + 1))), some (.int (nI d))]) (st' := []) d_60_60 (fun _ => rfl) ?_
              refine cr_al (congrArg (fun z__ : Nat => ([some (.ref a), some (.int (nI z__)), some (.int (nI (q + 1))), some (.int (nI d))] : AL)) (show setN (nuB 3 n c) q = setN (nuB 3 n c) (q + 1) by first | (rw [setN, setN, ORs_s, if_pos (h3.mpr c48)]) | (rw [setN, setN, ORs_s, if_neg (fun e => c48 (h3.mp e)), Nat.or_zero]))) ?_
              refine cr_dr (al1 := [some (.ref a), some (.int (nI (setN (nuB 3 n c) (q + 1)))), some (.int (nI (q + 1))), none]) (le_s (le_s (le_s (le_d rfl (le_n))))) ?_
              exact ihq  (trivial)
            · refine cr_nx (pc' := 52) (al' := [some (.ref a), some (.int (nI (setN (nuB 3 n c) q))), some (.int (nI q)), some (.int (nI d))]) (st' := [.int (nI (setN (nuB 3 n c) q))]) d_60_51 (fun _ => rfl) ?_
              refine cn_ic (v := 1) d_60_52 (by decide) ?_
              refine cr_nx (pc' := 54) (al' := [some (.ref a), some (.int (nI (setN (nuB 3 n c) q))), some (.int (nI q)), some (.int (nI d))]) (st' := [.int (nI q), .int (nI 1), .int (nI (setN (nuB 3 n c) q))]) d_60_53 (fun _ => rfl) ?_
              refine cn_shl d_60_54 (by first | omega | assumption | exact cu_36 (by omega) (cu_lt (by omega) (by omega))) ?_
              refine cn_or d_60_55 ?_
              refine cr_nx (pc' := 57) (al' := [some (.ref a), some (.int (nI ((setN (nuB 3 n c) q) ||| (1 * 2 ^ q)))), some (.int (nI q)), some (.int (nI d))]) (st' := []) d_60_56 (fun _ => rfl) ?_
              refine cn_inc d_60_57 rfl rfl ?_
              show CR _ _ 60 [some (.ref a), some (.int (nI ((setN (nuB 3 n c) q) ||| (1 * 2 ^ q)))), some (.int (nI (q + 1))), some (.int (nI d))] [] S G B J R _
              refine cr_nx (pc' := 4) (al' := [some (.ref a), some (.int (nI ((setN (nuB 3 n c) q) ||| (1 * 2 ^ q)))), some (.int (nI (q + 1))), some (.int (nI d))]) (st' := []) d_60_60 (fun _ => rfl) ?_
              refine cr_al (congrArg (fun z__ : Nat => ([some (.ref a), some (.int (nI z__)), some (.int (nI (q + 1))), some (.int (nI d))] : AL)) (show (setN (nuB 3 n c) q) ||| (1 * 2 ^ q) = setN (nuB 3 n c) (q + 1) by first | (rw [setN, setN, ORs_s, if_pos (h3.mpr c48)]) | (rw [setN, setN, ORs_s, if_neg (fun e => c48 (h3.mp e)), Nat.or_zero]))) ?_
              refine cr_dr (al1 := [some (.ref a), some (.int (nI (setN (nuB 3 n c) (q + 1)))), some (.int (nI (q + 1))), none]) (le_s (le_s (le_s (le_d rfl (le_n))))) ?_
              exact ihq  (trivial)
          · exact absurd c34 (hy (by omega))
  · show CR _ _ 4 [some (.ref a), some (.int (nI (setN (nuB 3 n c) n))), some (.int (nI n)), none] [] S G B J R _
    refine cr_nx (pc' := 5) (al' := [some (.ref a), some (.int (nI (setN (nuB 3 n c) n))), some (.int (nI n)), none]) (st' := [.int (nI n)]) d_60_4 (fun _ => rfl) ?_
    refine cr_nx (pc' := 6) (al' := [some (.ref a), some (.int (nI (setN (nuB 3 n c) n))), some (.int (nI n)), none]) (st' := [.ref a, .int (nI n)]) d_60_5 (fun _ => rfl) ?_
    refine cr_gf (v := .int (nI n)) d_60_6 cw_60 cf_7_21 ht.1 ht.2.2.1 (by decide) hn ?_
    refine cn_cge (t := 63) d_60_9 (by decide) (by first | omega | assumption | exact cu_36 (by omega) (cu_lt (by omega) (by omega))) (by first | omega | assumption | exact cu_36 (by omega) (cu_lt (by omega) (by omega))) (fun c9 => ?_) (fun c9 => ?_)
    · refine cr_nx (pc' := 64) (al' := [some (.ref a), some (.int (nI (setN (nuB 3 n c) n))), some (.int (nI n)), none]) (st' := [.int (nI (setN (nuB 3 n c) n))]) d_60_63 (fun _ => rfl) ?_
      exact cr_ri d_60_64 cx_60 rfl ⟨rfl, rfl, rfl, rfl, rfl, rfl⟩
    · omega
theorem k_nucleusBits0 {S : CS} {G : Nat → Nat → Value} {B : Nat → Nat → Int32} {J : Nat → Nat → Int64} {R : Nat → Nat → Option Nat} {a n : Nat} (ht : TabAt S G a) (hn : G a 0 = .int (nI n)) {c : Nat → Nat} (hc : TabC B a n c) : CR 4 55 0 [some (.ref a), some (.int (nI 0))] [] S G B J R (cP (some (.int (nI (nuV 0 n c)))) S G B J R) := by
  refine cr_nx (pc' := 1) (al' := [some (.ref a), some (.int (nI 0))]) (st' := [.int (nI 0)]) d_55_0 (fun _ => rfl) ?_
  refine cr_ts (off := 39) (t := 40) d_55_1 (by decide) (by decide) rfl (by decide) ?_
  refine cr_nx (pc' := 41) (al' := [some (.ref a), some (.int (nI 0))]) (st' := [.ref a]) d_55_40 (fun _ => rfl) ?_
  refine cr_nx (pc' := 42) (al' := [some (.ref a), some (.int (nI 0))]) (st' := [.int (nI 0), .ref a]) d_55_41 (fun _ => rfl) ?_
  refine cr_ps (as := [.ref a, .int (nI 0)]) (al0 := [some (.ref a), some (.int (nI 0)), none, none]) (r := []) d_55_42 cw_55 cm_7_69 (by decide) cz_56 rfl rfl rfl (Nat.le_of_ble_eq_true rfl) (k_joining0 ht hn hc) ?_
  show CR _ _ 45 [some (.ref a), some (.int (nI 0))] [.int (nI (setN (nuB 0 n c) n))] S G B J R _
  exact cr_ri d_55_45 cx_55 rfl ⟨rfl, rfl, rfl, rfl, rfl, rfl⟩
theorem k_nucleusBits1 {S : CS} {G : Nat → Nat → Value} {B : Nat → Nat → Int32} {J : Nat → Nat → Int64} {R : Nat → Nat → Option Nat} {a n : Nat} (ht : TabAt S G a) (hn : G a 0 = .int (nI n)) {c : Nat → Nat} (hc : TabC B a n c) : CR 4 55 0 [some (.ref a), some (.int (nI 1))] [] S G B J R (cP (some (.int (nI (nuV 1 n c)))) S G B J R) := by
  refine cr_nx (pc' := 1) (al' := [some (.ref a), some (.int (nI 1))]) (st' := [.int (nI 1)]) d_55_0 (fun _ => rfl) ?_
  refine cr_ts (off := 39) (t := 40) d_55_1 (by decide) (by decide) rfl (by decide) ?_
  refine cr_nx (pc' := 41) (al' := [some (.ref a), some (.int (nI 1))]) (st' := [.ref a]) d_55_40 (fun _ => rfl) ?_
  refine cr_nx (pc' := 42) (al' := [some (.ref a), some (.int (nI 1))]) (st' := [.int (nI 1), .ref a]) d_55_41 (fun _ => rfl) ?_
  refine cr_ps (as := [.ref a, .int (nI 1)]) (al0 := [some (.ref a), some (.int (nI 1)), none, none]) (r := []) d_55_42 cw_55 cm_7_69 (by decide) cz_56 rfl rfl rfl (Nat.le_of_ble_eq_true rfl) (k_joining1 ht hn hc) ?_
  show CR _ _ 45 [some (.ref a), some (.int (nI 1))] [.int (nI (setN (nuB 1 n c) n))] S G B J R _
  exact cr_ri d_55_45 cx_55 rfl ⟨rfl, rfl, rfl, rfl, rfl, rfl⟩
theorem k_nucleusBits2 {S : CS} {G : Nat → Nat → Value} {B : Nat → Nat → Int32} {J : Nat → Nat → Int64} {R : Nat → Nat → Option Nat} {a n : Nat} (ht : TabAt S G a) (hn : G a 0 = .int (nI n)) {c : Nat → Nat} (hc : TabC B a n c) : CR 4 55 0 [some (.ref a), some (.int (nI 2))] [] S G B J R (cP (some (.int (nI (nuV 2 n c)))) S G B J R) := by
  refine cr_nx (pc' := 1) (al' := [some (.ref a), some (.int (nI 2))]) (st' := [.int (nI 2)]) d_55_0 (fun _ => rfl) ?_
  refine cr_ts (off := 39) (t := 40) d_55_1 (by decide) (by decide) rfl (by decide) ?_
  refine cr_nx (pc' := 41) (al' := [some (.ref a), some (.int (nI 2))]) (st' := [.ref a]) d_55_40 (fun _ => rfl) ?_
  refine cr_nx (pc' := 42) (al' := [some (.ref a), some (.int (nI 2))]) (st' := [.int (nI 2), .ref a]) d_55_41 (fun _ => rfl) ?_
  refine cr_ps (as := [.ref a, .int (nI 2)]) (al0 := [some (.ref a), some (.int (nI 2)), none, none]) (r := []) d_55_42 cw_55 cm_7_69 (by decide) cz_56 rfl rfl rfl (Nat.le_of_ble_eq_true rfl) (k_joining2 ht hn hc) ?_
  show CR _ _ 45 [some (.ref a), some (.int (nI 2))] [.int (nI (setN (nuB 2 n c) n))] S G B J R _
  exact cr_ri d_55_45 cx_55 rfl ⟨rfl, rfl, rfl, rfl, rfl, rfl⟩
theorem k_nucleusBits3 {S : CS} {G : Nat → Nat → Value} {B : Nat → Nat → Int32} {J : Nat → Nat → Int64} {R : Nat → Nat → Option Nat} {a n : Nat} (ht : TabAt S G a) (hn : G a 0 = .int (nI n)) {c : Nat → Nat} (hc : TabC B a n c) : CR 5 55 0 [some (.ref a), some (.int (nI 3))] [] S G B J R (cP (some (.int (nI (nuV 3 n c)))) S G B J R) := by
  refine cr_nx (pc' := 1) (al' := [some (.ref a), some (.int (nI 3))]) (st' := [.int (nI 3)]) d_55_0 (fun _ => rfl) ?_
  refine cr_ts (off := 45) (t := 46) d_55_1 (by decide) (by decide) rfl (by decide) ?_
  refine cr_nx (pc' := 47) (al' := [some (.ref a), some (.int (nI 3))]) (st' := [.ref a]) d_55_46 (fun _ => rfl) ?_
  refine cr_ps (as := [.ref a]) (al0 := [some (.ref a)]) (r := []) d_55_47 cw_55 cm_7_72 (by decide) cz_59 rfl rfl rfl (Nat.le_of_ble_eq_true rfl) (k_joiningAll ht hn hc) ?_
  show CR _ _ 50 [some (.ref a), some (.int (nI 3))] [.int (nI (nuV 3 n c))] S G B J R _
  exact cr_ri d_55_50 cx_55 rfl ⟨rfl, rfl, rfl, rfl, rfl, rfl⟩
theorem k_nucleusBits4 {S : CS} {G : Nat → Nat → Value} {B : Nat → Nat → Int32} {J : Nat → Nat → Int64} {R : Nat → Nat → Option Nat} {a n : Nat} (ht : TabAt S G a) (hn : G a 0 = .int (nI n)) {c : Nat → Nat} (hc : TabC B a n c) : CR 2 55 0 [some (.ref a), some (.int (nI 4))] [] S G B J R (cP (some (.int (nI (nuV 4 n c)))) S G B J R) := by
  refine cr_nx (pc' := 1) (al' := [some (.ref a), some (.int (nI 4))]) (st' := [.int (nI 4)]) d_55_0 (fun _ => rfl) ?_
  refine cr_ts (off := 50) (t := 51) d_55_1 (by decide) (by decide) rfl (by decide) ?_
  refine cr_nx (pc' := 52) (al' := [some (.ref a), some (.int (nI 4))]) (st' := [.ref a]) d_55_51 (fun _ => rfl) ?_
  refine cr_ps (as := [.ref a]) (al0 := [some (.ref a), none, none, none]) (r := []) d_55_52 cw_55 cm_7_76 (by decide) cz_60 rfl rfl rfl (Nat.le_of_ble_eq_true rfl) (k_commutant ht hn hc) ?_
  show CR _ _ 55 [some (.ref a), some (.int (nI 4))] [.int (nI (setN (nuB 3 n c) n))] S G B J R _
  exact cr_ri d_55_55 cx_55 rfl ⟨rfl, rfl, rfl, rfl, rfl, rfl⟩
theorem k_nucleusBits5 {S : CS} {G : Nat → Nat → Value} {B : Nat → Nat → Int32} {J : Nat → Nat → Int64} {R : Nat → Nat → Option Nat} {a n : Nat} (ht : TabAt S G a) (hn : G a 0 = .int (nI n)) {c : Nat → Nat} (hc : TabC B a n c) : CR 5 55 0 [some (.ref a), some (.int (nI 5))] [] S G B J R (cP (some (.int (nI (nuV 5 n c)))) S G B J R) := by
  rw [nuV5]
  refine cr_nx (pc' := 1) (al' := [some (.ref a), some (.int (nI 5))]) (st' := [.int (nI 5)]) d_55_0 (fun _ => rfl) ?_
  refine cr_ts (off := 55) (t := 56) d_55_1 (by decide) (by decide) rfl (by decide) ?_
  refine cr_nx (pc' := 57) (al' := [some (.ref a), some (.int (nI 5))]) (st' := [.ref a]) d_55_56 (fun _ => rfl) ?_
  refine cr_ps (as := [.ref a]) (al0 := [some (.ref a)]) (r := []) d_55_57 cw_55 cm_7_72 (by decide) cz_59 rfl rfl rfl (Nat.le_of_ble_eq_true rfl) (k_joiningAll ht hn hc) ?_
  show CR _ _ 60 [some (.ref a), some (.int (nI 5))] [.int (nI (nuV 3 n c))] S G B J R _
  refine cr_nx (pc' := 61) (al' := [some (.ref a), some (.int (nI 5))]) (st' := [.ref a, .int (nI (nuV 3 n c))]) d_55_60 (fun _ => rfl) ?_
  refine cr_ps (as := [.ref a]) (al0 := [some (.ref a), none, none, none]) (r := [.int (nI (nuV 3 n c))]) d_55_61 cw_55 cm_7_76 (by decide) cz_60 rfl rfl rfl (Nat.le_of_ble_eq_true rfl) (k_commutant ht hn hc) ?_
  show CR _ _ 64 [some (.ref a), some (.int (nI 5))] [.int (nI (setN (nuB 3 n c) n)), .int (nI (nuV 3 n c))] S G B J R _
  refine cn_and d_55_64 ?_
  exact cr_ri d_55_65 cx_55 rfl ⟨rfl, rfl, rfl, rfl, rfl, rfl⟩
theorem k_nucleusBitsX {S : CS} {G : Nat → Nat → Value} {B : Nat → Nat → Int32} {J : Nat → Nat → Int64} {R : Nat → Nat → Option Nat} {a n : Nat} (ht : TabAt S G a) (hn : G a 0 = .int (nI n)) {c : Nat → Nat} (hc : TabC B a n c) {v : Int32} (hv : ¬ (nI 0 ≤ v ∧ v ≤ nI 5)) : CR 0 55 0 [some (.ref a), some (.int v)] [] S G B J R (cP (some (.int (-1))) S G B J R) := by
  refine cr_nx (pc' := 1) (al' := [some (.ref a), some (.int v)]) (st' := [.int v]) d_55_0 (fun _ => rfl) ?_
  refine cr_td (t := 66) d_55_1 (sw_out (by decide) hv) (by decide) ?_
  refine cr_nx (pc' := 67) (al' := [some (.ref a), some (.int v)]) (st' := [.int (-1)]) d_55_66 (fun _ => rfl) ?_
  exact cr_ri d_55_67 cx_55 rfl ⟨rfl, rfl, rfl, rfl, rfl, rfl⟩
/-- how many pairs commute -/
def coF (n : Nat) (c : Nat → Nat) (x y : Nat) : Nat := if c (n * x + y) = c (n * y + x) then 1 else 0
def coN (n : Nat) (c : Nat → Nat) : Nat := SM (fun x => SM (coF n c x) n) n
theorem k_commuting {S : CS} {G : Nat → Nat → Value} {B : Nat → Nat → Int32} {J : Nat → Nat → Int64} {R : Nat → Nat → Option Nat} {a n : Nat} (ht : TabAt S G a) (hn : G a 0 = .int (nI n)) {c : Nat → Nat} (hc : TabC B a n c) : CR 1 62 0 [some (.ref a), none, none, none] [] S G B J R (cP (some (.int (nI (coN n c)))) S G B J R) := by
  have hn6 := hc.1
  refine cn_ic (v := 0) d_62_0 (by decide) ?_
  refine cr_nx (pc' := 2) (al' := [some (.ref a), some (.int (nI 0)), none, none]) (st' := []) d_62_1 (fun _ => rfl) ?_
  refine cn_ic (v := 0) d_62_2 (by decide) ?_
  refine cr_nx (pc' := 4) (al' := [some (.ref a), some (.int (nI 0)), some (.int (nI 0)), none]) (st' := []) d_62_3 (fun _ => rfl) ?_
  refine cr_al (congrArg (fun z__ : Nat => ([some (.ref a), some (.int (nI z__)), some (.int (nI 0)), none] : AL)) (show 0 = SM (fun x => SM (coF n c x) n) 0 by first | rfl | omega | (simp only [SM_s]; omega) | (simp [SM_s, *]; done) | (simp [SM_s, *]; omega))) ?_
  refine cr_up (al := fun x => [some (.ref a), some (.int (nI (SM (fun x => SM (coF n c x) n) x))), some (.int (nI x)), none]) (S := fun x => S) (G := fun x => G) (B := fun x => B) (J := fun x => J) (R := fun x => R) (P := fun x => True) (n := n) (fun x hx px ihx => ?_) (fun px => ?_) 0  (by omega) (trivial)
  · show CR _ _ 4 [some (.ref a), some (.int (nI (SM (fun x => SM (coF n c x) n) x))), some (.int (nI x)), none] [] S G B J R _
    refine cr_nx (pc' := 5) (al' := [some (.ref a), some (.int (nI (SM (fun x => SM (coF n c x) n) x))), some (.int (nI x)), none]) (st' := [.int (nI x)]) d_62_4 (fun _ => rfl) ?_
    refine cr_nx (pc' := 6) (al' := [some (.ref a), some (.int (nI (SM (fun x => SM (coF n c x) n) x))), some (.int (nI x)), none]) (st' := [.ref a, .int (nI x)]) d_62_5 (fun _ => rfl) ?_
    refine cr_gf (v := .int (nI n)) d_62_6 cw_62 cf_7_21 ht.1 ht.2.2.1 (by decide) hn ?_
    refine cn_cge (t := 52) d_62_9 (by decide) (by first | omega | assumption | exact cu_36 (by omega) (cu_lt (by omega) (by omega))) (by first | omega | assumption | exact cu_36 (by omega) (cu_lt (by omega) (by omega))) (fun c9 => ?_) (fun c9 => ?_)
    · omega
    · refine cn_ic (v := 0) d_62_12 (by decide) ?_
      refine cr_nx (pc' := 14) (al' := [some (.ref a), some (.int (nI (SM (fun x => SM (coF n c x) n) x))), some (.int (nI x)), some (.int (nI 0))]) (st' := []) d_62_13 (fun _ => rfl) ?_
      refine cr_al (congrArg (fun z__ : Nat => ([some (.ref a), some (.int (nI z__)), some (.int (nI x)), some (.int (nI 0))] : AL)) (show SM (fun x => SM (coF n c x) n) x = SM (fun x => SM (coF n c x) n) x + SM (coF n c x) 0 by rfl)) ?_
      refine cr_up (al := fun y => [some (.ref a), some (.int (nI (SM (fun x => SM (coF n c x) n) x + SM (coF n c x) y))), some (.int (nI x)), some (.int (nI y))]) (S := fun y => S) (G := fun y => G) (B := fun y => B) (J := fun y => J) (R := fun y => R) (P := fun y => True) (n := n) (fun y hy py ihy => ?_) (fun py => ?_) 0  (by omega) (trivial)
      · show CR _ _ 14 [some (.ref a), some (.int (nI (SM (fun x => SM (coF n c x) n) x + SM (coF n c x) y))), some (.int (nI x)), some (.int (nI y))] [] S G B J R _
        refine cr_nx (pc' := 15) (al' := [some (.ref a), some (.int (nI (SM (fun x => SM (coF n c x) n) x + SM (coF n c x) y))), some (.int (nI x)), some (.int (nI y))]) (st' := [.int (nI y)]) d_62_14 (fun _ => rfl) ?_
        refine cr_nx (pc' := 16) (al' := [some (.ref a), some (.int (nI (SM (fun x => SM (coF n c x) n) x + SM (coF n c x) y))), some (.int (nI x)), some (.int (nI y))]) (st' := [.ref a, .int (nI y)]) d_62_15 (fun _ => rfl) ?_
        refine cr_gf (v := .int (nI n)) d_62_16 cw_62 cf_7_21 ht.1 ht.2.2.1 (by decide) hn ?_
        refine cn_cge (t := 46) d_62_19 (by decide) (by first | omega | assumption | exact cu_36 (by omega) (cu_lt (by omega) (by omega))) (by first | omega | assumption | exact cu_36 (by omega) (cu_lt (by omega) (by omega))) (fun c19 => ?_) (fun c19 => ?_)
        · omega
        · refine cr_nx (pc' := 23) (al' := [some (.ref a), some (.int (nI (SM (fun x => SM (coF n c x) n) x + SM (coF n c x) y))), some (.int (nI x)), some (.int (nI y))]) (st' := [.ref a]) d_62_22 (fun _ => rfl) ?_
          refine cr_nx (pc' := 24) (al' := [some (.ref a), some (.int (nI (SM (fun x => SM (coF n c x) n) x + SM (coF n c x) y))), some (.int (nI x)), some (.int (nI y))]) (st' := [.int (nI x), .ref a]) d_62_23 (fun _ => rfl) ?_
          refine cr_nx (pc' := 25) (al' := [some (.ref a), some (.int (nI (SM (fun x => SM (coF n c x) n) x + SM (coF n c x) y))), some (.int (nI x)), some (.int (nI y))]) (st' := [.int (nI y), .int (nI x), .ref a]) d_62_24 (fun _ => rfl) ?_
          refine cr_pv (b := a) (as := [.int (nI x), .int (nI y)]) (al0 := [some (.ref a), some (.int (nI x)), some (.int (nI y))]) (r := []) d_62_25 cw_62 cm_7_29 cz_91 rfl rfl ht.1 (by rw [cw_91]; exact ht.2.2.1) (by rw [cw_91]; decide) rfl (Nat.le_of_ble_eq_true rfl) (k_times ht hn hc (by omega) (by omega)) ?_
          show CR _ _ 28 [some (.ref a), some (.int (nI (SM (fun x => SM (coF n c x) n) x + SM (coF n c x) y))), some (.int (nI x)), some (.int (nI y))] [.int (nI (c (n * x + y)))] S G B J R _
          have b25 : c (n * x + y) < n := (hc.2 _ (cu_lt (by omega) (by omega))).2
          refine cr_nx (pc' := 29) (al' := [some (.ref a), some (.int (nI (SM (fun x => SM (coF n c x) n) x + SM (coF n c x) y))), some (.int (nI x)), some (.int (nI y))]) (st' := [.ref a, .int (nI (c (n * x + y)))]) d_62_28 (fun _ => rfl) ?_
          refine cr_nx (pc' := 30) (al' := [some (.ref a), some (.int (nI (SM (fun x => SM (coF n c x) n) x + SM (coF n c x) y))), some (.int (nI x)), some (.int (nI y))]) (st' := [.int (nI y), .ref a, .int (nI (c (n * x + y)))]) d_62_29 (fun _ => rfl) ?_
          refine cr_nx (pc' := 31) (al' := [some (.ref a), some (.int (nI (SM (fun x => SM (coF n c x) n) x + SM (coF n c x) y))), some (.int (nI x)), some (.int (nI y))]) (st' := [.int (nI x), .int (nI y), .ref a, .int (nI (c (n * x + y)))]) d_62_30 (fun _ => rfl) ?_
          refine cr_pv (b := a) (as := [.int (nI y), .int (nI x)]) (al0 := [some (.ref a), some (.int (nI y)), some (.int (nI x))]) (r := [.int (nI (c (n * x + y)))]) d_62_31 cw_62 cm_7_29 cz_91 rfl rfl ht.1 (by rw [cw_91]; exact ht.2.2.1) (by rw [cw_91]; decide) rfl (Nat.le_of_ble_eq_true rfl) (k_times ht hn hc (by omega) (by omega)) ?_
          show CR _ _ 34 [some (.ref a), some (.int (nI (SM (fun x => SM (coF n c x) n) x + SM (coF n c x) y))), some (.int (nI x)), some (.int (nI y))] [.int (nI (c (n * y + x))), .int (nI (c (n * x + y)))] S G B J R _
          have b31 : c (n * y + x) < n := (hc.2 _ (cu_lt (by omega) (by omega))).2
          refine cn_cne (t := 40) d_62_34 (by decide) (by first | omega | assumption | exact cu_36 (by omega) (cu_lt (by omega) (by omega))) (by first | omega | assumption | exact cu_36 (by omega) (cu_lt (by omega) (by omega))) (fun c34 => ?_) (fun c34 => ?_)
          · refine cn_inc d_62_40 rfl rfl ?_
            show CR _ _ 43 [some (.ref a), some (.int (nI (SM (fun x => SM (coF n c x) n) x + SM (coF n c x) y))), some (.int (nI x)), some (.int (nI (y + 1)))] [] S G B J R _
            refine cr_nx (pc' := 14) (al' := [some (.ref a), some (.int (nI (SM (fun x => SM (coF n c x) n) x + SM (coF n c x) y))), some (.int (nI x)), some (.int (nI (y + 1)))]) (st' := []) d_62_43 (fun _ => rfl) ?_
            refine cr_al (congrArg (fun z__ : Nat => ([some (.ref a), some (.int (nI z__)), some (.int (nI x)), some (.int (nI (y + 1)))] : AL)) (show SM (fun x => SM (coF n c x) n) x + SM (coF n c x) y = SM (fun x => SM (coF n c x) n) x + SM (coF n c x) (y + 1) by first | (rw [SM_s, coF, if_pos c34]; omega) | (rw [SM_s, coF, if_neg c34]; omega))) ?_
            exact ihy  (trivial)
          · refine cn_inc d_62_37 rfl rfl ?_
            show CR _ _ 40 [some (.ref a), some (.int (nI ((SM (fun x => SM (coF n c x) n) x + SM (coF n c x) y) + 1))), some (.int (nI x)), some (.int (nI y))] [] S G B J R _
            refine cn_inc d_62_40 rfl rfl ?_
            show CR _ _ 43 [some (.ref a), some (.int (nI ((SM (fun x => SM (coF n c x) n) x + SM (coF n c x) y) + 1))), some (.int (nI x)), some (.int (nI (y + 1)))] [] S G B J R _
            refine cr_nx (pc' := 14) (al' := [some (.ref a), some (.int (nI ((SM (fun x => SM (coF n c x) n) x + SM (coF n c x) y) + 1))), some (.int (nI x)), some (.int (nI (y + 1)))]) (st' := []) d_62_43 (fun _ => rfl) ?_
            refine cr_al (congrArg (fun z__ : Nat => ([some (.ref a), some (.int (nI z__)), some (.int (nI x)), some (.int (nI (y + 1)))] : AL)) (show (SM (fun x => SM (coF n c x) n) x + SM (coF n c x) y) + 1 = SM (fun x => SM (coF n c x) n) x + SM (coF n c x) (y + 1) by first | (rw [SM_s, coF, if_pos c34]; omega) | (rw [SM_s, coF, if_neg c34]; omega))) ?_
            exact ihy  (trivial)
      · show CR _ _ 14 [some (.ref a), some (.int (nI (SM (fun x => SM (coF n c x) n) x + SM (coF n c x) n))), some (.int (nI x)), some (.int (nI n))] [] S G B J R _
        refine cr_nx (pc' := 15) (al' := [some (.ref a), some (.int (nI (SM (fun x => SM (coF n c x) n) x + SM (coF n c x) n))), some (.int (nI x)), some (.int (nI n))]) (st' := [.int (nI n)]) d_62_14 (fun _ => rfl) ?_
        refine cr_nx (pc' := 16) (al' := [some (.ref a), some (.int (nI (SM (fun x => SM (coF n c x) n) x + SM (coF n c x) n))), some (.int (nI x)), some (.int (nI n))]) (st' := [.ref a, .int (nI n)]) d_62_15 (fun _ => rfl) ?_
        refine cr_gf (v := .int (nI n)) d_62_16 cw_62 cf_7_21 ht.1 ht.2.2.1 (by decide) hn ?_
        refine cn_cge (t := 46) d_62_19 (by decide) (by first | omega | assumption | exact cu_36 (by omega) (cu_lt (by omega) (by omega))) (by first | omega | assumption | exact cu_36 (by omega) (cu_lt (by omega) (by omega))) (fun c19 => ?_) (fun c19 => ?_)
        · refine cn_inc d_62_46 rfl rfl ?_
          show CR _ _ 49 [some (.ref a), some (.int (nI (SM (fun x => SM (coF n c x) n) x + SM (coF n c x) n))), some (.int (nI (x + 1))), some (.int (nI n))] [] S G B J R _
          refine cr_nx (pc' := 4) (al' := [some (.ref a), some (.int (nI (SM (fun x => SM (coF n c x) n) x + SM (coF n c x) n))), some (.int (nI (x + 1))), some (.int (nI n))]) (st' := []) d_62_49 (fun _ => rfl) ?_
          refine cr_al (congrArg (fun z__ : Nat => ([some (.ref a), some (.int (nI z__)), some (.int (nI (x + 1))), some (.int (nI n))] : AL)) (show SM (fun x => SM (coF n c x) n) x + SM (coF n c x) n = SM (fun x => SM (coF n c x) n) (x + 1) by rw [SM_s])) ?_
          refine cr_dr (al1 := [some (.ref a), some (.int (nI (SM (fun x => SM (coF n c x) n) (x + 1)))), some (.int (nI (x + 1))), none]) (le_s (le_s (le_s (le_d rfl (le_n))))) ?_
          exact ihx  (trivial)
        · omega
  · show CR _ _ 4 [some (.ref a), some (.int (nI (SM (fun x => SM (coF n c x) n) n))), some (.int (nI n)), none] [] S G B J R _
    refine cr_nx (pc' := 5) (al' := [some (.ref a), some (.int (nI (SM (fun x => SM (coF n c x) n) n))), some (.int (nI n)), none]) (st' := [.int (nI n)]) d_62_4 (fun _ => rfl) ?_
    refine cr_nx (pc' := 6) (al' := [some (.ref a), some (.int (nI (SM (fun x => SM (coF n c x) n) n))), some (.int (nI n)), none]) (st' := [.ref a, .int (nI n)]) d_62_5 (fun _ => rfl) ?_
    refine cr_gf (v := .int (nI n)) d_62_6 cw_62 cf_7_21 ht.1 ht.2.2.1 (by decide) hn ?_
    refine cn_cge (t := 52) d_62_9 (by decide) (by first | omega | assumption | exact cu_36 (by omega) (cu_lt (by omega) (by omega))) (by first | omega | assumption | exact cu_36 (by omega) (cu_lt (by omega) (by omega))) (fun c9 => ?_) (fun c9 => ?_)
    · refine cr_nx (pc' := 53) (al' := [some (.ref a), some (.int (nI (SM (fun x => SM (coF n c x) n) n))), some (.int (nI n)), none]) (st' := [.int (nI (SM (fun x => SM (coF n c x) n) n))]) d_62_52 (fun _ => rfl) ?_
      exact cr_ri d_62_53 cx_62 rfl ⟨rfl, rfl, rfl, rfl, rfl, rfl⟩
    · omega
theorem s_counts_33 {g : Nat → Int32} {A : Nat → Nat → Int32} {n : Nat} {c : Nat → Nat} (hc : Cur g A n c) : RR 1 253 33 [some (.ref 146), none, none, none, none, none] [] g A (rP (some (.int (nI (coN n c)))) g A) := by
  have hn6 := hc.2.1
  refine rn_ic (v := 0) d_253_33 (by decide) ?_
  refine rr_nx (pc' := 35) (al' := [some (.ref 146), none, none, some (.int (nI 0)), none, none]) (st' := []) d_253_34 (fun _ => rfl) ?_
  refine rn_ic (v := 0) d_253_35 (by decide) ?_
  refine rr_nx (pc' := 38) (al' := [some (.ref 146), none, none, some (.int (nI 0)), some (.int (nI 0)), none]) (st' := []) d_253_36 (fun _ => rfl) ?_
  refine rr_al (congrArg (fun z__ : Nat => ([some (.ref 146), none, none, some (.int (nI z__)), some (.int (nI 0)), none] : AL)) (show 0 = SM (fun x => SM (coF n c x) n) 0 by first | rfl | omega | (simp only [SM_s]; omega) | (simp [SM_s, *]; done) | (simp [SM_s, *]; omega))) ?_
  refine rr_up (al := fun x => [some (.ref 146), none, none, some (.int (nI (SM (fun x => SM (coF n c x) n) x))), some (.int (nI x)), none]) (G := fun x => g) (B := fun x => A) (P := fun x => True) (n := n) (fun x hx px ihx => ?_) (fun px => ?_) 0  (by omega) (trivial)
  · show RR _ _ 38 [some (.ref 146), none, none, some (.int (nI (SM (fun x => SM (coF n c x) n) x))), some (.int (nI x)), none] [] g A _
    refine rr_nx (pc' := 40) (al' := [some (.ref 146), none, none, some (.int (nI (SM (fun x => SM (coF n c x) n) x))), some (.int (nI x)), none]) (st' := [.int (nI x)]) d_253_38 (fun _ => rfl) ?_
    refine rr_nx (pc' := 41) (al' := [some (.ref 146), none, none, some (.int (nI (SM (fun x => SM (coF n c x) n) x))), some (.int (nI x)), none]) (st' := [.ref 146, .int (nI x)]) d_253_40 (fun _ => rfl) ?_
    refine rr_gn d_253_41 mo_253 fl_127 rfl hc.1 ?_
    refine rn_cge (t := 98) d_253_44 (by decide) (by first | omega | assumption | exact cu_36 (by omega) (cu_lt (by omega) (by omega))) (by first | omega | assumption | exact cu_36 (by omega) (cu_lt (by omega) (by omega))) (fun c44 => ?_) (fun c44 => ?_)
    · omega
    · refine rn_ic (v := 0) d_253_47 (by decide) ?_
      refine rr_nx (pc' := 50) (al' := [some (.ref 146), none, none, some (.int (nI (SM (fun x => SM (coF n c x) n) x))), some (.int (nI x)), some (.int (nI 0))]) (st' := []) d_253_48 (fun _ => rfl) ?_
      refine rr_al (congrArg (fun z__ : Nat => ([some (.ref 146), none, none, some (.int (nI z__)), some (.int (nI x)), some (.int (nI 0))] : AL)) (show SM (fun x => SM (coF n c x) n) x = SM (fun x => SM (coF n c x) n) x + SM (coF n c x) 0 by rfl)) ?_
      refine rr_up (al := fun y => [some (.ref 146), none, none, some (.int (nI (SM (fun x => SM (coF n c x) n) x + SM (coF n c x) y))), some (.int (nI x)), some (.int (nI y))]) (G := fun y => g) (B := fun y => A) (P := fun y => True) (n := n) (fun y hy py ihy => ?_) (fun py => ?_) 0  (by omega) (trivial)
      · show RR _ _ 50 [some (.ref 146), none, none, some (.int (nI (SM (fun x => SM (coF n c x) n) x + SM (coF n c x) y))), some (.int (nI x)), some (.int (nI y))] [] g A _
        refine rr_nx (pc' := 52) (al' := [some (.ref 146), none, none, some (.int (nI (SM (fun x => SM (coF n c x) n) x + SM (coF n c x) y))), some (.int (nI x)), some (.int (nI y))]) (st' := [.int (nI y)]) d_253_50 (fun _ => rfl) ?_
        refine rr_nx (pc' := 53) (al' := [some (.ref 146), none, none, some (.int (nI (SM (fun x => SM (coF n c x) n) x + SM (coF n c x) y))), some (.int (nI x)), some (.int (nI y))]) (st' := [.ref 146, .int (nI y)]) d_253_52 (fun _ => rfl) ?_
        refine rr_gn d_253_53 mo_253 fl_127 rfl hc.1 ?_
        refine rn_cge (t := 92) d_253_56 (by decide) (by first | omega | assumption | exact cu_36 (by omega) (cu_lt (by omega) (by omega))) (by first | omega | assumption | exact cu_36 (by omega) (cu_lt (by omega) (by omega))) (fun c56 => ?_) (fun c56 => ?_)
        · omega
        · refine rr_nx (pc' := 60) (al' := [some (.ref 146), none, none, some (.int (nI (SM (fun x => SM (coF n c x) n) x + SM (coF n c x) y))), some (.int (nI x)), some (.int (nI y))]) (st' := [.int (nI (SM (fun x => SM (coF n c x) n) x + SM (coF n c x) y))]) d_253_59 (fun _ => rfl) ?_
          refine rr_nx (pc' := 61) (al' := [some (.ref 146), none, none, some (.int (nI (SM (fun x => SM (coF n c x) n) x + SM (coF n c x) y))), some (.int (nI x)), some (.int (nI y))]) (st' := [.ref 146, .int (nI (SM (fun x => SM (coF n c x) n) x + SM (coF n c x) y))]) d_253_60 (fun _ => rfl) ?_
          refine rr_nx (pc' := 63) (al' := [some (.ref 146), none, none, some (.int (nI (SM (fun x => SM (coF n c x) n) x + SM (coF n c x) y))), some (.int (nI x)), some (.int (nI y))]) (st' := [.int (nI x), .ref 146, .int (nI (SM (fun x => SM (coF n c x) n) x + SM (coF n c x) y))]) d_253_61 (fun _ => rfl) ?_
          refine rr_nx (pc' := 65) (al' := [some (.ref 146), none, none, some (.int (nI (SM (fun x => SM (coF n c x) n) x + SM (coF n c x) y))), some (.int (nI x)), some (.int (nI y))]) (st' := [.int (nI y), .int (nI x), .ref 146, .int (nI (SM (fun x => SM (coF n c x) n) x + SM (coF n c x) y))]) d_253_63 (fun _ => rfl) ?_
          refine rr_pv (as := [.int (nI x), .int (nI y)]) (al0 := [some (.ref 146), some (.int (nI x)), some (.int (nI y))]) (r := [.int (nI (SM (fun x => SM (coF n c x) n) x + SM (coF n c x) y))]) d_253_65 mo_253 ml_130 mz_213 rfl rfl rfl (Nat.le_of_ble_eq_true rfl) (s_times hc (by omega) (by omega)) ?_
          show RR _ _ 68 [some (.ref 146), none, none, some (.int (nI (SM (fun x => SM (coF n c x) n) x + SM (coF n c x) y))), some (.int (nI x)), some (.int (nI y))] [.int (nI (c (n * x + y))), .int (nI (SM (fun x => SM (coF n c x) n) x + SM (coF n c x) y))] g A _
          have b65 : c (n * x + y) < n := (hc.2.2 _ (cu_lt (by omega) (by omega))).2
          refine rr_nx (pc' := 69) (al' := [some (.ref 146), none, none, some (.int (nI (SM (fun x => SM (coF n c x) n) x + SM (coF n c x) y))), some (.int (nI x)), some (.int (nI y))]) (st' := [.ref 146, .int (nI (c (n * x + y))), .int (nI (SM (fun x => SM (coF n c x) n) x + SM (coF n c x) y))]) d_253_68 (fun _ => rfl) ?_
          refine rr_nx (pc' := 71) (al' := [some (.ref 146), none, none, some (.int (nI (SM (fun x => SM (coF n c x) n) x + SM (coF n c x) y))), some (.int (nI x)), some (.int (nI y))]) (st' := [.int (nI y), .ref 146, .int (nI (c (n * x + y))), .int (nI (SM (fun x => SM (coF n c x) n) x + SM (coF n c x) y))]) d_253_69 (fun _ => rfl) ?_
          refine rr_nx (pc' := 73) (al' := [some (.ref 146), none, none, some (.int (nI (SM (fun x => SM (coF n c x) n) x + SM (coF n c x) y))), some (.int (nI x)), some (.int (nI y))]) (st' := [.int (nI x), .int (nI y), .ref 146, .int (nI (c (n * x + y))), .int (nI (SM (fun x => SM (coF n c x) n) x + SM (coF n c x) y))]) d_253_71 (fun _ => rfl) ?_
          refine rr_pv (as := [.int (nI y), .int (nI x)]) (al0 := [some (.ref 146), some (.int (nI y)), some (.int (nI x))]) (r := [.int (nI (c (n * x + y))), .int (nI (SM (fun x => SM (coF n c x) n) x + SM (coF n c x) y))]) d_253_73 mo_253 ml_130 mz_213 rfl rfl rfl (Nat.le_of_ble_eq_true rfl) (s_times hc (by omega) (by omega)) ?_
          show RR _ _ 76 [some (.ref 146), none, none, some (.int (nI (SM (fun x => SM (coF n c x) n) x + SM (coF n c x) y))), some (.int (nI x)), some (.int (nI y))] [.int (nI (c (n * y + x))), .int (nI (c (n * x + y))), .int (nI (SM (fun x => SM (coF n c x) n) x + SM (coF n c x) y))] g A _
          have b73 : c (n * y + x) < n := (hc.2.2 _ (cu_lt (by omega) (by omega))).2
          refine rn_cne (t := 83) d_253_76 (by decide) (by first | omega | assumption | exact cu_36 (by omega) (cu_lt (by omega) (by omega))) (by first | omega | assumption | exact cu_36 (by omega) (cu_lt (by omega) (by omega))) (fun c76 => ?_) (fun c76 => ?_)
          · refine rn_ic (v := 0) d_253_83 (by decide) ?_
            refine rn_add d_253_84  ?_
            refine rr_nx (pc' := 86) (al' := [some (.ref 146), none, none, some (.int (nI ((SM (fun x => SM (coF n c x) n) x + SM (coF n c x) y) + 0))), some (.int (nI x)), some (.int (nI y))]) (st' := []) d_253_85 (fun _ => rfl) ?_
            refine rn_inc d_253_86 rfl rfl ?_
            show RR _ _ 89 [some (.ref 146), none, none, some (.int (nI ((SM (fun x => SM (coF n c x) n) x + SM (coF n c x) y) + 0))), some (.int (nI x)), some (.int (nI (y + 1)))] [] g A _
            refine rr_nx (pc' := 50) (al' := [some (.ref 146), none, none, some (.int (nI ((SM (fun x => SM (coF n c x) n) x + SM (coF n c x) y) + 0))), some (.int (nI x)), some (.int (nI (y + 1)))]) (st' := []) d_253_89 (fun _ => rfl) ?_
            refine rr_al (congrArg (fun z__ : Nat => ([some (.ref 146), none, none, some (.int (nI z__)), some (.int (nI x)), some (.int (nI (y + 1)))] : AL)) (show (SM (fun x => SM (coF n c x) n) x + SM (coF n c x) y) + 0 = SM (fun x => SM (coF n c x) n) x + SM (coF n c x) (y + 1) by first | (rw [SM_s, coF, if_pos c76]; omega) | (rw [SM_s, coF, if_neg c76]; omega))) ?_
            exact ihy  (trivial)
          · refine rn_ic (v := 1) d_253_79 (by decide) ?_
            refine rr_nx (pc' := 84) (al' := [some (.ref 146), none, none, some (.int (nI (SM (fun x => SM (coF n c x) n) x + SM (coF n c x) y))), some (.int (nI x)), some (.int (nI y))]) (st' := [.int (nI 1), .int (nI (SM (fun x => SM (coF n c x) n) x + SM (coF n c x) y))]) d_253_80 (fun _ => rfl) ?_
            refine rn_add d_253_84  ?_
            refine rr_nx (pc' := 86) (al' := [some (.ref 146), none, none, some (.int (nI ((SM (fun x => SM (coF n c x) n) x + SM (coF n c x) y) + 1))), some (.int (nI x)), some (.int (nI y))]) (st' := []) d_253_85 (fun _ => rfl) ?_
            refine rn_inc d_253_86 rfl rfl ?_
            show RR _ _ 89 [some (.ref 146), none, none, some (.int (nI ((SM (fun x => SM (coF n c x) n) x + SM (coF n c x) y) + 1))), some (.int (nI x)), some (.int (nI (y + 1)))] [] g A _
            refine rr_nx (pc' := 50) (al' := [some (.ref 146), none, none, some (.int (nI ((SM (fun x => SM (coF n c x) n) x + SM (coF n c x) y) + 1))), some (.int (nI x)), some (.int (nI (y + 1)))]) (st' := []) d_253_89 (fun _ => rfl) ?_
            refine rr_al (congrArg (fun z__ : Nat => ([some (.ref 146), none, none, some (.int (nI z__)), some (.int (nI x)), some (.int (nI (y + 1)))] : AL)) (show (SM (fun x => SM (coF n c x) n) x + SM (coF n c x) y) + 1 = SM (fun x => SM (coF n c x) n) x + SM (coF n c x) (y + 1) by first | (rw [SM_s, coF, if_pos c76]; omega) | (rw [SM_s, coF, if_neg c76]; omega))) ?_
            exact ihy  (trivial)
      · show RR _ _ 50 [some (.ref 146), none, none, some (.int (nI (SM (fun x => SM (coF n c x) n) x + SM (coF n c x) n))), some (.int (nI x)), some (.int (nI n))] [] g A _
        refine rr_nx (pc' := 52) (al' := [some (.ref 146), none, none, some (.int (nI (SM (fun x => SM (coF n c x) n) x + SM (coF n c x) n))), some (.int (nI x)), some (.int (nI n))]) (st' := [.int (nI n)]) d_253_50 (fun _ => rfl) ?_
        refine rr_nx (pc' := 53) (al' := [some (.ref 146), none, none, some (.int (nI (SM (fun x => SM (coF n c x) n) x + SM (coF n c x) n))), some (.int (nI x)), some (.int (nI n))]) (st' := [.ref 146, .int (nI n)]) d_253_52 (fun _ => rfl) ?_
        refine rr_gn d_253_53 mo_253 fl_127 rfl hc.1 ?_
        refine rn_cge (t := 92) d_253_56 (by decide) (by first | omega | assumption | exact cu_36 (by omega) (cu_lt (by omega) (by omega))) (by first | omega | assumption | exact cu_36 (by omega) (cu_lt (by omega) (by omega))) (fun c56 => ?_) (fun c56 => ?_)
        · refine rn_inc d_253_92 rfl rfl ?_
          show RR _ _ 95 [some (.ref 146), none, none, some (.int (nI (SM (fun x => SM (coF n c x) n) x + SM (coF n c x) n))), some (.int (nI (x + 1))), some (.int (nI n))] [] g A _
          refine rr_nx (pc' := 38) (al' := [some (.ref 146), none, none, some (.int (nI (SM (fun x => SM (coF n c x) n) x + SM (coF n c x) n))), some (.int (nI (x + 1))), some (.int (nI n))]) (st' := []) d_253_95 (fun _ => rfl) ?_
          refine rr_al (congrArg (fun z__ : Nat => ([some (.ref 146), none, none, some (.int (nI z__)), some (.int (nI (x + 1))), some (.int (nI n))] : AL)) (show SM (fun x => SM (coF n c x) n) x + SM (coF n c x) n = SM (fun x => SM (coF n c x) n) (x + 1) by rw [SM_s])) ?_
          refine rr_dr (al1 := [some (.ref 146), none, none, some (.int (nI (SM (fun x => SM (coF n c x) n) (x + 1)))), some (.int (nI (x + 1))), none]) (le_s (le_s (le_s (le_s (le_s (le_d rfl (le_n))))))) ?_
          exact ihx  (trivial)
        · omega
  · show RR _ _ 38 [some (.ref 146), none, none, some (.int (nI (SM (fun x => SM (coF n c x) n) n))), some (.int (nI n)), none] [] g A _
    refine rr_nx (pc' := 40) (al' := [some (.ref 146), none, none, some (.int (nI (SM (fun x => SM (coF n c x) n) n))), some (.int (nI n)), none]) (st' := [.int (nI n)]) d_253_38 (fun _ => rfl) ?_
    refine rr_nx (pc' := 41) (al' := [some (.ref 146), none, none, some (.int (nI (SM (fun x => SM (coF n c x) n) n))), some (.int (nI n)), none]) (st' := [.ref 146, .int (nI n)]) d_253_40 (fun _ => rfl) ?_
    refine rr_gn d_253_41 mo_253 fl_127 rfl hc.1 ?_
    refine rn_cge (t := 98) d_253_44 (by decide) (by first | omega | assumption | exact cu_36 (by omega) (cu_lt (by omega) (by omega))) (by first | omega | assumption | exact cu_36 (by omega) (cu_lt (by omega) (by omega))) (fun c44 => ?_) (fun c44 => ?_)
    · refine rr_nx (pc' := 99) (al' := [some (.ref 146), none, none, some (.int (nI (SM (fun x => SM (coF n c x) n) n))), some (.int (nI n)), none]) (st' := [.int (nI (SM (fun x => SM (coF n c x) n) n))]) d_253_98 (fun _ => rfl) ?_
      exact rr_ri d_253_99 mr_253 rfl ⟨rfl, rfl, rfl⟩
    · omega
