/-! Laws: the class counts failures; printed by wip/whole/gen_c02.py. -/
theorem upr_sw {α : Type} {B : Nat → α} {a b : Nat} {f f' g : α} (h : a ≠ b) : upr (upr (upr B a f) b g) a f' = upr (upr B a f') b g := by
  funext q
  unfold upr
  by_cases e : q = a
  · rw [if_pos e, if_neg (by omega), if_pos e]
  · rw [if_neg e]
    by_cases e2 : q = b
    · rw [if_pos e2, if_pos e2]
    · rw [if_neg e2, if_neg e, if_neg e2, if_neg e]
theorem us_bit (j : Nat) : ∀ (w : List Nat) (u : Nat), (w.foldl (fun u k => u ||| (1 * 2 ^ k)) u).testBit j = true ↔ u.testBit j = true ∨ j ∈ w
  | [], u => by simp
  | k :: w, u => by
    rw [List.foldl_cons, us_bit j w, Nat.testBit_or, Bool.or_eq_true, Nat.one_mul, Nat.testBit_two_pow, List.mem_cons, decide_eq_true_iff, or_assoc]
    constructor
    · rintro (h | h | h)
      · exact Or.inl h
      · exact Or.inr (Or.inl h.symm)
      · exact Or.inr (Or.inr h)
    · rintro (h | h | h)
      · exact Or.inl h
      · exact Or.inr (Or.inl h.symm)
      · exact Or.inr (Or.inr h)
theorem usN_bit {w : List Nat} {j : Nat} : (usN w).testBit j = true ↔ j ∈ w := by
  unfold usN
  rw [us_bit]
  simp
theorem wf_le : ∀ {w : List Nat} {d : Nat}, wfC w d = true → ∀ k, k ∈ w → k ≤ 7
  | [], _, _, k, h => absurd h (List.not_mem_nil)
  | x :: w, d, h, k, hk => by
    unfold wfC at h
    by_cases h3 : x ≤ 3
    · rw [if_pos h3] at h
      rcases List.mem_cons.mp hk with rfl | e
      · omega
      · exact wf_le h k e
    · rw [if_neg h3] at h
      by_cases h2 : d < 2
      · rw [if_pos h2] at h
        cases h
      · rw [if_neg h2] at h
        by_cases h7 : x = 7
        · rw [if_pos h7] at h
          rcases List.mem_cons.mp hk with rfl | e
          · omega
          · exact wf_le h k e
        · rw [if_neg h7] at h
          by_cases h6 : x ≤ 6
          · rw [if_pos h6] at h
            rcases List.mem_cons.mp hk with rfl | e
            · omega
            · exact wf_le h k e
          · rw [if_neg h6] at h
            cases h
theorem us_l0 : ∀ (w : List Nat) (u : Nat), u < 2 ^ 8 → (∀ k, k ∈ w → k ≤ 7) → w.foldl (fun u k => u ||| (1 * 2 ^ k)) u < 2 ^ 8
  | [], u, h, _ => h
  | k :: w, u, h, hk => by
    rw [List.foldl_cons]
    refine us_l0 w _ (Nat.or_lt_two_pow h ?_) (fun j hj => hk j (List.mem_cons_of_mem _ hj))
    rw [Nat.one_mul]
    exact Nat.pow_lt_pow_right (by decide) (by have := hk k (List.mem_cons_self ..); omega)
theorem usN_lt {w : List Nat} (h : ∀ k, k ∈ w → k ≤ 7) : usN w < 256 := us_l0 w 0 (by decide) h
theorem us_96 {w : List Nat} : (usN w &&& 96 = 0) ↔ ¬ (5 ∈ w ∨ 6 ∈ w) := by
  constructor
  · intro h hw
    rcases hw with e | e
    · have h1 := usN_bit.mpr e
      have h2 : (usN w &&& 96).testBit 5 = true := by rw [Nat.testBit_and, h1]; rfl
      rw [h] at h2
      cases h2
    · have h1 := usN_bit.mpr e
      have h2 : (usN w &&& 96).testBit 6 = true := by rw [Nat.testBit_and, h1]; rfl
      rw [h] at h2
      cases h2
  · intro h
    apply Nat.eq_of_testBit_eq
    intro j
    rw [Nat.testBit_and, Nat.zero_testBit]
    by_cases h5 : j = 5
    · rw [h5, Bool.eq_false_iff.mpr (fun e => h (Or.inl (usN_bit.mp e)))]
      rfl
    · by_cases h6 : j = 6
      · rw [h6, Bool.eq_false_iff.mpr (fun e => h (Or.inr (usN_bit.mp e)))]
        rfl
      · have : (96 : Nat).testBit j = false := by
          rcases Nat.lt_or_ge j 7 with q | q
          · revert h5 h6
            revert j
            decide
          · exact Nat.testBit_lt_two_pow (Nat.lt_of_lt_of_le (show 96 < 2 ^ 7 by decide) (Nat.pow_le_pow_right (by decide) q))
        rw [this, Bool.and_false]
theorem us_96l {w : List Nat} : usN w &&& 96 < 2 ^ 31 := Nat.lt_of_le_of_lt Nat.and_le_right (by decide)
def spN (n : Nat) (w : List Nat) (k : Nat) : Nat := if k ∈ w then n else 1
/-- divisions of a table laid in rows a + 2, a + 3 -/
def DvB (B : Nat → Nat → Int32) (a n : Nat) (c : Nat → Nat) : Prop := ∀ q, q < n * n → B (a + 2) q = nI (ovrI n c (q / n) (q % n)) ∧ B (a + 3) q = nI (undI n c (q / n) (q % n))
/-- a checker at a looks at the table n c in row m, unit e -/
def CkL (S : CS) (G : Nat → Nat → Value) (B : Nat → Nat → Int32) (a m n : Nat) (c : Nat → Nat) (e : Nat) : Prop := CkAt S G a ∧ G a 0 = .int (nI n) ∧ G a 1 = .ref m ∧ (cs_in S.1 m ∧ S.2 m = (0, 36)) ∧ (G a 2 = .int (nI 0) ∨ (G a 2 = .int (nI 1) ∧ DvB B a n c)) ∧ B (a + 4) 3 = nI e ∧ ∀ q, q < n * n → B m q = nI (c q)
theorem CkAt.u {S : CS} {G : Nat → Nat → Value} {a b k : Nat} {v : Value} (hk : k < 3) (h : CkAt S G a) : CkAt S (up2 G b k v) a := by
  unfold CkAt
  rw [up2_n (fun e => by omega), up2_n (fun e => by omega), up2_n (fun e => by omega), up2_n (fun e => by omega)]
  exact h
def jnW (n : Nat) (c : Nat → Nat) (k p q : Nat) : Nat := if k = 4 then c (n * p + q) else if k = 5 then ovrI n c p q else undI n c p q
theorem jnW_lt {n : Nat} {c : Nat → Nat} (hl : Lat n c) {k p q : Nat} (hp : p < n) (hq : q < n) : jnW n c k p q < n := by
  unfold jnW
  split
  · exact hl.b hp hq
  · split
    · exact (hl.o hq hp).1
    · exact (hl.u hp hq).1
def vlF (x y z e : Nat) (k : Nat) : Nat := if k = 0 then x else if k = 1 then y else if k = 2 then z else e
/-- whether the law of a code is broken at x y z -/
def lbT (w : List Nat) (i n : Nat) (c : Nat → Nat) (e x y z : Nat) : Bool := rnC (vlF x y z e) (jnW n c) (w.drop i) [] && !rnC (vlF x y z e) (jnW n c) (w.take i) []
theorem sp_lt {n x k : Nat} {w : List Nat} (h1 : 1 ≤ n) (h : x < spN n w k) : x < n := by
  unfold spN at h
  split at h <;> omega
theorem sp_6 {n k : Nat} {w : List Nat} (h6 : n ≤ 6) : spN n w k ≤ 6 := by
  unfold spN
  split <;> omega
/-- the rows at x y z -/
theorem ck_mk {B : Nat → Nat → Int32} {a m n : Nat} {c : Nat → Nat} (hl : Lat n c) {w : List Nat} {x y z e : Nat} (hx : x < n) (hy : y < n) (hz : z < n) (he : e < n) (hm : ∀ q, q < n * n → B m q = nI (c q)) (hd : 5 ∈ w ∨ 6 ∈ w → DvB B a n c) (h0 : B (a + 4) 0 = nI x) (h1 : B (a + 4) 1 = nI y) (h2 : B (a + 4) 2 = nI z) (h3 : B (a + 4) 3 = nI e) : CkB B a m n (vlF x y z e) (jnW n c) w := by
  refine ⟨fun k hk _ => ?_, fun p q hp hq => ⟨?_, fun e5 => ?_, fun e6 => ?_, fun k => jnW_lt hl hp hq⟩⟩
  · have hk4 : k = 0 ∨ k = 1 ∨ k = 2 ∨ k = 3 := by omega
    rcases hk4 with rfl | rfl | rfl | rfl
    · exact ⟨h0, hx⟩
    · exact ⟨h1, hy⟩
    · exact ⟨h2, hz⟩
    · exact ⟨h3, he⟩
  · exact hm _ (cu_lt hp hq)
  · have := (hd (Or.inl e5) _ (cu_lt hp hq)).1
    rw [dm_d hq, dm_m hq] at this
    exact this
  · have := (hd (Or.inr e6) _ (cu_lt hp hq)).2
    rw [dm_d hq, dm_m hq] at this
    exact this
theorem k_look {S : CS} {G : Nat → Nat → Value} {B : Nat → Nat → Int32} {J : Nat → Nat → Int64} {R : Nat → Nat → Option Nat} {a t n e : Nat} {v : Int32} (hC : CkAt S G a) (ht : TabAt S G t) (hn : G t 0 = .int (nI n)) (hta : t ≠ a) (hu : (if v < nI 0 then nI 0 else v) = nI e) : CR 0 1 0 [some (.ref a), some (.ref t), some (.int v)] [] S G B J R (cP none S (up2 (up2 (up2 G a 0 (.int (nI n))) a 1 (.ref (t + 1))) a 2 (.int (nI 0))) (upr B (a + 4) (upd (B (a + 4)) 3 (nI e))) J R) := by
  refine cr_nx (pc' := 1) (al' := [some (.ref a), some (.ref t), some (.int v)]) (st' := [.ref a]) d_1_0 (fun _ => rfl) ?_
  refine cr_nx (pc' := 2) (al' := [some (.ref a), some (.ref t), some (.int v)]) (st' := [.ref t, .ref a]) d_1_1 (fun _ => rfl) ?_
  refine cr_gf (v := .int (nI n)) d_1_2 cw_1 cf_0_29 ht.1 ht.2.2.1 (by decide) hn ?_
  refine cp_0_0  d_1_5 cw_1 cf_0_35 hC.1.1 hC.1.2 (by decide) ?_
  refine cr_nx (pc' := 9) (al' := [some (.ref a), some (.ref t), some (.int v)]) (st' := [.ref a]) d_1_8 (fun _ => rfl) ?_
  refine cr_nx (pc' := 10) (al' := [some (.ref a), some (.ref t), some (.int v)]) (st' := [.ref t, .ref a]) d_1_9 (fun _ => rfl) ?_
  refine cr_gf (v := .ref (t + 1)) d_1_10 cw_1 cf_0_38 ht.1 ht.2.2.1 (by decide) (by simp [up2, hta]; exact ht.2.2.2.2) ?_
  refine cp_0_1  d_1_13 cw_1 cf_0_11 hC.1.1 hC.1.2 (by decide) ?_
  refine cr_nx (pc' := 17) (al' := [some (.ref a), some (.ref t), some (.int v)]) (st' := [.ref a]) d_1_16 (fun _ => rfl) ?_
  refine cn_ic (v := 0) d_1_17 (by decide) ?_
  refine cp_0_2 (Or.inl rfl) d_1_18 cw_1 cf_0_41 hC.1.1 hC.1.2 (by decide) ?_
  refine cr_nx (pc' := 22) (al' := [some (.ref a), some (.ref t), some (.int v)]) (st' := [.ref a]) d_1_21 (fun _ => rfl) ?_
  refine cr_gf (v := .ref (a + 4)) d_1_22 cw_1 cf_0_23 hC.1.1 hC.1.2 (by decide) (by simp [up2, hta]; exact hC.2.2.2.2.2.2.2.1) ?_
  refine cn_ic (v := 3) d_1_25 (by decide) ?_
  refine cr_nx (pc' := 27) (al' := [some (.ref a), some (.ref t), some (.int v)]) (st' := [.int v, .int (nI 3), .ref (a + 4)]) d_1_26 (fun _ => rfl) ?_
  refine cn_ic (v := 0) d_1_27 (by decide) ?_
  refine cr_mx d_1_28 cw_1 cm_0_45 rfl ?_
  refine cr_tp (z := (nI e)) hu ?_
  refine cr_iS (a := (a + 4)) (B1 := (upr B (a + 4) (upd (B (a + 4)) 3 (nI e)))) d_1_31 hC.2.2.2.1.1 hC.2.2.2.1.2 (by first | decide | omega) (show 3 < 4 by first | omega | assumption | exact cu_36 (by omega) (cu_lt (by omega) (by omega))) rfl ?_
  exact cr_rv d_1_32 cx_1 ⟨rfl, rfl, rfl, rfl, rfl, rfl⟩
theorem CkL.mk {S : CS} {G : Nat → Nat → Value} {B : Nat → Nat → Int32} {J : Nat → Nat → Int64} {R : Nat → Nat → Option Nat} {a t n e : Nat} {c : Nat → Nat} (hC : CkAt S G a) (ht : TabAt S G t) (hc : TabC B t n c) (hta : t + 1 ≠ a + 4) : CkL S (up2 (up2 (up2 G a 0 (.int (nI n))) a 1 (.ref (t + 1))) a 2 (.int (nI 0))) (upr B (a + 4) (upd (B (a + 4)) 3 (nI e))) a (t + 1) n c e := by
  refine ⟨((hC.u (by decide)).u (by decide)).u (by decide), ?_, ?_, ⟨ht.2.1, ht.2.2.2.1⟩, Or.inl up2_s, ?_, fun q hq => ?_⟩
  · rw [up2_n (by omega), up2_n (by omega), up2_s]
  · rw [up2_n (by omega), up2_s]
  · rw [upr_s, pk_us]
  · rw [upr_n hta]
    exact (hc.2 q hq).1
theorem un_e {n : Nat} {c : Nat → Nat} (h1 : 1 ≤ n) (h6 : n ≤ 6) : ∃ e, e < n ∧ (if unV 0 n c < nI 0 then nI 0 else unV 0 n c) = nI e ∧ (if unV 0 n c = -1 then nI 0 else unV 0 n c) = nI e := by
  by_cases h : unI 0 n c < n
  · have e : unV 0 n c = nI (unI 0 n c) := (unV_t rfl h).symm
    refine ⟨unI 0 n c, h, ?_, ?_⟩
    · rw [e, if_neg]
      exact Int32.not_lt.mpr (nI_le (Nat.zero_le _) (by omega))
    · rw [e, if_neg]
      exact ia_ne (by omega)
  · have e : unV 0 n c = -1 := (unV_f rfl (by omega)).symm
    refine ⟨0, h1, ?_, ?_⟩
    · rw [e, if_pos (by decide)]
    · rw [e, if_pos rfl]
theorem k_divide {S : CS} {G : Nat → Nat → Value} {B : Nat → Nat → Int32} {J : Nat → Nat → Int64} {R : Nat → Nat → Option Nat} {a m n : Nat} {c : Nat → Nat} (hC : CkAt S G a) (hn : G a 0 = .int (nI n)) (hm1 : G a 1 = .ref m) (hm : cs_in S.1 m ∧ S.2 m = (0, 36)) (hn6 : n ≤ 6) (hmn : m ≠ a + 2 ∧ m ≠ a + 3) (hc : ∀ q, q < n * n → B m q = nI (c q)) (hl : Lat n c) : CR 0 3 0 [some (.ref a), none, none, none] [] S G B J R (fun r S' G' B' J' R' => r = none ∧ S' = S ∧ G' = up2 G a 2 (.int (nI 1)) ∧ J' = J ∧ R' = R ∧ ∃ w2 w3, B' = upr (upr B (a + 2) w2) (a + 3) w3 ∧ (∀ q, q < n * n → w2 q = nI (ovrI n c (q / n) (q % n))) ∧ ∀ q, q < n * n → w3 q = nI (undI n c (q / n) (q % n))) := by
  refine cr_nx (pc' := 1) (al' := [some (.ref a), none, none, none]) (st' := [.ref a]) d_3_0 (fun _ => rfl) ?_
  refine cn_ic (v := 1) d_3_1 (by decide) ?_
  refine cp_0_2 (Or.inr rfl) d_3_2 cw_3 cf_0_41 hC.1.1 hC.1.2 (by decide) ?_
  refine cn_ic (v := 0) d_3_5 (by decide) ?_
  refine cr_nx (pc' := 7) (al' := [some (.ref a), some (.int (nI 0)), none, none]) (st' := []) d_3_6 (fun _ => rfl) ?_
  refine cr_B (show B = (upr (upr B (a + 2) ((B (a + 2), B (a + 3)).1)) (a + 3) ((B (a + 2), B (a + 3)).2)) by rw [upr_id, upr_id]) ?_
  refine cr_upw (al := fun x w_ => [some (.ref a), some (.int (nI x)), none, none]) (S := fun x w_ => S) (G := fun x w_ => (up2 G a 2 (.int (nI 1)))) (B := fun x w_ => (upr (upr B (a + 2) w_.1) (a + 3) w_.2)) (J := fun x w_ => J) (R := fun x w_ => R) (P := fun x w_ => ScP (fun q => nI (ovrI n c (q / n) (q % n))) (fun x y => n * c (n * x + y) + y) n x 0 w_.1 ∧ ScP (fun q => nI (undI n c (q / n) (q % n))) (fun x y => n * x + c (n * x + y)) n x 0 w_.2) (n := n) (fun x w_ hx px ihx => ?_) (fun w_ px => ?_) 0 (B (a + 2), B (a + 3)) (by omega) (⟨sc_0, sc_0⟩)
  · show CR _ _ 7 [some (.ref a), some (.int (nI x)), none, none] [] S (up2 G a 2 (.int (nI 1))) (upr (upr B (a + 2) w_.1) (a + 3) w_.2) J R _
    refine cr_nx (pc' := 8) (al' := [some (.ref a), some (.int (nI x)), none, none]) (st' := [.int (nI x)]) d_3_7 (fun _ => rfl) ?_
    refine cr_nx (pc' := 9) (al' := [some (.ref a), some (.int (nI x)), none, none]) (st' := [.ref a, .int (nI x)]) d_3_8 (fun _ => rfl) ?_
    refine cr_gf (v := .int (nI n)) d_3_9 cw_3 cf_0_35 hC.1.1 hC.1.2 (by decide) (by simp [up2]; exact hn) ?_
    refine cn_cge (t := 79) d_3_12 (by decide) (by first | omega | assumption | exact cu_36 (by omega) (cu_lt (by omega) (by omega))) (by first | omega | assumption | exact cu_36 (by omega) (cu_lt (by omega) (by omega))) (fun c12 => ?_) (fun c12 => ?_)
    · omega
    · refine cn_ic (v := 0) d_3_15 (by decide) ?_
      refine cr_nx (pc' := 17) (al' := [some (.ref a), some (.int (nI x)), some (.int (nI 0)), none]) (st' := []) d_3_16 (fun _ => rfl) ?_
      refine cr_upw (al := fun y w_ => [some (.ref a), some (.int (nI x)), some (.int (nI y)), none]) (S := fun y w_ => S) (G := fun y w_ => (up2 G a 2 (.int (nI 1)))) (B := fun y w_ => (upr (upr B (a + 2) w_.1) (a + 3) w_.2)) (J := fun y w_ => J) (R := fun y w_ => R) (P := fun y w_ => ScP (fun q => nI (ovrI n c (q / n) (q % n))) (fun x y => n * c (n * x + y) + y) n x y w_.1 ∧ ScP (fun q => nI (undI n c (q / n) (q % n))) (fun x y => n * x + c (n * x + y)) n x y w_.2) (n := n) (fun y w_ hy py ihy => ?_) (fun w_ py => ?_) 0 w_ (by omega) (px)
      · show CR _ _ 17 [some (.ref a), some (.int (nI x)), some (.int (nI y)), none] [] S (up2 G a 2 (.int (nI 1))) (upr (upr B (a + 2) w_.1) (a + 3) w_.2) J R _
        refine cr_nx (pc' := 18) (al' := [some (.ref a), some (.int (nI x)), some (.int (nI y)), none]) (st' := [.int (nI y)]) d_3_17 (fun _ => rfl) ?_
        refine cr_nx (pc' := 19) (al' := [some (.ref a), some (.int (nI x)), some (.int (nI y)), none]) (st' := [.ref a, .int (nI y)]) d_3_18 (fun _ => rfl) ?_
        refine cr_gf (v := .int (nI n)) d_3_19 cw_3 cf_0_35 hC.1.1 hC.1.2 (by decide) (by simp [up2]; exact hn) ?_
        refine cn_cge (t := 73) d_3_22 (by decide) (by first | omega | assumption | exact cu_36 (by omega) (cu_lt (by omega) (by omega))) (by first | omega | assumption | exact cu_36 (by omega) (cu_lt (by omega) (by omega))) (fun c22 => ?_) (fun c22 => ?_)
        · omega
        · refine cr_nx (pc' := 26) (al' := [some (.ref a), some (.int (nI x)), some (.int (nI y)), none]) (st' := [.ref a]) d_3_25 (fun _ => rfl) ?_
          refine cr_gf (v := .ref m) d_3_26 cw_3 cf_0_11 hC.1.1 hC.1.2 (by decide) (by simp [up2]; exact hm1) ?_
          refine cr_nx (pc' := 30) (al' := [some (.ref a), some (.int (nI x)), some (.int (nI y)), none]) (st' := [.ref a, .ref m]) d_3_29 (fun _ => rfl) ?_
          refine cr_gf (v := .int (nI n)) d_3_30 cw_3 cf_0_35 hC.1.1 hC.1.2 (by decide) (by simp [up2]; exact hn) ?_
          refine cr_nx (pc' := 34) (al' := [some (.ref a), some (.int (nI x)), some (.int (nI y)), none]) (st' := [.int (nI x), .int (nI n), .ref m]) d_3_33 (fun _ => rfl) ?_
          refine cn_mul d_3_34  ?_
          refine cr_nx (pc' := 36) (al' := [some (.ref a), some (.int (nI x)), some (.int (nI y)), none]) (st' := [.int (nI y), .int (nI (n * x)), .ref m]) d_3_35 (fun _ => rfl) ?_
          refine cn_add d_3_36  ?_
          refine cr_ia (a := m) (v := (nI (c (n * x + y)))) d_3_37 hm.1 hm.2 (by first | decide | omega) (show (n * x) + y < 36 by first | omega | assumption | exact cu_36 (by omega) (cu_lt (by omega) (by omega))) ((congrFun (by rw [upr_n (show m ≠ a + 3 by omega), upr_n (show m ≠ a + 2 by omega)] : (upr (upr B (a + 2) w_.1) (a + 3) w_.2) m = B m) _).trans (hc _ (cu_lt hx hy))) ?_
          refine cr_nx (pc' := 39) (al' := [some (.ref a), some (.int (nI x)), some (.int (nI y)), some (.int (nI (c (n * x + y))))]) (st' := []) d_3_38 (fun _ => rfl) ?_
          refine cr_nx (pc' := 40) (al' := [some (.ref a), some (.int (nI x)), some (.int (nI y)), some (.int (nI (c (n * x + y))))]) (st' := [.ref a]) d_3_39 (fun _ => rfl) ?_
          refine cr_gf (v := .ref (a + 2)) d_3_40 cw_3 cf_0_17 hC.1.1 hC.1.2 (by decide) (by simp [up2]; exact hC.2.2.2.2.2.1) ?_
          refine cr_nx (pc' := 44) (al' := [some (.ref a), some (.int (nI x)), some (.int (nI y)), some (.int (nI (c (n * x + y))))]) (st' := [.ref a, .ref (a + 2)]) d_3_43 (fun _ => rfl) ?_
          refine cr_gf (v := .int (nI n)) d_3_44 cw_3 cf_0_35 hC.1.1 hC.1.2 (by decide) (by simp [up2]; exact hn) ?_
          refine cr_nx (pc' := 48) (al' := [some (.ref a), some (.int (nI x)), some (.int (nI y)), some (.int (nI (c (n * x + y))))]) (st' := [.int (nI (c (n * x + y))), .int (nI n), .ref (a + 2)]) d_3_47 (fun _ => rfl) ?_
          refine cn_mul d_3_48  ?_
          refine cr_nx (pc' := 50) (al' := [some (.ref a), some (.int (nI x)), some (.int (nI y)), some (.int (nI (c (n * x + y))))]) (st' := [.int (nI y), .int (nI (n * (c (n * x + y)))), .ref (a + 2)]) d_3_49 (fun _ => rfl) ?_
          refine cn_add d_3_50  ?_
          refine cr_nx (pc' := 52) (al' := [some (.ref a), some (.int (nI x)), some (.int (nI y)), some (.int (nI (c (n * x + y))))]) (st' := [.int (nI x), .int (nI ((n * (c (n * x + y))) + y)), .ref (a + 2)]) d_3_51 (fun _ => rfl) ?_
          refine cr_iS (a := (a + 2)) (B1 := (upr (upr B (a + 2) (upd w_.1 ((n * (c (n * x + y))) + y) (nI x))) (a + 3) w_.2)) d_3_52 hC.2.1.1 hC.2.1.2 (by first | decide | omega) (show (n * (c (n * x + y))) + y < 36 by exact cu_36 hn6 (cu_lt (hl.b hx hy) hy)) (by rw [upr_n (show a + 2 ≠ a + 3 by omega), upr_s, upr_sw (show a + 2 ≠ a + 3 by omega)]) ?_
          refine cr_nx (pc' := 54) (al' := [some (.ref a), some (.int (nI x)), some (.int (nI y)), some (.int (nI (c (n * x + y))))]) (st' := [.ref a]) d_3_53 (fun _ => rfl) ?_
          refine cr_gf (v := .ref (a + 3)) d_3_54 cw_3 cf_0_20 hC.1.1 hC.1.2 (by decide) (by simp [up2]; exact hC.2.2.2.2.2.2.1) ?_
          refine cr_nx (pc' := 58) (al' := [some (.ref a), some (.int (nI x)), some (.int (nI y)), some (.int (nI (c (n * x + y))))]) (st' := [.ref a, .ref (a + 3)]) d_3_57 (fun _ => rfl) ?_
          refine cr_gf (v := .int (nI n)) d_3_58 cw_3 cf_0_35 hC.1.1 hC.1.2 (by decide) (by simp [up2]; exact hn) ?_
          refine cr_nx (pc' := 62) (al' := [some (.ref a), some (.int (nI x)), some (.int (nI y)), some (.int (nI (c (n * x + y))))]) (st' := [.int (nI x), .int (nI n), .ref (a + 3)]) d_3_61 (fun _ => rfl) ?_
          refine cn_mul d_3_62  ?_
          refine cr_nx (pc' := 64) (al' := [some (.ref a), some (.int (nI x)), some (.int (nI y)), some (.int (nI (c (n * x + y))))]) (st' := [.int (nI (c (n * x + y))), .int (nI (n * x)), .ref (a + 3)]) d_3_63 (fun _ => rfl) ?_
          refine cn_add d_3_64  ?_
          refine cr_nx (pc' := 66) (al' := [some (.ref a), some (.int (nI x)), some (.int (nI y)), some (.int (nI (c (n * x + y))))]) (st' := [.int (nI y), .int (nI ((n * x) + (c (n * x + y)))), .ref (a + 3)]) d_3_65 (fun _ => rfl) ?_
          refine cr_iS (a := (a + 3)) (B1 := (upr (upr B (a + 2) (upd w_.1 ((n * (c (n * x + y))) + y) (nI x))) (a + 3) (upd w_.2 ((n * x) + (c (n * x + y))) (nI y)))) d_3_66 hC.2.2.1.1 hC.2.2.1.2 (by first | decide | omega) (show (n * x) + (c (n * x + y)) < 36 by exact cu_36 hn6 (cu_lt hx (hl.b hx hy))) (by rw [upr_s, upr_u]) ?_
          refine cn_inc d_3_67 rfl rfl ?_
          show CR _ _ 70 [some (.ref a), some (.int (nI x)), some (.int (nI (y + 1))), some (.int (nI (c (n * x + y))))] [] S (up2 G a 2 (.int (nI 1))) (upr (upr B (a + 2) (upd w_.1 ((n * (c (n * x + y))) + y) (nI x))) (a + 3) (upd w_.2 ((n * x) + (c (n * x + y))) (nI y))) J R _
          refine cr_nx (pc' := 17) (al' := [some (.ref a), some (.int (nI x)), some (.int (nI (y + 1))), some (.int (nI (c (n * x + y))))]) (st' := []) d_3_70 (fun _ => rfl) ?_
          refine cr_dr (al1 := [some (.ref a), some (.int (nI x)), some (.int (nI (y + 1))), none]) (le_s (le_s (le_s (le_d rfl (le_n))))) ?_
          exact ihy ((upd w_.1 ((n * (c (n * x + y))) + y) (nI x)), (upd w_.2 ((n * x) + (c (n * x + y))) (nI y))) (⟨sc_in py.1 rfl (by rw [dm_d hy, dm_m hy, hl.oc hx hy]), sc_in py.2 rfl (by rw [dm_d (hl.b hx hy), dm_m (hl.b hx hy), hl.uc hx hy])⟩)
      · show CR _ _ 17 [some (.ref a), some (.int (nI x)), some (.int (nI n)), none] [] S (up2 G a 2 (.int (nI 1))) (upr (upr B (a + 2) w_.1) (a + 3) w_.2) J R _
        refine cr_nx (pc' := 18) (al' := [some (.ref a), some (.int (nI x)), some (.int (nI n)), none]) (st' := [.int (nI n)]) d_3_17 (fun _ => rfl) ?_
        refine cr_nx (pc' := 19) (al' := [some (.ref a), some (.int (nI x)), some (.int (nI n)), none]) (st' := [.ref a, .int (nI n)]) d_3_18 (fun _ => rfl) ?_
        refine cr_gf (v := .int (nI n)) d_3_19 cw_3 cf_0_35 hC.1.1 hC.1.2 (by decide) (by simp [up2]; exact hn) ?_
        refine cn_cge (t := 73) d_3_22 (by decide) (by first | omega | assumption | exact cu_36 (by omega) (cu_lt (by omega) (by omega))) (by first | omega | assumption | exact cu_36 (by omega) (cu_lt (by omega) (by omega))) (fun c22 => ?_) (fun c22 => ?_)
        · refine cn_inc d_3_73 rfl rfl ?_
          show CR _ _ 76 [some (.ref a), some (.int (nI (x + 1))), some (.int (nI n)), none] [] S (up2 G a 2 (.int (nI 1))) (upr (upr B (a + 2) w_.1) (a + 3) w_.2) J R _
          refine cr_nx (pc' := 7) (al' := [some (.ref a), some (.int (nI (x + 1))), some (.int (nI n)), none]) (st' := []) d_3_76 (fun _ => rfl) ?_
          refine cr_dr (al1 := [some (.ref a), some (.int (nI (x + 1))), none, none]) (le_s (le_s (le_d rfl (le_s (le_n))))) ?_
          exact ihx (w_.1, w_.2) (⟨sc_out py.1, sc_out py.2⟩)
        · omega
  · show CR _ _ 7 [some (.ref a), some (.int (nI n)), none, none] [] S (up2 G a 2 (.int (nI 1))) (upr (upr B (a + 2) w_.1) (a + 3) w_.2) J R _
    refine cr_nx (pc' := 8) (al' := [some (.ref a), some (.int (nI n)), none, none]) (st' := [.int (nI n)]) d_3_7 (fun _ => rfl) ?_
    refine cr_nx (pc' := 9) (al' := [some (.ref a), some (.int (nI n)), none, none]) (st' := [.ref a, .int (nI n)]) d_3_8 (fun _ => rfl) ?_
    refine cr_gf (v := .int (nI n)) d_3_9 cw_3 cf_0_35 hC.1.1 hC.1.2 (by decide) (by simp [up2]; exact hn) ?_
    refine cn_cge (t := 79) d_3_12 (by decide) (by first | omega | assumption | exact cu_36 (by omega) (cu_lt (by omega) (by omega))) (by first | omega | assumption | exact cu_36 (by omega) (cu_lt (by omega) (by omega))) (fun c12 => ?_) (fun c12 => ?_)
    · exact cr_rv d_3_79 cx_3 ⟨rfl, rfl, rfl, rfl, rfl, w_.1, w_.2, rfl, sc_all px.1 (fun q hq => ⟨ovrI n c (q / n) (q % n), q % n, (hl.o (dm_ml hq) (dm_dl hq)).1, dm_ml hq, by rw [(hl.o (dm_ml hq) (dm_dl hq)).2, dm_q]⟩), sc_all px.2 (fun q hq => ⟨q / n, undI n c (q / n) (q % n), dm_dl hq, (hl.u (dm_dl hq) (dm_ml hq)).1, by rw [(hl.u (dm_dl hq) (dm_ml hq)).2, dm_q]⟩)⟩
    · omega
theorem k_span {S : CS} {G : Nat → Nat → Value} {B : Nat → Nat → Int32} {J : Nat → Nat → Int64} {R : Nat → Nat → Option Nat} {a n : Nat} (hC : CkAt S G a) (hn : G a 0 = .int (nI n)) {l i k : Nat} {w : List Nat} (hLw : LawAt S G B l w i) (hk : k < 3) (hu : usN w < 256) : CR 0 4 0 [some (.ref a), some (.ref l), some (.int (nI k))] [] S G B J R (cP (some (.int (nI (spN n w k)))) S G B J R) := by
  refine cr_nx (pc' := 1) (al' := [some (.ref a), some (.ref l), some (.int (nI k))]) (st' := [.ref l]) d_4_0 (fun _ => rfl) ?_
  refine cr_gf (v := .int (nI (usN w))) d_4_1 cw_4 cf_0_51 hLw.1 hLw.2.1 (by decide) hLw.2.2.2.2.2.2.1 ?_
  refine cr_nx (pc' := 5) (al' := [some (.ref a), some (.ref l), some (.int (nI k))]) (st' := [.int (nI k), .int (nI (usN w))]) d_4_4 (fun _ => rfl) ?_
  refine cn_shr d_4_5 (by omega) (by omega) ?_
  refine cn_ic (v := 1) d_4_6 (by decide) ?_
  refine cn_and d_4_7 ?_
  refine cn_ieq (t := 18) d_4_8 (by decide) (by have := bt_lt (usN w) k; omega) (fun c8 => ?_) (fun c8 => ?_)
  · refine cn_ic (v := 1) d_4_18 (by decide) ?_
    exact cr_ri d_4_19 cx_4 rfl ⟨by rw [spN, if_neg (fun h_ => absurd (usN_bit.mpr h_) (by rw [bt_e0.mp c8]; exact Bool.false_ne_true))], rfl, rfl, rfl, rfl, rfl⟩
  · refine cr_nx (pc' := 12) (al' := [some (.ref a), some (.ref l), some (.int (nI k))]) (st' := [.ref a]) d_4_11 (fun _ => rfl) ?_
    refine cr_gf (v := .int (nI n)) d_4_12 cw_4 cf_0_35 hC.1.1 hC.1.2 (by decide) hn ?_
    refine cr_nx (pc' := 19) (al' := [some (.ref a), some (.ref l), some (.int (nI k))]) (st' := [.int (nI n)]) d_4_15 (fun _ => rfl) ?_
    exact cr_ri d_4_19 cx_4 rfl ⟨by rw [spN, if_pos (usN_bit.mp (bt_p0.mp c8))], rfl, rfl, rfl, rfl, rfl⟩
