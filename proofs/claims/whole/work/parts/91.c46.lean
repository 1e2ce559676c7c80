/-! A State is made; printed by wip/whole/gen_c46.py. -/
theorem in_89 : (am_y 89).name = "<init>" := by decide +kernel
theorem in_80 : (am_y 80).name = "<init>" := by decide +kernel
theorem cp_10_1 {k pc o x n a : Nat} {al : AL} {r : List Value} {S : CS} {G : Nat → Nat → Value} {B : Nat → Nat → Int32} {J : Nat → Nat → Int64} {R : Nat → Nat → Option Nat} {Q : CQ} {v : Nat} (hd : decode (am_b 89) pc = .ok (.putfield x, 3)) (ho : am_o 89 = o) (hl : am_fl o x = some (10, 1)) (ha : cs_in S.1 a) (hs : S.2 a = (100 + 10, n)) (hj : 1 < n) (kk : CR k 89 (pc + 3) al r S (up2 G a 1 (.ref v)) B J R Q) : CR k 89 pc al (.ref v :: .ref a :: r) S G B J R Q := cr_pf hd ho hl ha hs hj rfl rfl (Or.inr ⟨in_89, ho.symm.trans cw_89⟩) kk
theorem cp_9_0 {k pc o x n a : Nat} {al : AL} {r : List Value} {S : CS} {G : Nat → Nat → Value} {B : Nat → Nat → Int32} {J : Nat → Nat → Int64} {R : Nat → Nat → Option Nat} {Q : CQ} {v : Nat} (hd : decode (am_b 80) pc = .ok (.putfield x, 3)) (ho : am_o 80 = o) (hl : am_fl o x = some (9, 0)) (ha : cs_in S.1 a) (hs : S.2 a = (100 + 9, n)) (hj : 0 < n) (kk : CR k 80 (pc + 3) al r S (up2 G a 0 (.ref v)) B J R Q) : CR k 80 pc al (.ref v :: .ref a :: r) S G B J R Q := cr_pf hd ho hl ha hs hj rfl rfl (Or.inr ⟨in_80, ho.symm.trans cw_80⟩) kk
theorem cp_9_1 {k pc o x n a : Nat} {al : AL} {r : List Value} {S : CS} {G : Nat → Nat → Value} {B : Nat → Nat → Int32} {J : Nat → Nat → Int64} {R : Nat → Nat → Option Nat} {Q : CQ} {v : Nat} (hd : decode (am_b 80) pc = .ok (.putfield x, 3)) (ho : am_o 80 = o) (hl : am_fl o x = some (9, 1)) (ha : cs_in S.1 a) (hs : S.2 a = (100 + 9, n)) (hj : 1 < n) (kk : CR k 80 (pc + 3) al r S (up2 G a 1 (.ref v)) B J R Q) : CR k 80 pc al (.ref v :: .ref a :: r) S G B J R Q := cr_pf hd ho hl ha hs hj rfl rfl (Or.inr ⟨in_80, ho.symm.trans cw_80⟩) kk
theorem cp_9_4 {k pc o x n a : Nat} {al : AL} {r : List Value} {S : CS} {G : Nat → Nat → Value} {B : Nat → Nat → Int32} {J : Nat → Nat → Int64} {R : Nat → Nat → Option Nat} {Q : CQ} {v : Nat} (hd : decode (am_b 80) pc = .ok (.putfield x, 3)) (ho : am_o 80 = o) (hl : am_fl o x = some (9, 4)) (ha : cs_in S.1 a) (hs : S.2 a = (100 + 9, n)) (hj : 4 < n) (kk : CR k 80 (pc + 3) al r S (up2 G a 4 (.ref v)) B J R Q) : CR k 80 pc al (.ref v :: .ref a :: r) S G B J R Q := cr_pf hd ho hl ha hs hj rfl rfl (Or.inr ⟨in_80, ho.symm.trans cw_80⟩) kk
theorem cp_9_5 {k pc o x n a : Nat} {al : AL} {r : List Value} {S : CS} {G : Nat → Nat → Value} {B : Nat → Nat → Int32} {J : Nat → Nat → Int64} {R : Nat → Nat → Option Nat} {Q : CQ} {v : Nat} (hd : decode (am_b 80) pc = .ok (.putfield x, 3)) (ho : am_o 80 = o) (hl : am_fl o x = some (9, 5)) (ha : cs_in S.1 a) (hs : S.2 a = (100 + 9, n)) (hj : 5 < n) (kk : CR k 80 (pc + 3) al r S (up2 G a 5 (.ref v)) B J R Q) : CR k 80 pc al (.ref v :: .ref a :: r) S G B J R Q := cr_pf hd ho hl ha hs hj rfl rfl (Or.inr ⟨in_80, ho.symm.trans cw_80⟩) kk
theorem cp_9_6 {k pc o x n a : Nat} {al : AL} {r : List Value} {S : CS} {G : Nat → Nat → Value} {B : Nat → Nat → Int32} {J : Nat → Nat → Int64} {R : Nat → Nat → Option Nat} {Q : CQ} {v : Nat} (hd : decode (am_b 80) pc = .ok (.putfield x, 3)) (ho : am_o 80 = o) (hl : am_fl o x = some (9, 6)) (ha : cs_in S.1 a) (hs : S.2 a = (100 + 9, n)) (hj : 6 < n) (kk : CR k 80 (pc + 3) al r S (up2 G a 6 (.ref v)) B J R Q) : CR k 80 pc al (.ref v :: .ref a :: r) S G B J R Q := cr_pf hd ho hl ha hs hj rfl rfl (Or.inr ⟨in_80, ho.symm.trans cw_80⟩) kk
theorem cl_9_9 : am_cl 9 9 = some 10 := by decide +kernel
theorem cl_9_17 : am_cl 9 17 = some 3 := by decide +kernel
/-- room for n cells more -/
def csR (N n : Nat) : Prop := 2 ≤ N ∧ (N + n ≤ 146 ∨ 174 ≤ N)
theorem csR.i {S : CS} {s : Nat × Nat} {n : Nat} (h : csR S.1 (n + 1)) : cs_in (cs_pu S s).1 S.1 := ⟨h.1, by have := h.2; omega, Nat.lt_succ_self _⟩
theorem csR.s {S : CS} {s : Nat × Nat} {n : Nat} (h : csR S.1 (n + 1)) : csR (cs_pu S s).1 n := ⟨Nat.le_succ_of_le h.1, by have := h.2; show S.1 + 1 + n ≤ 146 ∨ 174 ≤ S.1 + 1; omega⟩
theorem cs_g {S : CS} {s : Nat × Nat} {a : Nat} {q : Nat × Nat} (h : cs_in S.1 a ∧ S.2 a = q) : cs_in (cs_pu S s).1 a ∧ (cs_pu S s).2 a = q := ⟨cs_pj h.1, (cs_pn h.1).trans h.2⟩
theorem k_tabInit {S : CS} {G : Nat → Nat → Value} {B : Nat → Nat → Int32} {J : Nat → Nat → Int64} {R : Nat → Nat → Option Nat} {a : Nat} (ha : cs_in S.1 a ∧ S.2 a = (100 + 10, 2)) (h2 : csR S.1 1) : CR 0 89 0 [some (.ref a)] [] S G B J R (cP none (cs_pu S (0, 36)) (up2 G a 1 (.ref S.1)) (upr B S.1 (fun _ => 0)) J R) := by
  refine cr_nx (pc' := 1) (al' := [some (.ref a)]) (st' := [.ref a]) d_89_0 (fun _ => rfl) ?_
  refine cr_oi d_89_1 cw_89 cm_10_3 rfl ?_
  refine cr_nx (pc' := 5) (al' := [some (.ref a)]) (st' := [.ref a]) d_89_4 (fun _ => rfl) ?_
  refine cn_bp (v := 36) d_89_5 (by decide) ?_
  refine cr_na d_89_7 (by decide) h2.1 ?_
  refine cp_10_1  d_89_9 cw_89 cf_10_9 (cs_g (s := (0, 36)) ha).1 (cs_g (s := (0, 36)) ha).2 (by decide) ?_
  exact cr_rv d_89_12 cx_89 ⟨rfl, rfl, rfl, rfl, rfl, rfl⟩
theorem k_st55 {S : CS} {G : Nat → Nat → Value} {B : Nat → Nat → Int32} {J : Nat → Nat → Int64} {R : Nat → Nat → Option Nat} {Q : CQ} {a i : Nat} (ha : cs_in S.1 a ∧ S.2 a = (100 + 9, 9)) (hr : cs_in S.1 (a + 1) ∧ S.2 (a + 1) = (14, 6)) (hf : G a 0 = .ref (a + 1)) (hi : i < 6) (h2 : csR S.1 2) (hk : CR 1 80 68 [some (.ref a), some (.int (nI i))] [] (cs_pu (cs_pu S (100 + 10, 2)) (0, 36)) (up2 (upr G S.1 (fun j => defaultValue (am_ty 10 j))) S.1 1 (.ref (S.1 + 1))) (upr B (S.1 + 1) (fun _ => 0)) J (upr R (a + 1) (va_up (R (a + 1)) i (some S.1))) Q) : CR 1 80 55 [some (.ref a), some (.int (nI i))] [] S G B J R Q := by
  refine cr_nx (pc' := 56) (al' := [some (.ref a), some (.int (nI i))]) (st' := [.ref a]) d_80_55 (fun _ => rfl) ?_
  refine cr_gf (v := .ref (a + 1)) d_80_56 cw_80 cf_9_11 ha.1 ha.2 (by decide) hf ?_
  refine cr_nx (pc' := 60) (al' := [some (.ref a), some (.int (nI i))]) (st' := [.int (nI i), .ref (a + 1)]) d_80_59 (fun _ => rfl) ?_
  refine cr_nw d_80_60 cw_80 cl_9_9 (by decide) h2.1 ?_
  rw [show am_N 10 = 2 by decide +kernel]
  refine cr_nx (pc' := 64) (al' := [some (.ref a), some (.int (nI i))]) (st' := [.ref S.1, .ref S.1, .int (nI i), .ref (a + 1)]) d_80_63 (fun _ => rfl) ?_
  refine cr_ci (b := S.1) (as := []) (al0 := [some (.ref S.1)]) d_80_64 cw_80 cm_9_33 (Or.inr rfl) cz_89 rfl rfl rfl (k_tabInit ⟨h2.i (n := 1), cs_ps⟩ (h2.s (n := 1))) (fun v1 S1 G1 B1 J1 R1 h1x => ?_)
  obtain ⟨q0_, q1_, q2_, q3_, q4_, q5_⟩ := h1x
  obtain rfl := q0_
  obtain rfl := q1_
  obtain rfl := q2_
  obtain rfl := q3_.symm
  obtain rfl := q4_.symm
  obtain rfl := q5_.symm
  show CR _ _ 67 [some (.ref a), some (.int (nI i))] [.ref S.1, .int (nI i), .ref (a + 1)] (cs_pu (cs_pu S (100 + 10, 2)) (0, 36)) (up2 (upr G S.1 (fun j => defaultValue (am_ty 10 j))) S.1 1 (.ref (S.1 + 1))) (upr B (S.1 + 1) (fun _ => 0)) J R _
  refine cr_aS (a := (a + 1)) (b := S.1) (c := 10) (R1 := (upr R (a + 1) (va_up (R (a + 1)) i (some S.1)))) d_80_67 (cs_g (cs_g hr)).1 (cs_pj (h2.i (n := 1))) (by decide) (cs_g (cs_g hr)).2 ((cs_pn (h2.i (n := 1))).trans cs_ps) (by first | decide | omega) (show i < 6 by omega) rfl ?_
  exact hk
theorem k_st82 {S : CS} {G : Nat → Nat → Value} {B : Nat → Nat → Int32} {J : Nat → Nat → Int64} {R : Nat → Nat → Option Nat} {Q : CQ} {a i : Nat} (ha : cs_in S.1 a ∧ S.2 a = (100 + 9, 9)) (hr : cs_in S.1 (a + 5) ∧ S.2 (a + 5) = (14, 30)) (hf : G a 6 = .ref (a + 5)) (hi : i < 30) (h2 : csR S.1 2) (hk : CR 1 80 95 [some (.ref a), some (.int (nI i))] [] (cs_pu (cs_pu S (100 + 10, 2)) (0, 36)) (up2 (upr G S.1 (fun j => defaultValue (am_ty 10 j))) S.1 1 (.ref (S.1 + 1))) (upr B (S.1 + 1) (fun _ => 0)) J (upr R (a + 5) (va_up (R (a + 5)) i (some S.1))) Q) : CR 1 80 82 [some (.ref a), some (.int (nI i))] [] S G B J R Q := by
  refine cr_nx (pc' := 83) (al' := [some (.ref a), some (.int (nI i))]) (st' := [.ref a]) d_80_82 (fun _ => rfl) ?_
  refine cr_gf (v := .ref (a + 5)) d_80_83 cw_80 cf_9_30 ha.1 ha.2 (by decide) hf ?_
  refine cr_nx (pc' := 87) (al' := [some (.ref a), some (.int (nI i))]) (st' := [.int (nI i), .ref (a + 5)]) d_80_86 (fun _ => rfl) ?_
  refine cr_nw d_80_87 cw_80 cl_9_9 (by decide) h2.1 ?_
  rw [show am_N 10 = 2 by decide +kernel]
  refine cr_nx (pc' := 91) (al' := [some (.ref a), some (.int (nI i))]) (st' := [.ref S.1, .ref S.1, .int (nI i), .ref (a + 5)]) d_80_90 (fun _ => rfl) ?_
  refine cr_ci (b := S.1) (as := []) (al0 := [some (.ref S.1)]) d_80_91 cw_80 cm_9_33 (Or.inr rfl) cz_89 rfl rfl rfl (k_tabInit ⟨h2.i (n := 1), cs_ps⟩ (h2.s (n := 1))) (fun v1 S1 G1 B1 J1 R1 h1x => ?_)
  obtain ⟨q0_, q1_, q2_, q3_, q4_, q5_⟩ := h1x
  obtain rfl := q0_
  obtain rfl := q1_
  obtain rfl := q2_
  obtain rfl := q3_.symm
  obtain rfl := q4_.symm
  obtain rfl := q5_.symm
  show CR _ _ 94 [some (.ref a), some (.int (nI i))] [.ref S.1, .int (nI i), .ref (a + 5)] (cs_pu (cs_pu S (100 + 10, 2)) (0, 36)) (up2 (upr G S.1 (fun j => defaultValue (am_ty 10 j))) S.1 1 (.ref (S.1 + 1))) (upr B (S.1 + 1) (fun _ => 0)) J R _
  refine cr_aS (a := (a + 5)) (b := S.1) (c := 10) (R1 := (upr R (a + 5) (va_up (R (a + 5)) i (some S.1)))) d_80_94 (cs_g (cs_g hr)).1 (cs_pj (h2.i (n := 1))) (by decide) (cs_g (cs_g hr)).2 ((cs_pn (h2.i (n := 1))).trans cs_ps) (by first | decide | omega) (show i < 30 by omega) rfl ?_
  exact hk
/-- a State being made: n tables stand -/
def StI (S0 : CS) (G0 : Nat → Nat → Value) (B0 : Nat → Nat → Int32) (R0 : Nat → Nat → Option Nat) (a n : Nat) (S : CS) (G : Nat → Nat → Value) (B : Nat → Nat → Int32) (R : Nat → Nat → Option Nat) : Prop := S.1 = a + 6 + 2 * n ∧ (∀ b, b ≤ a → S.2 b = S0.2 b) ∧ (∀ j, 1 ≤ j → j < 6 + 2 * n → S.2 (a + j) = cs_tab.getD (j + 1) (0, 0)) ∧ (∀ b, b < a → G b = G0 b ∧ B b = B0 b ∧ R b = R0 b) ∧ StG G a ∧ (G a 2 = .int (nI 0) ∧ G a 3 = .int (nI 0) ∧ G a 7 = .int (nI 0) ∧ G a 8 = .int (nI 0)) ∧ (∀ z, z < n → G (a + 6 + 2 * z) 0 = .int (nI 0) ∧ G (a + 6 + 2 * z) 1 = .ref (a + 6 + 2 * z + 1)) ∧ (∀ z, z < n → z < 6 → R (a + 1) z = some (a + 6 + 2 * z)) ∧ (∀ l, R (a + 2) l = none) ∧ ∀ z, z + 6 < n → R (a + 5) z = some (a + 6 + 2 * (z + 6))
theorem st_tab : ∀ n, n < 36 → cs_tab.getD (6 + 2 * n + 1) (0, 0) = (110, 2) ∧ cs_tab.getD (6 + 2 * n + 1 + 1) (0, 0) = (0, 36) := by decide
theorem ty_10 : defaultValue (am_ty 10 0) = .int (nI 0) := by decide +kernel
/-- a table more -/
theorem StI.st {S0 : CS} {G0 : Nat → Nat → Value} {B0 : Nat → Nat → Int32} {R0 : Nat → Nat → Option Nat} {a n : Nat} {S : CS} {G : Nat → Nat → Value} {B : Nat → Nat → Int32} {R R' : Nat → Nat → Option Nat} (h : StI S0 G0 B0 R0 a n S G B R) (hn : n < 36) (hR : ∀ b, b ≠ a + 1 → b ≠ a + 5 → R' b = R b) (hr1 : n < 6 → R' (a + 1) = va_up (R (a + 1)) n (some S.1)) (hr2 : ¬ n < 6 → R' (a + 1) = R (a + 1)) (hr5 : ¬ n < 6 → R' (a + 5) = va_up (R (a + 5)) (n - 6) (some S.1)) : StI S0 G0 B0 R0 a (n + 1) (cs_pu (cs_pu S (100 + 10, 2)) (0, 36)) (up2 (upr G S.1 (fun j => defaultValue (am_ty 10 j))) S.1 1 (.ref (S.1 + 1))) (upr B (S.1 + 1) (fun _ => 0)) R' := by
  obtain ⟨h1, h2, h3, h4, h5, h6, h7, h8, h9, h10⟩ := h
  have hlo : ∀ b, b < S.1 → up2 (upr G S.1 (fun j => defaultValue (am_ty 10 j))) S.1 1 (.ref (S.1 + 1)) b = G b := fun b hb => by rw [up2_g (by omega), upr_n (by omega)]
  have hs1 : (cs_pu (cs_pu S (100 + 10, 2)) (0, 36)).1 = S.1 + 1 + 1 := rfl
  have hs2 : ∀ b, (cs_pu (cs_pu S (100 + 10, 2)) (0, 36)).2 b = upr (upr S.2 S.1 (100 + 10, 2)) (S.1 + 1) (0, 36) b := fun _ => rfl
  refine ⟨by rw [hs1]; omega, fun b hb => ?_, fun j j1 j2 => ?_, fun b hb => ⟨by rw [hlo b (by omega)]; exact (h4 b hb).1, by rw [upr_n (by omega)]; exact (h4 b hb).2.1, by rw [hR b (by omega) (by omega)]; exact (h4 b hb).2.2⟩, ?_, ?_, fun z hz => ?_, fun z hz hz6 => ?_, fun l => by rw [hR _ (by omega) (by omega)]; exact h9 l, fun z hz => ?_⟩
  · rw [hs2, upr_n (by omega), upr_n (by omega)]
    exact h2 b hb
  · rw [hs2]
    by_cases e1 : a + j = S.1 + 1
    · rw [e1, upr_s, show j = 6 + 2 * n + 1 by omega, (st_tab n hn).2]
    · rw [upr_n e1]
      by_cases e2 : a + j = S.1
      · rw [e2, upr_s, show j = 6 + 2 * n by omega, (st_tab n hn).1]
      · rw [upr_n e2]
        exact h3 j j1 (by omega)
  · unfold StG
    rw [hlo a (by omega)]
    exact h5
  · rw [hlo a (by omega)]
    exact h6
  · by_cases e : z = n
    · have e1 : a + 6 + 2 * z = S.1 := by omega
      rw [e1]
      exact ⟨by rw [up2_n (fun e => absurd e.2 (by decide)), upr_s]; exact ty_10, up2_s⟩
    · rw [hlo _ (by omega)]
      exact h7 z (by omega)
  · by_cases e6 : n < 6
    · rw [hr1 e6]
      unfold va_up
      by_cases e : z = n
      · rw [if_pos e]
        exact congrArg some (by omega)
      · rw [if_neg e]
        exact h8 z (by omega) hz6
    · rw [hr2 e6]
      exact h8 z (by omega) hz6
  · rw [hr5 (by omega)]
    unfold va_up
    by_cases e : z = n - 6
    · rw [if_pos e]
      exact congrArg some (by omega)
    · rw [if_neg e]
      exact h10 z (by omega)
theorem ty_9 : (defaultValue (am_ty 9 2), defaultValue (am_ty 9 3), defaultValue (am_ty 9 7), defaultValue (am_ty 9 8)) = (.int (nI 0), .int (nI 0), .int (nI 0), .int (nI 0)) := by decide +kernel
theorem k_st47 {S : CS} {G : Nat → Nat → Value} {B : Nat → Nat → Int32} {J : Nat → Nat → Int64} {R : Nat → Nat → Option Nat} {Q : CQ} {a : Nat} (ha : cs_in S.1 a ∧ S.2 a = (100 + 9, 9)) (hl : S.1 = a + 1) (hG : G a = fun j => defaultValue (am_ty 9 j)) (h2 : csR S.1 77) (hk : ∀ S1 G1 B1 R1, StI S G B R a 0 S1 G1 B1 R1 → CR 1 80 47 [some (.ref a), none] [] S1 G1 B1 J R1 Q) : CR 1 80 0 [some (.ref a), none] [] S G B J R Q := by
  have hl0 := hl
  have h20 : 2 ≤ S.1 := by have := h2.1; omega
  have ha0 := ha
  refine cr_nx (pc' := 1) (al' := [some (.ref a), none]) (st' := [.ref a]) d_80_0 (fun _ => rfl) ?_
  refine cr_oi d_80_1 cw_80 cm_9_3 rfl ?_
  refine cr_nx (pc' := 5) (al' := [some (.ref a), none]) (st' := [.ref a]) d_80_4 (fun _ => rfl) ?_
  refine cn_bp (v := 6) d_80_5 (by decide) ?_
  refine cr_nq d_80_7 cw_80 cl_9_9 (by decide) (by decide) h20 ?_
  rw [hl0]
  obtain ⟨S1_, hS1⟩ : ∃ T_, T_ = cs_pu S (4 + 10, 6) := ⟨_, rfl⟩
  rw [← hS1]
  have hl1 : S1_.1 = a + 2 := by rw [hS1]; show S.1 + 1 = _; omega
  have h21 : 2 ≤ S1_.1 := by omega
  have ha1 : cs_in S1_.1 a ∧ S1_.2 a = (100 + 9, 9) := by rw [hS1]; exact cs_g ha0
  refine cp_9_0  d_80_10 cw_80 cf_9_11 ha1.1 ha1.2 (by decide) ?_
  refine cr_nx (pc' := 14) (al' := [some (.ref a), none]) (st' := [.ref a]) d_80_13 (fun _ => rfl) ?_
  refine cn_bp (v := 8) d_80_14 (by decide) ?_
  refine cr_nq d_80_16 cw_80 cl_9_17 (by decide) (by decide) h21 ?_
  rw [hl1]
  obtain ⟨S2_, hS2⟩ : ∃ T_, T_ = cs_pu S1_ (4 + 3, 8) := ⟨_, rfl⟩
  rw [← hS2]
  have hl2 : S2_.1 = a + 3 := by rw [hS2]; show S1_.1 + 1 = _; omega
  have h22 : 2 ≤ S2_.1 := by omega
  have ha2 : cs_in S2_.1 a ∧ S2_.2 a = (100 + 9, 9) := by rw [hS2]; exact cs_g ha1
  refine cp_9_1  d_80_19 cw_80 cf_9_19 ha2.1 ha2.2 (by decide) ?_
  refine cr_nx (pc' := 23) (al' := [some (.ref a), none]) (st' := [.ref a]) d_80_22 (fun _ => rfl) ?_
  refine cn_bp (v := 36) d_80_23 (by decide) ?_
  refine cr_na d_80_25 (by decide) h22 ?_
  rw [hl2]
  obtain ⟨S3_, hS3⟩ : ∃ T_, T_ = cs_pu S2_ (0, 36) := ⟨_, rfl⟩
  rw [← hS3]
  have hl3 : S3_.1 = a + 4 := by rw [hS3]; show S2_.1 + 1 = _; omega
  have h23 : 2 ≤ S3_.1 := by omega
  have ha3 : cs_in S3_.1 a ∧ S3_.2 a = (100 + 9, 9) := by rw [hS3]; exact cs_g ha2
  refine cp_9_4  d_80_27 cw_80 cf_9_23 ha3.1 ha3.2 (by decide) ?_
  refine cr_nx (pc' := 31) (al' := [some (.ref a), none]) (st' := [.ref a]) d_80_30 (fun _ => rfl) ?_
  refine cn_bp (v := 30) d_80_31 (by decide) ?_
  refine cr_na d_80_33 (by decide) h23 ?_
  rw [hl3]
  obtain ⟨S4_, hS4⟩ : ∃ T_, T_ = cs_pu S3_ (0, 30) := ⟨_, rfl⟩
  rw [← hS4]
  have hl4 : S4_.1 = a + 5 := by rw [hS4]; show S3_.1 + 1 = _; omega
  have h24 : 2 ≤ S4_.1 := by omega
  have ha4 : cs_in S4_.1 a ∧ S4_.2 a = (100 + 9, 9) := by rw [hS4]; exact cs_g ha3
  refine cp_9_5  d_80_35 cw_80 cf_9_27 ha4.1 ha4.2 (by decide) ?_
  refine cr_nx (pc' := 39) (al' := [some (.ref a), none]) (st' := [.ref a]) d_80_38 (fun _ => rfl) ?_
  refine cn_bp (v := 30) d_80_39 (by decide) ?_
  refine cr_nq d_80_41 cw_80 cl_9_9 (by decide) (by decide) h24 ?_
  rw [hl4]
  obtain ⟨S5_, hS5⟩ : ∃ T_, T_ = cs_pu S4_ (4 + 10, 30) := ⟨_, rfl⟩
  rw [← hS5]
  have hl5 : S5_.1 = a + 6 := by rw [hS5]; show S4_.1 + 1 = _; omega
  have h25 : 2 ≤ S5_.1 := by omega
  have ha5 : cs_in S5_.1 a ∧ S5_.2 a = (100 + 9, 9) := by rw [hS5]; exact cs_g ha4
  refine cp_9_6  d_80_44 cw_80 cf_9_30 ha5.1 ha5.2 (by decide) ?_
  refine hk S5_ (up2 (up2 (up2 (up2 (up2 G a 0 (.ref (a + 1))) a 1 (.ref (a + 2))) a 4 (.ref (a + 3))) a 5 (.ref (a + 4))) a 6 (.ref (a + 5))) (upr (upr B (a + 3) (fun _ => 0)) (a + 4) (fun _ => 0)) (upr (upr (upr R (a + 1) (fun _ => none)) (a + 2) (fun _ => none)) (a + 5) (fun _ => none)) ⟨by omega, fun b hb => ?_, fun j j1 j2 => ?_, fun b hb => ⟨?_, ?_, ?_⟩, ?_, ?_, fun z hz => absurd hz (Nat.not_lt_zero z), fun z hz => absurd hz (Nat.not_lt_zero z), fun l => ?_, fun z hz => by omega⟩
  · rw [hS5]
    show upr S4_.2 S4_.1 _ b = _
    rw [upr_n (by omega), hS4]
    show upr S3_.2 S3_.1 _ b = _
    rw [upr_n (by omega), hS3]
    show upr S2_.2 S2_.1 _ b = _
    rw [upr_n (by omega), hS2]
    show upr S1_.2 S1_.1 _ b = _
    rw [upr_n (by omega), hS1]
    show upr S.2 S.1 _ b = _
    rw [upr_n (by omega)]
  · have : j = 1 ∨ j = 2 ∨ j = 3 ∨ j = 4 ∨ j = 5 := by omega
    have e5 : ∀ b, S5_.2 b = upr S4_.2 S4_.1 (4 + 10, 30) b := fun b => by rw [hS5]; rfl
    have e4 : ∀ b, S4_.2 b = upr S3_.2 S3_.1 (0, 30) b := fun b => by rw [hS4]; rfl
    have e3 : ∀ b, S3_.2 b = upr S2_.2 S2_.1 (0, 36) b := fun b => by rw [hS3]; rfl
    have e2 : ∀ b, S2_.2 b = upr S1_.2 S1_.1 (4 + 3, 8) b := fun b => by rw [hS2]; rfl
    have e1 : ∀ b, S1_.2 b = upr S.2 S.1 (4 + 10, 6) b := fun b => by rw [hS1]; rfl
    rcases this with e | e | e | e | e <;> subst e
    · rw [e5, upr_n (by omega), e4, upr_n (by omega), e3, upr_n (by omega), e2, upr_n (by omega), e1, hl0, upr_s]
      rfl
    · rw [e5, upr_n (by omega), e4, upr_n (by omega), e3, upr_n (by omega), e2, hl1, upr_s]
      rfl
    · rw [e5, upr_n (by omega), e4, upr_n (by omega), e3, hl2, upr_s]
      rfl
    · rw [e5, upr_n (by omega), e4, hl3, upr_s]
      rfl
    · rw [e5, hl4, upr_s]
      rfl
  · rw [up2_g (by omega), up2_g (by omega), up2_g (by omega), up2_g (by omega), up2_g (by omega)]
  · rw [upr_n (by omega), upr_n (by omega)]
  · rw [upr_n (by omega), upr_n (by omega), upr_n (by omega)]
  · unfold StG
    simp [up2]
  · have ht := ty_9
    simp only [Prod.ext_iff] at ht
    simp [up2, hG]
    exact ht
  · rw [upr_n (by omega), upr_s]
theorem k_st49 {S : CS} {G : Nat → Nat → Value} {B : Nat → Nat → Int32} {J : Nat → Nat → Int64} {R : Nat → Nat → Option Nat} {Q : CQ} {a : Nat} {S0 : CS} {G0 : Nat → Nat → Value} {B0 : Nat → Nat → Int32} {R0 : Nat → Nat → Option Nat} (ha : cs_in S0.1 a ∧ S0.2 a = (100 + 9, 9)) (hl : S0.1 = a + 1) (h2 : csR S0.1 77) (hI : StI S0 G0 B0 R0 a 0 S G B R) (hk : ∀ S1 G1 B1 R1, StI S0 G0 B0 R0 a 6 S1 G1 B1 R1 → CR 1 80 74 [some (.ref a), some (.int (nI 6))] [] S1 G1 B1 J R1 Q) : CR 1 80 49 [some (.ref a), some (.int (nI 0))] [] S G B J R Q := by
  refine cr_upw (al := fun i w_ => [some (.ref a), some (.int (nI i))]) (S := fun i w_ => w_.1) (G := fun i w_ => w_.2.1) (B := fun i w_ => w_.2.2.1) (J := fun i w_ => J) (R := fun i w_ => w_.2.2.2) (P := fun i w_ => StI S0 G0 B0 R0 a (0 + i) w_.1 w_.2.1 w_.2.2.1 w_.2.2.2) (n := 6) (fun i w_ hi pi ihi => ?_) (fun w_ pi => ?_) 0 (S, G, B, R) (by omega) (hI)
  · show CR _ _ 49 [some (.ref a), some (.int (nI i))] [] w_.1 w_.2.1 w_.2.2.1 J w_.2.2.2 _
    refine cr_nx (pc' := 50) (al' := [some (.ref a), some (.int (nI i))]) (st' := [.int (nI i)]) d_80_49 (fun _ => rfl) ?_
    refine cn_bp (v := 6) d_80_50 (by decide) ?_
    refine cn_cge (t := 74) d_80_52 (by decide) (by omega) (by decide) (fun c52 => ?_) (fun c52 => ?_)
    · omega
    · have hS1 := pi.1
      have hah : cs_in w_.1.1 a ∧ w_.1.2 a = (100 + 9, 9) := ⟨⟨ha.1.1, ha.1.2.1, by omega⟩, (pi.2.1 a (Nat.le_refl _)).trans ha.2⟩
      have hrw : cs_in w_.1.1 (a + 1) ∧ w_.1.2 (a + 1) = (14, 6) := ⟨⟨by have := ha.1.1; omega, by have := h2.2; omega, by omega⟩, (pi.2.2.1 1 (by decide) (by omega)).trans rfl⟩
      refine k_st55 hah hrw pi.2.2.2.2.1.1 hi ⟨by omega, by have := h2.2; omega⟩ ?_
      refine cn_inc d_80_68 rfl rfl ?_
      show CR _ _ 71 [some (.ref a), some (.int (nI (i + 1)))] [] (cs_pu (cs_pu w_.1 (100 + 10, 2)) (0, 36)) (up2 (upr w_.2.1 w_.1.1 (fun j => defaultValue (am_ty 10 j))) w_.1.1 1 (.ref (w_.1.1 + 1))) (upr w_.2.2.1 (w_.1.1 + 1) (fun _ => 0)) J (upr w_.2.2.2 (a + 1) (va_up (w_.2.2.2 (a + 1)) i (some w_.1.1))) _
      refine cr_nx (pc' := 49) (al' := [some (.ref a), some (.int (nI (i + 1)))]) (st' := []) d_80_71 (fun _ => rfl) ?_
      exact ihi (cs_pu (cs_pu w_.1 (100 + 10, 2)) (0, 36), up2 (upr w_.2.1 w_.1.1 (fun j => defaultValue (am_ty 10 j))) w_.1.1 1 (.ref (w_.1.1 + 1)), upr w_.2.2.1 (w_.1.1 + 1) (fun _ => 0), upr w_.2.2.2 (a + 1) (va_up (w_.2.2.2 (a + 1)) i (some w_.1.1))) ((StI.st (n := 0 + i) pi (by omega) (fun b b1 b2 => upr_n b1) (fun _ => show upr w_.2.2.2 (a + 1) (va_up (w_.2.2.2 (a + 1)) i (some w_.1.1)) (a + 1) = _ by rw [upr_s, Nat.zero_add]) (fun h_ => absurd hi (by omega)) (fun h_ => absurd hi (by omega))))
  · show CR _ _ 49 [some (.ref a), some (.int (nI 6))] [] w_.1 w_.2.1 w_.2.2.1 J w_.2.2.2 _
    refine cr_nx (pc' := 50) (al' := [some (.ref a), some (.int (nI 6))]) (st' := [.int (nI 6)]) d_80_49 (fun _ => rfl) ?_
    refine cn_bp (v := 6) d_80_50 (by decide) ?_
    refine cn_cge (t := 74) d_80_52 (by decide) (by omega) (by decide) (fun c52 => ?_) (fun c52 => ?_)
    · exact hk _ _ _ _ pi
    · omega
theorem k_st76 {S : CS} {G : Nat → Nat → Value} {B : Nat → Nat → Int32} {J : Nat → Nat → Int64} {R : Nat → Nat → Option Nat} {Q : CQ} {a : Nat} {S0 : CS} {G0 : Nat → Nat → Value} {B0 : Nat → Nat → Int32} {R0 : Nat → Nat → Option Nat} (ha : cs_in S0.1 a ∧ S0.2 a = (100 + 9, 9)) (hl : S0.1 = a + 1) (h2 : csR S0.1 77) (hI : StI S0 G0 B0 R0 a 6 S G B R) (hk : ∀ S1 G1 B1 R1, StI S0 G0 B0 R0 a 36 S1 G1 B1 R1 → CR 1 80 101 [some (.ref a), some (.int (nI 30))] [] S1 G1 B1 J R1 Q) : CR 1 80 76 [some (.ref a), some (.int (nI 0))] [] S G B J R Q := by
  refine cr_upw (al := fun i w_ => [some (.ref a), some (.int (nI i))]) (S := fun i w_ => w_.1) (G := fun i w_ => w_.2.1) (B := fun i w_ => w_.2.2.1) (J := fun i w_ => J) (R := fun i w_ => w_.2.2.2) (P := fun i w_ => StI S0 G0 B0 R0 a (6 + i) w_.1 w_.2.1 w_.2.2.1 w_.2.2.2) (n := 30) (fun i w_ hi pi ihi => ?_) (fun w_ pi => ?_) 0 (S, G, B, R) (by omega) (hI)
  · show CR _ _ 76 [some (.ref a), some (.int (nI i))] [] w_.1 w_.2.1 w_.2.2.1 J w_.2.2.2 _
    refine cr_nx (pc' := 77) (al' := [some (.ref a), some (.int (nI i))]) (st' := [.int (nI i)]) d_80_76 (fun _ => rfl) ?_
    refine cn_bp (v := 30) d_80_77 (by decide) ?_
    refine cn_cge (t := 101) d_80_79 (by decide) (by omega) (by decide) (fun c79 => ?_) (fun c79 => ?_)
    · omega
    · have hS1 := pi.1
      have hah : cs_in w_.1.1 a ∧ w_.1.2 a = (100 + 9, 9) := ⟨⟨ha.1.1, ha.1.2.1, by omega⟩, (pi.2.1 a (Nat.le_refl _)).trans ha.2⟩
      have hrw : cs_in w_.1.1 (a + 5) ∧ w_.1.2 (a + 5) = (14, 30) := ⟨⟨by have := ha.1.1; omega, by have := h2.2; omega, by omega⟩, (pi.2.2.1 5 (by decide) (by omega)).trans rfl⟩
      refine k_st82 hah hrw pi.2.2.2.2.1.2.2.2.2 hi ⟨by omega, by have := h2.2; omega⟩ ?_
      refine cn_inc d_80_95 rfl rfl ?_
      show CR _ _ 98 [some (.ref a), some (.int (nI (i + 1)))] [] (cs_pu (cs_pu w_.1 (100 + 10, 2)) (0, 36)) (up2 (upr w_.2.1 w_.1.1 (fun j => defaultValue (am_ty 10 j))) w_.1.1 1 (.ref (w_.1.1 + 1))) (upr w_.2.2.1 (w_.1.1 + 1) (fun _ => 0)) J (upr w_.2.2.2 (a + 5) (va_up (w_.2.2.2 (a + 5)) i (some w_.1.1))) _
      refine cr_nx (pc' := 76) (al' := [some (.ref a), some (.int (nI (i + 1)))]) (st' := []) d_80_98 (fun _ => rfl) ?_
      exact ihi (cs_pu (cs_pu w_.1 (100 + 10, 2)) (0, 36), up2 (upr w_.2.1 w_.1.1 (fun j => defaultValue (am_ty 10 j))) w_.1.1 1 (.ref (w_.1.1 + 1)), upr w_.2.2.1 (w_.1.1 + 1) (fun _ => 0), upr w_.2.2.2 (a + 5) (va_up (w_.2.2.2 (a + 5)) i (some w_.1.1))) ((StI.st (n := 6 + i) pi (by omega) (fun b b1 b2 => upr_n b2) (fun h_ => absurd h_ (by omega)) (fun _ => upr_n (by omega)) (fun _ => show upr w_.2.2.2 (a + 5) (va_up (w_.2.2.2 (a + 5)) i (some w_.1.1)) (a + 5) = _ by rw [upr_s, Nat.add_sub_cancel_left])))
  · show CR _ _ 76 [some (.ref a), some (.int (nI 30))] [] w_.1 w_.2.1 w_.2.2.1 J w_.2.2.2 _
    refine cr_nx (pc' := 77) (al' := [some (.ref a), some (.int (nI 30))]) (st' := [.int (nI 30)]) d_80_76 (fun _ => rfl) ?_
    refine cn_bp (v := 30) d_80_77 (by decide) ?_
    refine cn_cge (t := 101) d_80_79 (by decide) (by omega) (by decide) (fun c79 => ?_) (fun c79 => ?_)
    · exact hk _ _ _ _ pi
    · omega
theorem k_stInit {S : CS} {G : Nat → Nat → Value} {B : Nat → Nat → Int32} {J : Nat → Nat → Int64} {R : Nat → Nat → Option Nat} {a : Nat} (ha : cs_in S.1 a ∧ S.2 a = (100 + 9, 9)) (hl : S.1 = a + 1) (hG : G a = fun j => defaultValue (am_ty 9 j)) (h2 : csR S.1 77) : CR 1 80 0 [some (.ref a), none] [] S G B J R (fun r S' G' B' J' R' => r = none ∧ J' = J ∧ StI S G B R a 36 S' G' B' R') := by
  refine k_st47 ha hl hG h2 (fun S1 G1 B1 R1 hI => ?_)
  refine cn_ic (v := 0) d_80_47 (by decide) ?_
  refine cr_nx (pc' := 49) (al' := [some (.ref a), some (.int (nI 0))]) (st' := []) d_80_48 (fun _ => rfl) ?_
  refine k_st49 ha hl h2 hI (fun S2 G2 B2 R2 hI2 => ?_)
  refine cn_ic (v := 0) d_80_74 (by decide) ?_
  refine cr_nx (pc' := 76) (al' := [some (.ref a), some (.int (nI 0))]) (st' := []) d_80_75 (fun _ => rfl) ?_
  refine k_st76 ha hl h2 hI2 (fun S3 G3 B3 R3 hI3 => ?_)
  exact cr_rv d_80_101 cx_80 ⟨rfl, rfl, hI3⟩
