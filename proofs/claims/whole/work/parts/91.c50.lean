/-! The class is made: its parts; printed by wip/whole/gen_c50.py. -/
theorem in_0 : (am_y 0).name = "<init>" := by decide +kernel
theorem cp_0_3 {k pc o x n a : Nat} {al : AL} {r : List Value} {S : CS} {G : Nat → Nat → Value} {B : Nat → Nat → Int32} {J : Nat → Nat → Int64} {R : Nat → Nat → Option Nat} {Q : CQ} {v : Nat} (hd : decode (am_b 0) pc = .ok (.putfield x, 3)) (ho : am_o 0 = o) (hl : am_fl o x = some (0, 3)) (ha : cs_in S.1 a) (hs : S.2 a = (100 + 0, n)) (hj : 3 < n) (kk : CR k 0 (pc + 3) al r S (up2 G a 3 (.ref v)) B J R Q) : CR k 0 pc al (.ref v :: .ref a :: r) S G B J R Q := cr_pf hd ho hl ha hs hj rfl rfl (Or.inr ⟨in_0, ho.symm.trans cw_0⟩) kk
theorem cp_0_4 {k pc o x n a : Nat} {al : AL} {r : List Value} {S : CS} {G : Nat → Nat → Value} {B : Nat → Nat → Int32} {J : Nat → Nat → Int64} {R : Nat → Nat → Option Nat} {Q : CQ} {v : Nat} (hd : decode (am_b 0) pc = .ok (.putfield x, 3)) (ho : am_o 0 = o) (hl : am_fl o x = some (0, 4)) (ha : cs_in S.1 a) (hs : S.2 a = (100 + 0, n)) (hj : 4 < n) (kk : CR k 0 (pc + 3) al r S (up2 G a 4 (.ref v)) B J R Q) : CR k 0 pc al (.ref v :: .ref a :: r) S G B J R Q := cr_pf hd ho hl ha hs hj rfl rfl (Or.inr ⟨in_0, ho.symm.trans cw_0⟩) kk
theorem cp_0_5 {k pc o x n a : Nat} {al : AL} {r : List Value} {S : CS} {G : Nat → Nat → Value} {B : Nat → Nat → Int32} {J : Nat → Nat → Int64} {R : Nat → Nat → Option Nat} {Q : CQ} {v : Nat} (hd : decode (am_b 0) pc = .ok (.putfield x, 3)) (ho : am_o 0 = o) (hl : am_fl o x = some (0, 5)) (ha : cs_in S.1 a) (hs : S.2 a = (100 + 0, n)) (hj : 5 < n) (kk : CR k 0 (pc + 3) al r S (up2 G a 5 (.ref v)) B J R Q) : CR k 0 pc al (.ref v :: .ref a :: r) S G B J R Q := cr_pf hd ho hl ha hs hj rfl rfl (Or.inr ⟨in_0, ho.symm.trans cw_0⟩) kk
theorem cp_0_6 {k pc o x n a : Nat} {al : AL} {r : List Value} {S : CS} {G : Nat → Nat → Value} {B : Nat → Nat → Int32} {J : Nat → Nat → Int64} {R : Nat → Nat → Option Nat} {Q : CQ} {v : Nat} (hd : decode (am_b 0) pc = .ok (.putfield x, 3)) (ho : am_o 0 = o) (hl : am_fl o x = some (0, 6)) (ha : cs_in S.1 a) (hs : S.2 a = (100 + 0, n)) (hj : 6 < n) (kk : CR k 0 (pc + 3) al r S (up2 G a 6 (.ref v)) B J R Q) : CR k 0 pc al (.ref v :: .ref a :: r) S G B J R Q := cr_pf hd ho hl ha hs hj rfl rfl (Or.inr ⟨in_0, ho.symm.trans cw_0⟩) kk
theorem k_ckInit {S : CS} {G : Nat → Nat → Value} {B : Nat → Nat → Int32} {J : Nat → Nat → Int64} {R : Nat → Nat → Option Nat} {a : Nat} (ha : cs_in S.1 a ∧ S.2 a = (100 + 0, 7)) (h2 : csR S.1 5) : CR 0 0 0 [some (.ref a)] [] S G B J R (cP none (cs_pu (cs_pu (cs_pu (cs_pu (cs_pu S (0, 36)) (0, 36)) (0, 36)) (0, 4)) (0, 33)) (up2 (up2 (up2 (up2 (up2 G a 1 (.ref S.1)) a 3 (.ref (S.1 + 1))) a 4 (.ref (S.1 + 2))) a 5 (.ref (S.1 + 3))) a 6 (.ref (S.1 + 4))) (upr (upr (upr (upr (upr B S.1 (fun _ => 0)) (S.1 + 1) (fun _ => 0)) (S.1 + 2) (fun _ => 0)) (S.1 + 3) (fun _ => 0)) (S.1 + 4) (fun _ => 0)) J R) := by
  refine cr_nx (pc' := 1) (al' := [some (.ref a)]) (st' := [.ref a]) d_0_0 (fun _ => rfl) ?_
  refine cr_oi d_0_1 cw_0 cm_0_5 rfl ?_
  refine cr_nx (pc' := 5) (al' := [some (.ref a)]) (st' := [.ref a]) d_0_4 (fun _ => rfl) ?_
  refine cn_bp (v := 36) d_0_5 (by decide) ?_
  refine cr_na d_0_7 (by decide) (show 2 ≤ S.1 + 0 by have := h2.1; omega) ?_
  show CR _ _ 9 [some (.ref a)] [.ref S.1, .ref a] (cs_pu S (0, 36)) G (upr B S.1 (fun _ => 0)) J R _
  refine cp_0_1  d_0_9 cw_0 cf_0_11 (cs_g ha).1 (cs_g ha).2 (by decide) ?_
  refine cr_nx (pc' := 13) (al' := [some (.ref a)]) (st' := [.ref a]) d_0_12 (fun _ => rfl) ?_
  refine cn_bp (v := 36) d_0_13 (by decide) ?_
  refine cr_na d_0_15 (by decide) (show 2 ≤ S.1 + 1 by have := h2.1; omega) ?_
  show CR _ _ 17 [some (.ref a)] [.ref (S.1 + 1), .ref a] (cs_pu (cs_pu S (0, 36)) (0, 36)) (up2 G a 1 (.ref S.1)) (upr (upr B S.1 (fun _ => 0)) (S.1 + 1) (fun _ => 0)) J R _
  refine cp_0_3  d_0_17 cw_0 cf_0_17 (cs_g (cs_g ha)).1 (cs_g (cs_g ha)).2 (by decide) ?_
  refine cr_nx (pc' := 21) (al' := [some (.ref a)]) (st' := [.ref a]) d_0_20 (fun _ => rfl) ?_
  refine cn_bp (v := 36) d_0_21 (by decide) ?_
  refine cr_na d_0_23 (by decide) (show 2 ≤ S.1 + 2 by have := h2.1; omega) ?_
  show CR _ _ 25 [some (.ref a)] [.ref (S.1 + 2), .ref a] (cs_pu (cs_pu (cs_pu S (0, 36)) (0, 36)) (0, 36)) (up2 (up2 G a 1 (.ref S.1)) a 3 (.ref (S.1 + 1))) (upr (upr (upr B S.1 (fun _ => 0)) (S.1 + 1) (fun _ => 0)) (S.1 + 2) (fun _ => 0)) J R _
  refine cp_0_4  d_0_25 cw_0 cf_0_20 (cs_g (cs_g (cs_g ha))).1 (cs_g (cs_g (cs_g ha))).2 (by decide) ?_
  refine cr_nx (pc' := 29) (al' := [some (.ref a)]) (st' := [.ref a]) d_0_28 (fun _ => rfl) ?_
  refine cn_ic (v := 4) d_0_29 (by decide) ?_
  refine cr_na d_0_30 (by decide) (show 2 ≤ S.1 + 3 by have := h2.1; omega) ?_
  show CR _ _ 32 [some (.ref a)] [.ref (S.1 + 3), .ref a] (cs_pu (cs_pu (cs_pu (cs_pu S (0, 36)) (0, 36)) (0, 36)) (0, 4)) (up2 (up2 (up2 G a 1 (.ref S.1)) a 3 (.ref (S.1 + 1))) a 4 (.ref (S.1 + 2))) (upr (upr (upr (upr B S.1 (fun _ => 0)) (S.1 + 1) (fun _ => 0)) (S.1 + 2) (fun _ => 0)) (S.1 + 3) (fun _ => 0)) J R _
  refine cp_0_5  d_0_32 cw_0 cf_0_23 (cs_g (cs_g (cs_g (cs_g ha)))).1 (cs_g (cs_g (cs_g (cs_g ha)))).2 (by decide) ?_
  refine cr_nx (pc' := 36) (al' := [some (.ref a)]) (st' := [.ref a]) d_0_35 (fun _ => rfl) ?_
  refine cn_bp (v := 33) d_0_36 (by decide) ?_
  refine cr_na d_0_38 (by decide) (show 2 ≤ S.1 + 4 by have := h2.1; omega) ?_
  show CR _ _ 40 [some (.ref a)] [.ref (S.1 + 4), .ref a] (cs_pu (cs_pu (cs_pu (cs_pu (cs_pu S (0, 36)) (0, 36)) (0, 36)) (0, 4)) (0, 33)) (up2 (up2 (up2 (up2 G a 1 (.ref S.1)) a 3 (.ref (S.1 + 1))) a 4 (.ref (S.1 + 2))) a 5 (.ref (S.1 + 3))) (upr (upr (upr (upr (upr B S.1 (fun _ => 0)) (S.1 + 1) (fun _ => 0)) (S.1 + 2) (fun _ => 0)) (S.1 + 3) (fun _ => 0)) (S.1 + 4) (fun _ => 0)) J R _
  refine cp_0_6  d_0_40 cw_0 cf_0_26 (cs_g (cs_g (cs_g (cs_g (cs_g ha))))).1 (cs_g (cs_g (cs_g (cs_g (cs_g ha))))).2 (by decide) ?_
  exact cr_rv d_0_43 cx_0 ⟨rfl, rfl, rfl, rfl, rfl, rfl⟩
theorem in_9 : (am_y 9).name = "<init>" := by decide +kernel
theorem cp_1_1 {k pc o x n a : Nat} {al : AL} {r : List Value} {S : CS} {G : Nat → Nat → Value} {B : Nat → Nat → Int32} {J : Nat → Nat → Int64} {R : Nat → Nat → Option Nat} {Q : CQ} {v : Nat} (hd : decode (am_b 9) pc = .ok (.putfield x, 3)) (ho : am_o 9 = o) (hl : am_fl o x = some (1, 1)) (ha : cs_in S.1 a) (hs : S.2 a = (100 + 1, n)) (hj : 1 < n) (kk : CR k 9 (pc + 3) al r S (up2 G a 1 (.ref v)) B J R Q) : CR k 9 pc al (.ref v :: .ref a :: r) S G B J R Q := cr_pf hd ho hl ha hs hj rfl rfl (Or.inr ⟨in_9, ho.symm.trans cw_9⟩) kk
theorem cl_1_7 : am_cl 1 7 = some 10 := by decide +kernel
theorem k_crInit {S : CS} {G : Nat → Nat → Value} {B : Nat → Nat → Int32} {J : Nat → Nat → Int64} {R : Nat → Nat → Option Nat} {a : Nat} (ha : cs_in S.1 a ∧ S.2 a = (100 + 1, 3)) (h2 : csR S.1 3) : CR 1 9 0 [some (.ref a)] [] S G B J R (cP none (cs_pu (cs_pu (cs_pu S (100 + 10, 2)) (0, 36)) (3, 720)) (up2 (up2 (up2 (upr G S.1 (fun j => defaultValue (am_ty 10 j))) S.1 1 (.ref (S.1 + 1))) a 0 (.ref S.1)) a 1 (.ref (S.1 + 2))) (upr B (S.1 + 1) (fun _ => 0)) (upr J (S.1 + 2) (fun _ => 0)) R) := by
  refine cr_nx (pc' := 1) (al' := [some (.ref a)]) (st' := [.ref a]) d_9_0 (fun _ => rfl) ?_
  refine cr_oi d_9_1 cw_9 cm_1_1 rfl ?_
  refine cr_nx (pc' := 5) (al' := [some (.ref a)]) (st' := [.ref a]) d_9_4 (fun _ => rfl) ?_
  refine cr_nw d_9_5 cw_9 cl_1_7 (by decide) (show 2 ≤ S.1 + 0 by have := h2.1; omega) ?_
  rw [show am_N 10 = 2 by decide +kernel]
  show CR _ _ 8 [some (.ref a)] [.ref S.1, .ref a] (cs_pu S (100 + 10, 2)) (upr G S.1 (fun j => defaultValue (am_ty 10 j))) B J R _
  refine cr_nx (pc' := 9) (al' := [some (.ref a)]) (st' := [.ref S.1, .ref S.1, .ref a]) d_9_8 (fun _ => rfl) ?_
  refine cr_ci (r := [.ref S.1, .ref a]) (b := S.1) (as := []) (al0 := [some (.ref (S.1))]) d_9_9 cw_9 cm_1_9 (Or.inr rfl) cz_89 rfl rfl rfl (cr_wk (Nat.zero_le _) (k_tabInit ⟨(show cs_in (S.1 + 1) (S.1) from ⟨by have := h2.1; omega, by have := h2.2; omega, by omega⟩), cs_ps⟩ (show csR (S.1 + 1) 1 from ⟨by have := h2.1; omega, by have := h2.2; omega⟩))) (fun v1 S1 G1 B1 J1 R1 h1x => ?_)
  obtain ⟨q0_, q1_, q2_, q3_, q4_, q5_⟩ := h1x
  obtain rfl := q0_
  obtain rfl := q1_
  obtain rfl := q2_
  obtain rfl := q3_
  obtain rfl := q4_.symm
  obtain rfl := q5_.symm
  show CR _ _ 12 [some (.ref a)] [.ref S.1, .ref a] (cs_pu (cs_pu S (100 + 10, 2)) (0, 36)) (up2 (upr G S.1 (fun j => defaultValue (am_ty 10 j))) S.1 1 (.ref (S.1 + 1))) (upr B (S.1 + 1) (fun _ => 0)) J R _
  refine cp_1_0  d_9_12 cw_9 cf_1_10 (cs_g (cs_g ha)).1 (cs_g (cs_g ha)).2 (by decide) ?_
  refine cr_nx (pc' := 16) (al' := [some (.ref a)]) (st' := [.ref a]) d_9_15 (fun _ => rfl) ?_
  refine cn_sp (v := 720) d_9_16 (by decide) ?_
  refine cr_nl d_9_19 (by decide) (show 2 ≤ S.1 + 2 by have := h2.1; omega) ?_
  show CR _ _ 21 [some (.ref a)] [.ref (S.1 + 2), .ref a] (cs_pu (cs_pu (cs_pu S (100 + 10, 2)) (0, 36)) (3, 720)) (up2 (up2 (upr G S.1 (fun j => defaultValue (am_ty 10 j))) S.1 1 (.ref (S.1 + 1))) a 0 (.ref S.1)) (upr B (S.1 + 1) (fun _ => 0)) (upr J (S.1 + 2) (fun _ => 0)) R _
  refine cp_1_1  d_9_21 cw_9 cf_1_16 (cs_g (cs_g (cs_g ha))).1 (cs_g (cs_g (cs_g ha))).2 (by decide) ?_
  exact cr_rv d_9_24 cx_9 ⟨rfl, rfl, rfl, rfl, rfl, rfl⟩
theorem in_16 : (am_y 16).name = "<init>" := by decide +kernel
theorem cp_2_1 {k pc o x n a : Nat} {al : AL} {r : List Value} {S : CS} {G : Nat → Nat → Value} {B : Nat → Nat → Int32} {J : Nat → Nat → Int64} {R : Nat → Nat → Option Nat} {Q : CQ} {v : Nat} (hd : decode (am_b 16) pc = .ok (.putfield x, 3)) (ho : am_o 16 = o) (hl : am_fl o x = some (2, 1)) (ha : cs_in S.1 a) (hs : S.2 a = (100 + 2, n)) (hj : 1 < n) (kk : CR k 16 (pc + 3) al r S (up2 G a 1 (.ref v)) B J R Q) : CR k 16 pc al (.ref v :: .ref a :: r) S G B J R Q := cr_pf hd ho hl ha hs hj rfl rfl (Or.inr ⟨in_16, ho.symm.trans cw_16⟩) kk
theorem cp_2_2 {k pc o x n a : Nat} {al : AL} {r : List Value} {S : CS} {G : Nat → Nat → Value} {B : Nat → Nat → Int32} {J : Nat → Nat → Int64} {R : Nat → Nat → Option Nat} {Q : CQ} {v : Nat} (hd : decode (am_b 16) pc = .ok (.putfield x, 3)) (ho : am_o 16 = o) (hl : am_fl o x = some (2, 2)) (ha : cs_in S.1 a) (hs : S.2 a = (100 + 2, n)) (hj : 2 < n) (kk : CR k 16 (pc + 3) al r S (up2 G a 2 (.ref v)) B J R Q) : CR k 16 pc al (.ref v :: .ref a :: r) S G B J R Q := cr_pf hd ho hl ha hs hj rfl rfl (Or.inr ⟨in_16, ho.symm.trans cw_16⟩) kk
theorem cp_2_3 {k pc o x n a : Nat} {al : AL} {r : List Value} {S : CS} {G : Nat → Nat → Value} {B : Nat → Nat → Int32} {J : Nat → Nat → Int64} {R : Nat → Nat → Option Nat} {Q : CQ} {v : Nat} (hd : decode (am_b 16) pc = .ok (.putfield x, 3)) (ho : am_o 16 = o) (hl : am_fl o x = some (2, 3)) (ha : cs_in S.1 a) (hs : S.2 a = (100 + 2, n)) (hj : 3 < n) (kk : CR k 16 (pc + 3) al r S (up2 G a 3 (.ref v)) B J R Q) : CR k 16 pc al (.ref v :: .ref a :: r) S G B J R Q := cr_pf hd ho hl ha hs hj rfl rfl (Or.inr ⟨in_16, ho.symm.trans cw_16⟩) kk
theorem k_fiInit {S : CS} {G : Nat → Nat → Value} {B : Nat → Nat → Int32} {J : Nat → Nat → Int64} {R : Nat → Nat → Option Nat} {a : Nat} (ha : cs_in S.1 a ∧ S.2 a = (100 + 2, 7)) (h2 : csR S.1 3) : CR 0 16 0 [some (.ref a)] [] S G B J R (cP none (cs_pu (cs_pu (cs_pu S (0, 6)) (0, 6)) (0, 36)) (up2 (up2 (up2 G a 1 (.ref S.1)) a 2 (.ref (S.1 + 1))) a 3 (.ref (S.1 + 2))) (upr (upr (upr B S.1 (fun _ => 0)) (S.1 + 1) (fun _ => 0)) (S.1 + 2) (fun _ => 0)) J R) := by
  refine cr_nx (pc' := 1) (al' := [some (.ref a)]) (st' := [.ref a]) d_16_0 (fun _ => rfl) ?_
  refine cr_oi d_16_1 cw_16 cm_2_3 rfl ?_
  refine cr_nx (pc' := 5) (al' := [some (.ref a)]) (st' := [.ref a]) d_16_4 (fun _ => rfl) ?_
  refine cn_bp (v := 6) d_16_5 (by decide) ?_
  refine cr_na d_16_7 (by decide) (show 2 ≤ S.1 + 0 by have := h2.1; omega) ?_
  show CR _ _ 9 [some (.ref a)] [.ref S.1, .ref a] (cs_pu S (0, 6)) G (upr B S.1 (fun _ => 0)) J R _
  refine cp_2_1  d_16_9 cw_16 cf_2_9 (cs_g ha).1 (cs_g ha).2 (by decide) ?_
  refine cr_nx (pc' := 13) (al' := [some (.ref a)]) (st' := [.ref a]) d_16_12 (fun _ => rfl) ?_
  refine cn_bp (v := 6) d_16_13 (by decide) ?_
  refine cr_na d_16_15 (by decide) (show 2 ≤ S.1 + 1 by have := h2.1; omega) ?_
  show CR _ _ 17 [some (.ref a)] [.ref (S.1 + 1), .ref a] (cs_pu (cs_pu S (0, 6)) (0, 6)) (up2 G a 1 (.ref S.1)) (upr (upr B S.1 (fun _ => 0)) (S.1 + 1) (fun _ => 0)) J R _
  refine cp_2_2  d_16_17 cw_16 cf_2_15 (cs_g (cs_g ha)).1 (cs_g (cs_g ha)).2 (by decide) ?_
  refine cr_nx (pc' := 21) (al' := [some (.ref a)]) (st' := [.ref a]) d_16_20 (fun _ => rfl) ?_
  refine cn_bp (v := 36) d_16_21 (by decide) ?_
  refine cr_na d_16_23 (by decide) (show 2 ≤ S.1 + 2 by have := h2.1; omega) ?_
  show CR _ _ 25 [some (.ref a)] [.ref (S.1 + 2), .ref a] (cs_pu (cs_pu (cs_pu S (0, 6)) (0, 6)) (0, 36)) (up2 (up2 G a 1 (.ref S.1)) a 2 (.ref (S.1 + 1))) (upr (upr (upr B S.1 (fun _ => 0)) (S.1 + 1) (fun _ => 0)) (S.1 + 2) (fun _ => 0)) J R _
  refine cp_2_3  d_16_25 cw_16 cf_2_18 (cs_g (cs_g (cs_g ha))).1 (cs_g (cs_g (cs_g ha))).2 (by decide) ?_
  exact cr_rv d_16_28 cx_16 ⟨rfl, rfl, rfl, rfl, rfl, rfl⟩
theorem in_24 : (am_y 24).name = "<init>" := by decide +kernel
theorem cp_4_5 {k pc o x n a : Nat} {al : AL} {r : List Value} {S : CS} {G : Nat → Nat → Value} {B : Nat → Nat → Int32} {J : Nat → Nat → Int64} {R : Nat → Nat → Option Nat} {Q : CQ} {v : Nat} (hd : decode (am_b 24) pc = .ok (.putfield x, 3)) (ho : am_o 24 = o) (hl : am_fl o x = some (4, 5)) (ha : cs_in S.1 a) (hs : S.2 a = (100 + 4, n)) (hj : 5 < n) (kk : CR k 24 (pc + 3) al r S (up2 G a 5 (.ref v)) B J R Q) : CR k 24 pc al (.ref v :: .ref a :: r) S G B J R Q := cr_pf hd ho hl ha hs hj rfl rfl (Or.inr ⟨in_24, ho.symm.trans cw_24⟩) kk
theorem k_lrInit {S : CS} {G : Nat → Nat → Value} {B : Nat → Nat → Int32} {J : Nat → Nat → Int64} {R : Nat → Nat → Option Nat} {a : Nat} (ha : cs_in S.1 a ∧ S.2 a = (100 + 4, 9)) (h2 : csR S.1 2) : CR 0 24 0 [some (.ref a)] [] S G B J R (cP none (cs_pu (cs_pu S (0, 0)) (0, 64)) (up2 (up2 G a 0 (.ref S.1)) a 5 (.ref (S.1 + 1))) (upr (upr B S.1 (fun _ => 0)) (S.1 + 1) (fun _ => 0)) J R) := by
  refine cr_nx (pc' := 1) (al' := [some (.ref a)]) (st' := [.ref a]) d_24_0 (fun _ => rfl) ?_
  refine cr_oi d_24_1 cw_24 cm_4_1 rfl ?_
  refine cr_nx (pc' := 5) (al' := [some (.ref a)]) (st' := [.ref a]) d_24_4 (fun _ => rfl) ?_
  refine cn_ic (v := 0) d_24_5 (by decide) ?_
  refine cr_na d_24_6 (by decide) (show 2 ≤ S.1 + 0 by have := h2.1; omega) ?_
  show CR _ _ 8 [some (.ref a)] [.ref S.1, .ref a] (cs_pu S (0, 0)) G (upr B S.1 (fun _ => 0)) J R _
  refine cp_4_0  d_24_8 cw_24 cf_4_7 (cs_g ha).1 (cs_g ha).2 (by decide) ?_
  refine cr_nx (pc' := 12) (al' := [some (.ref a)]) (st' := [.ref a]) d_24_11 (fun _ => rfl) ?_
  refine cn_bp (v := 64) d_24_12 (by decide) ?_
  refine cr_na d_24_14 (by decide) (show 2 ≤ S.1 + 1 by have := h2.1; omega) ?_
  show CR _ _ 16 [some (.ref a)] [.ref (S.1 + 1), .ref a] (cs_pu (cs_pu S (0, 0)) (0, 64)) (up2 G a 0 (.ref S.1)) (upr (upr B S.1 (fun _ => 0)) (S.1 + 1) (fun _ => 0)) J R _
  refine cp_4_5  d_24_16 cw_24 cf_4_13 (cs_g (cs_g ha)).1 (cs_g (cs_g ha)).2 (by decide) ?_
  exact cr_rv d_24_19 cx_24 ⟨rfl, rfl, rfl, rfl, rfl, rfl⟩
theorem in_34 : (am_y 34).name = "<init>" := by decide +kernel
theorem cp_5_0 {k pc o x n a : Nat} {al : AL} {r : List Value} {S : CS} {G : Nat → Nat → Value} {B : Nat → Nat → Int32} {J : Nat → Nat → Int64} {R : Nat → Nat → Option Nat} {Q : CQ} {v : Nat} (hd : decode (am_b 34) pc = .ok (.putfield x, 3)) (ho : am_o 34 = o) (hl : am_fl o x = some (5, 0)) (ha : cs_in S.1 a) (hs : S.2 a = (100 + 5, n)) (hj : 0 < n) (kk : CR k 34 (pc + 3) al r S (up2 G a 0 (.ref v)) B J R Q) : CR k 34 pc al (.ref v :: .ref a :: r) S G B J R Q := cr_pf hd ho hl ha hs hj rfl rfl (Or.inr ⟨in_34, ho.symm.trans cw_34⟩) kk
theorem cp_5_2 {k pc o x n a : Nat} {al : AL} {r : List Value} {S : CS} {G : Nat → Nat → Value} {B : Nat → Nat → Int32} {J : Nat → Nat → Int64} {R : Nat → Nat → Option Nat} {Q : CQ} {v : Nat} (hd : decode (am_b 34) pc = .ok (.putfield x, 3)) (ho : am_o 34 = o) (hl : am_fl o x = some (5, 2)) (ha : cs_in S.1 a) (hs : S.2 a = (100 + 5, n)) (hj : 2 < n) (kk : CR k 34 (pc + 3) al r S (up2 G a 2 (.ref v)) B J R Q) : CR k 34 pc al (.ref v :: .ref a :: r) S G B J R Q := cr_pf hd ho hl ha hs hj rfl rfl (Or.inr ⟨in_34, ho.symm.trans cw_34⟩) kk
theorem cp_5_3 {k pc o x n a : Nat} {al : AL} {r : List Value} {S : CS} {G : Nat → Nat → Value} {B : Nat → Nat → Int32} {J : Nat → Nat → Int64} {R : Nat → Nat → Option Nat} {Q : CQ} {v : Nat} (hd : decode (am_b 34) pc = .ok (.putfield x, 3)) (ho : am_o 34 = o) (hl : am_fl o x = some (5, 3)) (ha : cs_in S.1 a) (hs : S.2 a = (100 + 5, n)) (hj : 3 < n) (kk : CR k 34 (pc + 3) al r S (up2 G a 3 (.ref v)) B J R Q) : CR k 34 pc al (.ref v :: .ref a :: r) S G B J R Q := cr_pf hd ho hl ha hs hj rfl rfl (Or.inr ⟨in_34, ho.symm.trans cw_34⟩) kk
theorem cl_5_9 : am_cl 5 9 = some 10 := by decide +kernel
theorem cl_5_18 : am_cl 5 18 = some 0 := by decide +kernel
theorem cl_5_29 : am_cl 5 29 = some 3 := by decide +kernel
theorem k_liInit {S : CS} {G : Nat → Nat → Value} {B : Nat → Nat → Int32} {J : Nat → Nat → Int64} {R : Nat → Nat → Option Nat} {a : Nat} (ha : cs_in S.1 a ∧ S.2 a = (100 + 5, 8)) (h2 : csR S.1 10) : CR 1 34 0 [some (.ref a)] [] S G B J R (cP none (cs_pu (cs_pu (cs_pu (cs_pu (cs_pu (cs_pu (cs_pu (cs_pu (cs_pu (cs_pu S (100 + 10, 2)) (0, 36)) (100 + 0, 7)) (0, 36)) (0, 36)) (0, 36)) (0, 4)) (0, 33)) (0, 6)) (4 + 3, 0)) (up2 (up2 (up2 (up2 (up2 (up2 (up2 (up2 (upr (up2 (up2 (upr G S.1 (fun j => defaultValue (am_ty 10 j))) S.1 1 (.ref (S.1 + 1))) a 0 (.ref S.1)) (S.1 + 2) (fun j => defaultValue (am_ty 0 j))) (S.1 + 2) 1 (.ref (S.1 + 3))) (S.1 + 2) 3 (.ref (S.1 + 4))) (S.1 + 2) 4 (.ref (S.1 + 5))) (S.1 + 2) 5 (.ref (S.1 + 6))) (S.1 + 2) 6 (.ref (S.1 + 7))) a 2 (.ref (S.1 + 2))) a 3 (.ref (S.1 + 8))) a 4 (.ref (S.1 + 9))) (upr (upr (upr (upr (upr (upr (upr B (S.1 + 1) (fun _ => 0)) (S.1 + 3) (fun _ => 0)) (S.1 + 4) (fun _ => 0)) (S.1 + 5) (fun _ => 0)) (S.1 + 6) (fun _ => 0)) (S.1 + 7) (fun _ => 0)) (S.1 + 8) (fun _ => 0)) J (upr R (S.1 + 9) (fun _ => none))) := by
  refine cr_nx (pc' := 1) (al' := [some (.ref a)]) (st' := [.ref a]) d_34_0 (fun _ => rfl) ?_
  refine cr_oi d_34_1 cw_34 cm_5_3 rfl ?_
  refine cr_nx (pc' := 5) (al' := [some (.ref a)]) (st' := [.ref a]) d_34_4 (fun _ => rfl) ?_
  refine cr_nw d_34_5 cw_34 cl_5_9 (by decide) (show 2 ≤ S.1 + 0 by have := h2.1; omega) ?_
  rw [show am_N 10 = 2 by decide +kernel]
  show CR _ _ 8 [some (.ref a)] [.ref S.1, .ref a] (cs_pu S (100 + 10, 2)) (upr G S.1 (fun j => defaultValue (am_ty 10 j))) B J R _
  refine cr_nx (pc' := 9) (al' := [some (.ref a)]) (st' := [.ref S.1, .ref S.1, .ref a]) d_34_8 (fun _ => rfl) ?_
  refine cr_ci (r := [.ref S.1, .ref a]) (b := S.1) (as := []) (al0 := [some (.ref (S.1))]) d_34_9 cw_34 cm_5_11 (Or.inr rfl) cz_89 rfl rfl rfl (cr_wk (Nat.zero_le _) (k_tabInit ⟨(show cs_in (S.1 + 1) (S.1) from ⟨by have := h2.1; omega, by have := h2.2; omega, by omega⟩), cs_ps⟩ (show csR (S.1 + 1) 1 from ⟨by have := h2.1; omega, by have := h2.2; omega⟩))) (fun v1 S1 G1 B1 J1 R1 h1x => ?_)
  obtain ⟨q0_, q1_, q2_, q3_, q4_, q5_⟩ := h1x
  obtain rfl := q0_
  obtain rfl := q1_
  obtain rfl := q2_
  obtain rfl := q3_
  obtain rfl := q4_.symm
  obtain rfl := q5_.symm
  show CR _ _ 12 [some (.ref a)] [.ref S.1, .ref a] (cs_pu (cs_pu S (100 + 10, 2)) (0, 36)) (up2 (upr G S.1 (fun j => defaultValue (am_ty 10 j))) S.1 1 (.ref (S.1 + 1))) (upr B (S.1 + 1) (fun _ => 0)) J R _
  refine cp_5_0  d_34_12 cw_34 cf_5_12 (cs_g (cs_g ha)).1 (cs_g (cs_g ha)).2 (by decide) ?_
  refine cr_nx (pc' := 16) (al' := [some (.ref a)]) (st' := [.ref a]) d_34_15 (fun _ => rfl) ?_
  refine cr_nw d_34_16 cw_34 cl_5_18 (by decide) (show 2 ≤ S.1 + 2 by have := h2.1; omega) ?_
  rw [show am_N 0 = 7 by decide +kernel]
  show CR _ _ 19 [some (.ref a)] [.ref (S.1 + 2), .ref a] (cs_pu (cs_pu (cs_pu S (100 + 10, 2)) (0, 36)) (100 + 0, 7)) (upr (up2 (up2 (upr G S.1 (fun j => defaultValue (am_ty 10 j))) S.1 1 (.ref (S.1 + 1))) a 0 (.ref S.1)) (S.1 + 2) (fun j => defaultValue (am_ty 0 j))) (upr B (S.1 + 1) (fun _ => 0)) J R _
  refine cr_nx (pc' := 20) (al' := [some (.ref a)]) (st' := [.ref (S.1 + 2), .ref (S.1 + 2), .ref a]) d_34_19 (fun _ => rfl) ?_
  refine cr_ci (r := [.ref (S.1 + 2), .ref a]) (b := (S.1 + 2)) (as := []) (al0 := [some (.ref (S.1 + 2))]) d_34_20 cw_34 cm_5_20 (Or.inr rfl) cz_0 rfl rfl rfl (cr_wk (Nat.zero_le _) (k_ckInit ⟨(show cs_in (S.1 + 3) (S.1 + 2) from ⟨by have := h2.1; omega, by have := h2.2; omega, by omega⟩), cs_ps⟩ (show csR (S.1 + 3) 5 from ⟨by have := h2.1; omega, by have := h2.2; omega⟩))) (fun v1 S1 G1 B1 J1 R1 h1x => ?_)
  obtain ⟨q0_, q1_, q2_, q3_, q4_, q5_⟩ := h1x
  obtain rfl := q0_
  obtain rfl := q1_
  obtain rfl := q2_
  obtain rfl := q3_
  obtain rfl := q4_.symm
  obtain rfl := q5_.symm
  show CR _ _ 23 [some (.ref a)] [.ref (S.1 + 2), .ref a] (cs_pu (cs_pu (cs_pu (cs_pu (cs_pu (cs_pu (cs_pu (cs_pu S (100 + 10, 2)) (0, 36)) (100 + 0, 7)) (0, 36)) (0, 36)) (0, 36)) (0, 4)) (0, 33)) (up2 (up2 (up2 (up2 (up2 (upr (up2 (up2 (upr G S.1 (fun j => defaultValue (am_ty 10 j))) S.1 1 (.ref (S.1 + 1))) a 0 (.ref S.1)) (S.1 + 2) (fun j => defaultValue (am_ty 0 j))) (S.1 + 2) 1 (.ref (S.1 + 3))) (S.1 + 2) 3 (.ref (S.1 + 4))) (S.1 + 2) 4 (.ref (S.1 + 5))) (S.1 + 2) 5 (.ref (S.1 + 6))) (S.1 + 2) 6 (.ref (S.1 + 7))) (upr (upr (upr (upr (upr (upr B (S.1 + 1) (fun _ => 0)) (S.1 + 3) (fun _ => 0)) (S.1 + 4) (fun _ => 0)) (S.1 + 5) (fun _ => 0)) (S.1 + 6) (fun _ => 0)) (S.1 + 7) (fun _ => 0)) J R _
  refine cp_5_2  d_34_23 cw_34 cf_5_21 (cs_g (cs_g (cs_g (cs_g (cs_g (cs_g (cs_g (cs_g ha)))))))).1 (cs_g (cs_g (cs_g (cs_g (cs_g (cs_g (cs_g (cs_g ha)))))))).2 (by decide) ?_
  refine cr_nx (pc' := 27) (al' := [some (.ref a)]) (st' := [.ref a]) d_34_26 (fun _ => rfl) ?_
  refine cn_bp (v := 6) d_34_27 (by decide) ?_
  refine cr_na d_34_29 (by decide) (show 2 ≤ S.1 + 8 by have := h2.1; omega) ?_
  show CR _ _ 31 [some (.ref a)] [.ref (S.1 + 8), .ref a] (cs_pu (cs_pu (cs_pu (cs_pu (cs_pu (cs_pu (cs_pu (cs_pu (cs_pu S (100 + 10, 2)) (0, 36)) (100 + 0, 7)) (0, 36)) (0, 36)) (0, 36)) (0, 4)) (0, 33)) (0, 6)) (up2 (up2 (up2 (up2 (up2 (up2 (upr (up2 (up2 (upr G S.1 (fun j => defaultValue (am_ty 10 j))) S.1 1 (.ref (S.1 + 1))) a 0 (.ref S.1)) (S.1 + 2) (fun j => defaultValue (am_ty 0 j))) (S.1 + 2) 1 (.ref (S.1 + 3))) (S.1 + 2) 3 (.ref (S.1 + 4))) (S.1 + 2) 4 (.ref (S.1 + 5))) (S.1 + 2) 5 (.ref (S.1 + 6))) (S.1 + 2) 6 (.ref (S.1 + 7))) a 2 (.ref (S.1 + 2))) (upr (upr (upr (upr (upr (upr (upr B (S.1 + 1) (fun _ => 0)) (S.1 + 3) (fun _ => 0)) (S.1 + 4) (fun _ => 0)) (S.1 + 5) (fun _ => 0)) (S.1 + 6) (fun _ => 0)) (S.1 + 7) (fun _ => 0)) (S.1 + 8) (fun _ => 0)) J R _
  refine cp_5_3  d_34_31 cw_34 cf_5_25 (cs_g (cs_g (cs_g (cs_g (cs_g (cs_g (cs_g (cs_g (cs_g ha))))))))).1 (cs_g (cs_g (cs_g (cs_g (cs_g (cs_g (cs_g (cs_g (cs_g ha))))))))).2 (by decide) ?_
  refine cr_nx (pc' := 35) (al' := [some (.ref a)]) (st' := [.ref a]) d_34_34 (fun _ => rfl) ?_
  refine cn_ic (v := 0) d_34_35 (by decide) ?_
  refine cr_nq d_34_36 cw_34 cl_5_29 (by decide) (by decide) (show 2 ≤ S.1 + 9 by have := h2.1; omega) ?_
  show CR _ _ 39 [some (.ref a)] [.ref (S.1 + 9), .ref a] (cs_pu (cs_pu (cs_pu (cs_pu (cs_pu (cs_pu (cs_pu (cs_pu (cs_pu (cs_pu S (100 + 10, 2)) (0, 36)) (100 + 0, 7)) (0, 36)) (0, 36)) (0, 36)) (0, 4)) (0, 33)) (0, 6)) (4 + 3, 0)) (up2 (up2 (up2 (up2 (up2 (up2 (up2 (upr (up2 (up2 (upr G S.1 (fun j => defaultValue (am_ty 10 j))) S.1 1 (.ref (S.1 + 1))) a 0 (.ref S.1)) (S.1 + 2) (fun j => defaultValue (am_ty 0 j))) (S.1 + 2) 1 (.ref (S.1 + 3))) (S.1 + 2) 3 (.ref (S.1 + 4))) (S.1 + 2) 4 (.ref (S.1 + 5))) (S.1 + 2) 5 (.ref (S.1 + 6))) (S.1 + 2) 6 (.ref (S.1 + 7))) a 2 (.ref (S.1 + 2))) a 3 (.ref (S.1 + 8))) (upr (upr (upr (upr (upr (upr (upr B (S.1 + 1) (fun _ => 0)) (S.1 + 3) (fun _ => 0)) (S.1 + 4) (fun _ => 0)) (S.1 + 5) (fun _ => 0)) (S.1 + 6) (fun _ => 0)) (S.1 + 7) (fun _ => 0)) (S.1 + 8) (fun _ => 0)) J (upr R (S.1 + 9) (fun _ => none)) _
  refine cp_5_4  d_34_39 cw_34 cf_5_31 (cs_g (cs_g (cs_g (cs_g (cs_g (cs_g (cs_g (cs_g (cs_g (cs_g ha)))))))))).1 (cs_g (cs_g (cs_g (cs_g (cs_g (cs_g (cs_g (cs_g (cs_g (cs_g ha)))))))))).2 (by decide) ?_
  exact cr_rv d_34_42 cx_34 ⟨rfl, rfl, rfl, rfl, rfl, rfl⟩
theorem in_39 : (am_y 39).name = "<init>" := by decide +kernel
theorem cp_6_0 {k pc o x n a : Nat} {al : AL} {r : List Value} {S : CS} {G : Nat → Nat → Value} {B : Nat → Nat → Int32} {J : Nat → Nat → Int64} {R : Nat → Nat → Option Nat} {Q : CQ} {v : Nat} (hd : decode (am_b 39) pc = .ok (.putfield x, 3)) (ho : am_o 39 = o) (hl : am_fl o x = some (6, 0)) (ha : cs_in S.1 a) (hs : S.2 a = (100 + 6, n)) (hj : 0 < n) (kk : CR k 39 (pc + 3) al r S (up2 G a 0 (.ref v)) B J R Q) : CR k 39 pc al (.ref v :: .ref a :: r) S G B J R Q := cr_pf hd ho hl ha hs hj rfl rfl (Or.inr ⟨in_39, ho.symm.trans cw_39⟩) kk
theorem cp_6_2 {k pc o x n a : Nat} {al : AL} {r : List Value} {S : CS} {G : Nat → Nat → Value} {B : Nat → Nat → Int32} {J : Nat → Nat → Int64} {R : Nat → Nat → Option Nat} {Q : CQ} {v : Nat} (hd : decode (am_b 39) pc = .ok (.putfield x, 3)) (ho : am_o 39 = o) (hl : am_fl o x = some (6, 2)) (ha : cs_in S.1 a) (hs : S.2 a = (100 + 6, n)) (hj : 2 < n) (kk : CR k 39 (pc + 3) al r S (up2 G a 2 (.ref v)) B J R Q) : CR k 39 pc al (.ref v :: .ref a :: r) S G B J R Q := cr_pf hd ho hl ha hs hj rfl rfl (Or.inr ⟨in_39, ho.symm.trans cw_39⟩) kk
theorem cp_6_3 {k pc o x n a : Nat} {al : AL} {r : List Value} {S : CS} {G : Nat → Nat → Value} {B : Nat → Nat → Int32} {J : Nat → Nat → Int64} {R : Nat → Nat → Option Nat} {Q : CQ} {v : Nat} (hd : decode (am_b 39) pc = .ok (.putfield x, 3)) (ho : am_o 39 = o) (hl : am_fl o x = some (6, 3)) (ha : cs_in S.1 a) (hs : S.2 a = (100 + 6, n)) (hj : 3 < n) (kk : CR k 39 (pc + 3) al r S (up2 G a 3 (.ref v)) B J R Q) : CR k 39 pc al (.ref v :: .ref a :: r) S G B J R Q := cr_pf hd ho hl ha hs hj rfl rfl (Or.inr ⟨in_39, ho.symm.trans cw_39⟩) kk
theorem cp_6_4 {k pc o x n a : Nat} {al : AL} {r : List Value} {S : CS} {G : Nat → Nat → Value} {B : Nat → Nat → Int32} {J : Nat → Nat → Int64} {R : Nat → Nat → Option Nat} {Q : CQ} {v : Nat} (hd : decode (am_b 39) pc = .ok (.putfield x, 3)) (ho : am_o 39 = o) (hl : am_fl o x = some (6, 4)) (ha : cs_in S.1 a) (hs : S.2 a = (100 + 6, n)) (hj : 4 < n) (kk : CR k 39 (pc + 3) al r S (up2 G a 4 (.ref v)) B J R Q) : CR k 39 pc al (.ref v :: .ref a :: r) S G B J R Q := cr_pf hd ho hl ha hs hj rfl rfl (Or.inr ⟨in_39, ho.symm.trans cw_39⟩) kk
theorem cp_6_5 {k pc o x n a : Nat} {al : AL} {r : List Value} {S : CS} {G : Nat → Nat → Value} {B : Nat → Nat → Int32} {J : Nat → Nat → Int64} {R : Nat → Nat → Option Nat} {Q : CQ} {v : Nat} (hd : decode (am_b 39) pc = .ok (.putfield x, 3)) (ho : am_o 39 = o) (hl : am_fl o x = some (6, 5)) (ha : cs_in S.1 a) (hs : S.2 a = (100 + 6, n)) (hj : 5 < n) (kk : CR k 39 (pc + 3) al r S (up2 G a 5 (.ref v)) B J R Q) : CR k 39 pc al (.ref v :: .ref a :: r) S G B J R Q := cr_pf hd ho hl ha hs hj rfl rfl (Or.inr ⟨in_39, ho.symm.trans cw_39⟩) kk
theorem cp_6_6 {k pc o x n a : Nat} {al : AL} {r : List Value} {S : CS} {G : Nat → Nat → Value} {B : Nat → Nat → Int32} {J : Nat → Nat → Int64} {R : Nat → Nat → Option Nat} {Q : CQ} {v : Nat} (hd : decode (am_b 39) pc = .ok (.putfield x, 3)) (ho : am_o 39 = o) (hl : am_fl o x = some (6, 6)) (ha : cs_in S.1 a) (hs : S.2 a = (100 + 6, n)) (hj : 6 < n) (kk : CR k 39 (pc + 3) al r S (up2 G a 6 (.ref v)) B J R Q) : CR k 39 pc al (.ref v :: .ref a :: r) S G B J R Q := cr_pf hd ho hl ha hs hj rfl rfl (Or.inr ⟨in_39, ho.symm.trans cw_39⟩) kk
theorem cl_6_9 : am_cl 6 9 = some 10 := by decide +kernel
theorem k_naInit {S : CS} {G : Nat → Nat → Value} {B : Nat → Nat → Int32} {J : Nat → Nat → Int64} {R : Nat → Nat → Option Nat} {a : Nat} (ha : cs_in S.1 a ∧ S.2 a = (100 + 6, 7)) (h2 : csR S.1 10) : CR 1 39 0 [some (.ref a)] [] S G B J R (cP none (cs_pu (cs_pu (cs_pu (cs_pu (cs_pu (cs_pu (cs_pu (cs_pu (cs_pu (cs_pu S (100 + 10, 2)) (0, 36)) (100 + 10, 2)) (0, 36)) (100 + 10, 2)) (0, 36)) (100 + 10, 2)) (0, 36)) (0, 6)) (0, 6)) (up2 (up2 (up2 (up2 (upr (up2 (up2 (upr (up2 (up2 (upr (up2 (up2 (up2 (upr G S.1 (fun j => defaultValue (am_ty 10 j))) S.1 1 (.ref (S.1 + 1))) a 0 (.ref S.1)) a 1 (.int (-1))) (S.1 + 2) (fun j => defaultValue (am_ty 10 j))) (S.1 + 2) 1 (.ref (S.1 + 3))) a 2 (.ref (S.1 + 2))) (S.1 + 4) (fun j => defaultValue (am_ty 10 j))) (S.1 + 4) 1 (.ref (S.1 + 5))) a 3 (.ref (S.1 + 4))) (S.1 + 6) (fun j => defaultValue (am_ty 10 j))) (S.1 + 6) 1 (.ref (S.1 + 7))) a 4 (.ref (S.1 + 6))) a 5 (.ref (S.1 + 8))) a 6 (.ref (S.1 + 9))) (upr (upr (upr (upr (upr (upr B (S.1 + 1) (fun _ => 0)) (S.1 + 3) (fun _ => 0)) (S.1 + 5) (fun _ => 0)) (S.1 + 7) (fun _ => 0)) (S.1 + 8) (fun _ => 0)) (S.1 + 9) (fun _ => 0)) J R) := by
  refine cr_nx (pc' := 1) (al' := [some (.ref a)]) (st' := [.ref a]) d_39_0 (fun _ => rfl) ?_
  refine cr_oi d_39_1 cw_39 cm_6_3 rfl ?_
  refine cr_nx (pc' := 5) (al' := [some (.ref a)]) (st' := [.ref a]) d_39_4 (fun _ => rfl) ?_
  refine cr_nw d_39_5 cw_39 cl_6_9 (by decide) (show 2 ≤ S.1 + 0 by have := h2.1; omega) ?_
  rw [show am_N 10 = 2 by decide +kernel]
  show CR _ _ 8 [some (.ref a)] [.ref S.1, .ref a] (cs_pu S (100 + 10, 2)) (upr G S.1 (fun j => defaultValue (am_ty 10 j))) B J R _
  refine cr_nx (pc' := 9) (al' := [some (.ref a)]) (st' := [.ref S.1, .ref S.1, .ref a]) d_39_8 (fun _ => rfl) ?_
  refine cr_ci (r := [.ref S.1, .ref a]) (b := S.1) (as := []) (al0 := [some (.ref (S.1))]) d_39_9 cw_39 cm_6_11 (Or.inr rfl) cz_89 rfl rfl rfl (cr_wk (Nat.zero_le _) (k_tabInit ⟨(show cs_in (S.1 + 1) (S.1) from ⟨by have := h2.1; omega, by have := h2.2; omega, by omega⟩), cs_ps⟩ (show csR (S.1 + 1) 1 from ⟨by have := h2.1; omega, by have := h2.2; omega⟩))) (fun v1 S1 G1 B1 J1 R1 h1x => ?_)
  obtain ⟨q0_, q1_, q2_, q3_, q4_, q5_⟩ := h1x
  obtain rfl := q0_
  obtain rfl := q1_
  obtain rfl := q2_
  obtain rfl := q3_
  obtain rfl := q4_.symm
  obtain rfl := q5_.symm
  show CR _ _ 12 [some (.ref a)] [.ref S.1, .ref a] (cs_pu (cs_pu S (100 + 10, 2)) (0, 36)) (up2 (upr G S.1 (fun j => defaultValue (am_ty 10 j))) S.1 1 (.ref (S.1 + 1))) (upr B (S.1 + 1) (fun _ => 0)) J R _
  refine cp_6_0  d_39_12 cw_39 cf_6_12 (cs_g (cs_g ha)).1 (cs_g (cs_g ha)).2 (by decide) ?_
  refine cr_nx (pc' := 16) (al' := [some (.ref a)]) (st' := [.ref a]) d_39_15 (fun _ => rfl) ?_
  refine cr_nx (pc' := 17) (al' := [some (.ref a)]) (st' := [.int (-1), .ref a]) d_39_16 (fun _ => rfl) ?_
  refine cp_6_1  d_39_17 cw_39 cf_6_18 (cs_g (cs_g ha)).1 (cs_g (cs_g ha)).2 (by decide) ?_
  refine cr_nx (pc' := 21) (al' := [some (.ref a)]) (st' := [.ref a]) d_39_20 (fun _ => rfl) ?_
  refine cr_nw d_39_21 cw_39 cl_6_9 (by decide) (show 2 ≤ S.1 + 2 by have := h2.1; omega) ?_
  rw [show am_N 10 = 2 by decide +kernel]
  show CR _ _ 24 [some (.ref a)] [.ref (S.1 + 2), .ref a] (cs_pu (cs_pu (cs_pu S (100 + 10, 2)) (0, 36)) (100 + 10, 2)) (upr (up2 (up2 (up2 (upr G S.1 (fun j => defaultValue (am_ty 10 j))) S.1 1 (.ref (S.1 + 1))) a 0 (.ref S.1)) a 1 (.int (-1))) (S.1 + 2) (fun j => defaultValue (am_ty 10 j))) (upr B (S.1 + 1) (fun _ => 0)) J R _
  refine cr_nx (pc' := 25) (al' := [some (.ref a)]) (st' := [.ref (S.1 + 2), .ref (S.1 + 2), .ref a]) d_39_24 (fun _ => rfl) ?_
  refine cr_ci (r := [.ref (S.1 + 2), .ref a]) (b := (S.1 + 2)) (as := []) (al0 := [some (.ref (S.1 + 2))]) d_39_25 cw_39 cm_6_11 (Or.inr rfl) cz_89 rfl rfl rfl (cr_wk (Nat.zero_le _) (k_tabInit ⟨(show cs_in (S.1 + 3) (S.1 + 2) from ⟨by have := h2.1; omega, by have := h2.2; omega, by omega⟩), cs_ps⟩ (show csR (S.1 + 3) 1 from ⟨by have := h2.1; omega, by have := h2.2; omega⟩))) (fun v1 S1 G1 B1 J1 R1 h1x => ?_)
  obtain ⟨q0_, q1_, q2_, q3_, q4_, q5_⟩ := h1x
  obtain rfl := q0_
  obtain rfl := q1_
  obtain rfl := q2_
  obtain rfl := q3_
  obtain rfl := q4_.symm
  obtain rfl := q5_.symm
  show CR _ _ 28 [some (.ref a)] [.ref (S.1 + 2), .ref a] (cs_pu (cs_pu (cs_pu (cs_pu S (100 + 10, 2)) (0, 36)) (100 + 10, 2)) (0, 36)) (up2 (upr (up2 (up2 (up2 (upr G S.1 (fun j => defaultValue (am_ty 10 j))) S.1 1 (.ref (S.1 + 1))) a 0 (.ref S.1)) a 1 (.int (-1))) (S.1 + 2) (fun j => defaultValue (am_ty 10 j))) (S.1 + 2) 1 (.ref (S.1 + 3))) (upr (upr B (S.1 + 1) (fun _ => 0)) (S.1 + 3) (fun _ => 0)) J R _
  refine cp_6_2  d_39_28 cw_39 cf_6_22 (cs_g (cs_g (cs_g (cs_g ha)))).1 (cs_g (cs_g (cs_g (cs_g ha)))).2 (by decide) ?_
  refine cr_nx (pc' := 32) (al' := [some (.ref a)]) (st' := [.ref a]) d_39_31 (fun _ => rfl) ?_
  refine cr_nw d_39_32 cw_39 cl_6_9 (by decide) (show 2 ≤ S.1 + 4 by have := h2.1; omega) ?_
  rw [show am_N 10 = 2 by decide +kernel]
  show CR _ _ 35 [some (.ref a)] [.ref (S.1 + 4), .ref a] (cs_pu (cs_pu (cs_pu (cs_pu (cs_pu S (100 + 10, 2)) (0, 36)) (100 + 10, 2)) (0, 36)) (100 + 10, 2)) (upr (up2 (up2 (upr (up2 (up2 (up2 (upr G S.1 (fun j => defaultValue (am_ty 10 j))) S.1 1 (.ref (S.1 + 1))) a 0 (.ref S.1)) a 1 (.int (-1))) (S.1 + 2) (fun j => defaultValue (am_ty 10 j))) (S.1 + 2) 1 (.ref (S.1 + 3))) a 2 (.ref (S.1 + 2))) (S.1 + 4) (fun j => defaultValue (am_ty 10 j))) (upr (upr B (S.1 + 1) (fun _ => 0)) (S.1 + 3) (fun _ => 0)) J R _
  refine cr_nx (pc' := 36) (al' := [some (.ref a)]) (st' := [.ref (S.1 + 4), .ref (S.1 + 4), .ref a]) d_39_35 (fun _ => rfl) ?_
  refine cr_ci (r := [.ref (S.1 + 4), .ref a]) (b := (S.1 + 4)) (as := []) (al0 := [some (.ref (S.1 + 4))]) d_39_36 cw_39 cm_6_11 (Or.inr rfl) cz_89 rfl rfl rfl (cr_wk (Nat.zero_le _) (k_tabInit ⟨(show cs_in (S.1 + 5) (S.1 + 4) from ⟨by have := h2.1; omega, by have := h2.2; omega, by omega⟩), cs_ps⟩ (show csR (S.1 + 5) 1 from ⟨by have := h2.1; omega, by have := h2.2; omega⟩))) (fun v1 S1 G1 B1 J1 R1 h1x => ?_)
  obtain ⟨q0_, q1_, q2_, q3_, q4_, q5_⟩ := h1x
  obtain rfl := q0_
  obtain rfl := q1_
  obtain rfl := q2_
  obtain rfl := q3_
  obtain rfl := q4_.symm
  obtain rfl := q5_.symm
  show CR _ _ 39 [some (.ref a)] [.ref (S.1 + 4), .ref a] (cs_pu (cs_pu (cs_pu (cs_pu (cs_pu (cs_pu S (100 + 10, 2)) (0, 36)) (100 + 10, 2)) (0, 36)) (100 + 10, 2)) (0, 36)) (up2 (upr (up2 (up2 (upr (up2 (up2 (up2 (upr G S.1 (fun j => defaultValue (am_ty 10 j))) S.1 1 (.ref (S.1 + 1))) a 0 (.ref S.1)) a 1 (.int (-1))) (S.1 + 2) (fun j => defaultValue (am_ty 10 j))) (S.1 + 2) 1 (.ref (S.1 + 3))) a 2 (.ref (S.1 + 2))) (S.1 + 4) (fun j => defaultValue (am_ty 10 j))) (S.1 + 4) 1 (.ref (S.1 + 5))) (upr (upr (upr B (S.1 + 1) (fun _ => 0)) (S.1 + 3) (fun _ => 0)) (S.1 + 5) (fun _ => 0)) J R _
  refine cp_6_3  d_39_39 cw_39 cf_6_25 (cs_g (cs_g (cs_g (cs_g (cs_g (cs_g ha)))))).1 (cs_g (cs_g (cs_g (cs_g (cs_g (cs_g ha)))))).2 (by decide) ?_
  refine cr_nx (pc' := 43) (al' := [some (.ref a)]) (st' := [.ref a]) d_39_42 (fun _ => rfl) ?_
  refine cr_nw d_39_43 cw_39 cl_6_9 (by decide) (show 2 ≤ S.1 + 6 by have := h2.1; omega) ?_
  rw [show am_N 10 = 2 by decide +kernel]
  show CR _ _ 46 [some (.ref a)] [.ref (S.1 + 6), .ref a] (cs_pu (cs_pu (cs_pu (cs_pu (cs_pu (cs_pu (cs_pu S (100 + 10, 2)) (0, 36)) (100 + 10, 2)) (0, 36)) (100 + 10, 2)) (0, 36)) (100 + 10, 2)) (upr (up2 (up2 (upr (up2 (up2 (upr (up2 (up2 (up2 (upr G S.1 (fun j => defaultValue (am_ty 10 j))) S.1 1 (.ref (S.1 + 1))) a 0 (.ref S.1)) a 1 (.int (-1))) (S.1 + 2) (fun j => defaultValue (am_ty 10 j))) (S.1 + 2) 1 (.ref (S.1 + 3))) a 2 (.ref (S.1 + 2))) (S.1 + 4) (fun j => defaultValue (am_ty 10 j))) (S.1 + 4) 1 (.ref (S.1 + 5))) a 3 (.ref (S.1 + 4))) (S.1 + 6) (fun j => defaultValue (am_ty 10 j))) (upr (upr (upr B (S.1 + 1) (fun _ => 0)) (S.1 + 3) (fun _ => 0)) (S.1 + 5) (fun _ => 0)) J R _
  refine cr_nx (pc' := 47) (al' := [some (.ref a)]) (st' := [.ref (S.1 + 6), .ref (S.1 + 6), .ref a]) d_39_46 (fun _ => rfl) ?_
  refine cr_ci (r := [.ref (S.1 + 6), .ref a]) (b := (S.1 + 6)) (as := []) (al0 := [some (.ref (S.1 + 6))]) d_39_47 cw_39 cm_6_11 (Or.inr rfl) cz_89 rfl rfl rfl (cr_wk (Nat.zero_le _) (k_tabInit ⟨(show cs_in (S.1 + 7) (S.1 + 6) from ⟨by have := h2.1; omega, by have := h2.2; omega, by omega⟩), cs_ps⟩ (show csR (S.1 + 7) 1 from ⟨by have := h2.1; omega, by have := h2.2; omega⟩))) (fun v1 S1 G1 B1 J1 R1 h1x => ?_)
  obtain ⟨q0_, q1_, q2_, q3_, q4_, q5_⟩ := h1x
  obtain rfl := q0_
  obtain rfl := q1_
  obtain rfl := q2_
  obtain rfl := q3_
  obtain rfl := q4_.symm
  obtain rfl := q5_.symm
  show CR _ _ 50 [some (.ref a)] [.ref (S.1 + 6), .ref a] (cs_pu (cs_pu (cs_pu (cs_pu (cs_pu (cs_pu (cs_pu (cs_pu S (100 + 10, 2)) (0, 36)) (100 + 10, 2)) (0, 36)) (100 + 10, 2)) (0, 36)) (100 + 10, 2)) (0, 36)) (up2 (upr (up2 (up2 (upr (up2 (up2 (upr (up2 (up2 (up2 (upr G S.1 (fun j => defaultValue (am_ty 10 j))) S.1 1 (.ref (S.1 + 1))) a 0 (.ref S.1)) a 1 (.int (-1))) (S.1 + 2) (fun j => defaultValue (am_ty 10 j))) (S.1 + 2) 1 (.ref (S.1 + 3))) a 2 (.ref (S.1 + 2))) (S.1 + 4) (fun j => defaultValue (am_ty 10 j))) (S.1 + 4) 1 (.ref (S.1 + 5))) a 3 (.ref (S.1 + 4))) (S.1 + 6) (fun j => defaultValue (am_ty 10 j))) (S.1 + 6) 1 (.ref (S.1 + 7))) (upr (upr (upr (upr B (S.1 + 1) (fun _ => 0)) (S.1 + 3) (fun _ => 0)) (S.1 + 5) (fun _ => 0)) (S.1 + 7) (fun _ => 0)) J R _
  refine cp_6_4  d_39_50 cw_39 cf_6_28 (cs_g (cs_g (cs_g (cs_g (cs_g (cs_g (cs_g (cs_g ha)))))))).1 (cs_g (cs_g (cs_g (cs_g (cs_g (cs_g (cs_g (cs_g ha)))))))).2 (by decide) ?_
  refine cr_nx (pc' := 54) (al' := [some (.ref a)]) (st' := [.ref a]) d_39_53 (fun _ => rfl) ?_
  refine cn_bp (v := 6) d_39_54 (by decide) ?_
  refine cr_na d_39_56 (by decide) (show 2 ≤ S.1 + 8 by have := h2.1; omega) ?_
  show CR _ _ 58 [some (.ref a)] [.ref (S.1 + 8), .ref a] (cs_pu (cs_pu (cs_pu (cs_pu (cs_pu (cs_pu (cs_pu (cs_pu (cs_pu S (100 + 10, 2)) (0, 36)) (100 + 10, 2)) (0, 36)) (100 + 10, 2)) (0, 36)) (100 + 10, 2)) (0, 36)) (0, 6)) (up2 (up2 (upr (up2 (up2 (upr (up2 (up2 (upr (up2 (up2 (up2 (upr G S.1 (fun j => defaultValue (am_ty 10 j))) S.1 1 (.ref (S.1 + 1))) a 0 (.ref S.1)) a 1 (.int (-1))) (S.1 + 2) (fun j => defaultValue (am_ty 10 j))) (S.1 + 2) 1 (.ref (S.1 + 3))) a 2 (.ref (S.1 + 2))) (S.1 + 4) (fun j => defaultValue (am_ty 10 j))) (S.1 + 4) 1 (.ref (S.1 + 5))) a 3 (.ref (S.1 + 4))) (S.1 + 6) (fun j => defaultValue (am_ty 10 j))) (S.1 + 6) 1 (.ref (S.1 + 7))) a 4 (.ref (S.1 + 6))) (upr (upr (upr (upr (upr B (S.1 + 1) (fun _ => 0)) (S.1 + 3) (fun _ => 0)) (S.1 + 5) (fun _ => 0)) (S.1 + 7) (fun _ => 0)) (S.1 + 8) (fun _ => 0)) J R _
  refine cp_6_5  d_39_58 cw_39 cf_6_31 (cs_g (cs_g (cs_g (cs_g (cs_g (cs_g (cs_g (cs_g (cs_g ha))))))))).1 (cs_g (cs_g (cs_g (cs_g (cs_g (cs_g (cs_g (cs_g (cs_g ha))))))))).2 (by decide) ?_
  refine cr_nx (pc' := 62) (al' := [some (.ref a)]) (st' := [.ref a]) d_39_61 (fun _ => rfl) ?_
  refine cn_bp (v := 6) d_39_62 (by decide) ?_
  refine cr_na d_39_64 (by decide) (show 2 ≤ S.1 + 9 by have := h2.1; omega) ?_
  show CR _ _ 66 [some (.ref a)] [.ref (S.1 + 9), .ref a] (cs_pu (cs_pu (cs_pu (cs_pu (cs_pu (cs_pu (cs_pu (cs_pu (cs_pu (cs_pu S (100 + 10, 2)) (0, 36)) (100 + 10, 2)) (0, 36)) (100 + 10, 2)) (0, 36)) (100 + 10, 2)) (0, 36)) (0, 6)) (0, 6)) (up2 (up2 (up2 (upr (up2 (up2 (upr (up2 (up2 (upr (up2 (up2 (up2 (upr G S.1 (fun j => defaultValue (am_ty 10 j))) S.1 1 (.ref (S.1 + 1))) a 0 (.ref S.1)) a 1 (.int (-1))) (S.1 + 2) (fun j => defaultValue (am_ty 10 j))) (S.1 + 2) 1 (.ref (S.1 + 3))) a 2 (.ref (S.1 + 2))) (S.1 + 4) (fun j => defaultValue (am_ty 10 j))) (S.1 + 4) 1 (.ref (S.1 + 5))) a 3 (.ref (S.1 + 4))) (S.1 + 6) (fun j => defaultValue (am_ty 10 j))) (S.1 + 6) 1 (.ref (S.1 + 7))) a 4 (.ref (S.1 + 6))) a 5 (.ref (S.1 + 8))) (upr (upr (upr (upr (upr (upr B (S.1 + 1) (fun _ => 0)) (S.1 + 3) (fun _ => 0)) (S.1 + 5) (fun _ => 0)) (S.1 + 7) (fun _ => 0)) (S.1 + 8) (fun _ => 0)) (S.1 + 9) (fun _ => 0)) J R _
  refine cp_6_6  d_39_66 cw_39 cf_6_35 (cs_g (cs_g (cs_g (cs_g (cs_g (cs_g (cs_g (cs_g (cs_g (cs_g ha)))))))))).1 (cs_g (cs_g (cs_g (cs_g (cs_g (cs_g (cs_g (cs_g (cs_g (cs_g ha)))))))))).2 (by decide) ?_
  exact cr_rv d_39_69 cx_39 ⟨rfl, rfl, rfl, rfl, rfl, rfl⟩
theorem in_66 : (am_y 66).name = "<init>" := by decide +kernel
theorem cp_8_2 {k pc o x n a : Nat} {al : AL} {r : List Value} {S : CS} {G : Nat → Nat → Value} {B : Nat → Nat → Int32} {J : Nat → Nat → Int64} {R : Nat → Nat → Option Nat} {Q : CQ} {v : Nat} (hd : decode (am_b 66) pc = .ok (.putfield x, 3)) (ho : am_o 66 = o) (hl : am_fl o x = some (8, 2)) (ha : cs_in S.1 a) (hs : S.2 a = (100 + 8, n)) (hj : 2 < n) (kk : CR k 66 (pc + 3) al r S (up2 G a 2 (.ref v)) B J R Q) : CR k 66 pc al (.ref v :: .ref a :: r) S G B J R Q := cr_pf hd ho hl ha hs hj rfl rfl (Or.inr ⟨in_66, ho.symm.trans cw_66⟩) kk
theorem cp_8_3 {k pc o x n a : Nat} {al : AL} {r : List Value} {S : CS} {G : Nat → Nat → Value} {B : Nat → Nat → Int32} {J : Nat → Nat → Int64} {R : Nat → Nat → Option Nat} {Q : CQ} {v : Nat} (hd : decode (am_b 66) pc = .ok (.putfield x, 3)) (ho : am_o 66 = o) (hl : am_fl o x = some (8, 3)) (ha : cs_in S.1 a) (hs : S.2 a = (100 + 8, n)) (hj : 3 < n) (kk : CR k 66 (pc + 3) al r S (up2 G a 3 (.ref v)) B J R Q) : CR k 66 pc al (.ref v :: .ref a :: r) S G B J R Q := cr_pf hd ho hl ha hs hj rfl rfl (Or.inr ⟨in_66, ho.symm.trans cw_66⟩) kk
theorem cp_8_4 {k pc o x n a : Nat} {al : AL} {r : List Value} {S : CS} {G : Nat → Nat → Value} {B : Nat → Nat → Int32} {J : Nat → Nat → Int64} {R : Nat → Nat → Option Nat} {Q : CQ} {v : Nat} (hd : decode (am_b 66) pc = .ok (.putfield x, 3)) (ho : am_o 66 = o) (hl : am_fl o x = some (8, 4)) (ha : cs_in S.1 a) (hs : S.2 a = (100 + 8, n)) (hj : 4 < n) (kk : CR k 66 (pc + 3) al r S (up2 G a 4 (.ref v)) B J R Q) : CR k 66 pc al (.ref v :: .ref a :: r) S G B J R Q := cr_pf hd ho hl ha hs hj rfl rfl (Or.inr ⟨in_66, ho.symm.trans cw_66⟩) kk
theorem cp_8_5 {k pc o x n a : Nat} {al : AL} {r : List Value} {S : CS} {G : Nat → Nat → Value} {B : Nat → Nat → Int32} {J : Nat → Nat → Int64} {R : Nat → Nat → Option Nat} {Q : CQ} {v : Nat} (hd : decode (am_b 66) pc = .ok (.putfield x, 3)) (ho : am_o 66 = o) (hl : am_fl o x = some (8, 5)) (ha : cs_in S.1 a) (hs : S.2 a = (100 + 8, n)) (hj : 5 < n) (kk : CR k 66 (pc + 3) al r S (up2 G a 5 (.ref v)) B J R Q) : CR k 66 pc al (.ref v :: .ref a :: r) S G B J R Q := cr_pf hd ho hl ha hs hj rfl rfl (Or.inr ⟨in_66, ho.symm.trans cw_66⟩) kk
theorem cp_8_6 {k pc o x n a : Nat} {al : AL} {r : List Value} {S : CS} {G : Nat → Nat → Value} {B : Nat → Nat → Int32} {J : Nat → Nat → Int64} {R : Nat → Nat → Option Nat} {Q : CQ} {v : Nat} (hd : decode (am_b 66) pc = .ok (.putfield x, 3)) (ho : am_o 66 = o) (hl : am_fl o x = some (8, 6)) (ha : cs_in S.1 a) (hs : S.2 a = (100 + 8, n)) (hj : 6 < n) (kk : CR k 66 (pc + 3) al r S (up2 G a 6 (.ref v)) B J R Q) : CR k 66 pc al (.ref v :: .ref a :: r) S G B J R Q := cr_pf hd ho hl ha hs hj rfl rfl (Or.inr ⟨in_66, ho.symm.trans cw_66⟩) kk
theorem cp_8_7 {k pc o x n a : Nat} {al : AL} {r : List Value} {S : CS} {G : Nat → Nat → Value} {B : Nat → Nat → Int32} {J : Nat → Nat → Int64} {R : Nat → Nat → Option Nat} {Q : CQ} {v : Nat} (hd : decode (am_b 66) pc = .ok (.putfield x, 3)) (ho : am_o 66 = o) (hl : am_fl o x = some (8, 7)) (ha : cs_in S.1 a) (hs : S.2 a = (100 + 8, n)) (hj : 7 < n) (kk : CR k 66 (pc + 3) al r S (up2 G a 7 (.ref v)) B J R Q) : CR k 66 pc al (.ref v :: .ref a :: r) S G B J R Q := cr_pf hd ho hl ha hs hj rfl rfl (Or.inr ⟨in_66, ho.symm.trans cw_66⟩) kk
theorem cl_8_9 : am_cl 8 9 = some 10 := by decide +kernel
theorem k_peInit {S : CS} {G : Nat → Nat → Value} {B : Nat → Nat → Int32} {J : Nat → Nat → Int64} {R : Nat → Nat → Option Nat} {a : Nat} (ha : cs_in S.1 a ∧ S.2 a = (100 + 8, 9)) (h2 : csR S.1 7) : CR 1 66 0 [some (.ref a)] [] S G B J R (cP none (cs_pu (cs_pu (cs_pu (cs_pu (cs_pu (cs_pu (cs_pu S (100 + 10, 2)) (0, 36)) (0, 6)) (0, 6)) (0, 6)) (0, 720)) (0, 720)) (up2 (up2 (up2 (up2 (up2 (up2 (up2 (upr G S.1 (fun j => defaultValue (am_ty 10 j))) S.1 1 (.ref (S.1 + 1))) a 2 (.ref S.1)) a 3 (.ref (S.1 + 2))) a 4 (.ref (S.1 + 3))) a 5 (.ref (S.1 + 4))) a 6 (.ref (S.1 + 5))) a 7 (.ref (S.1 + 6))) (upr (upr (upr (upr (upr (upr B (S.1 + 1) (fun _ => 0)) (S.1 + 2) (fun _ => 0)) (S.1 + 3) (fun _ => 0)) (S.1 + 4) (fun _ => 0)) (S.1 + 5) (fun _ => 0)) (S.1 + 6) (fun _ => 0)) J R) := by
  refine cr_nx (pc' := 1) (al' := [some (.ref a)]) (st' := [.ref a]) d_66_0 (fun _ => rfl) ?_
  refine cr_oi d_66_1 cw_66 cm_8_3 rfl ?_
  refine cr_nx (pc' := 5) (al' := [some (.ref a)]) (st' := [.ref a]) d_66_4 (fun _ => rfl) ?_
  refine cr_nw d_66_5 cw_66 cl_8_9 (by decide) (show 2 ≤ S.1 + 0 by have := h2.1; omega) ?_
  rw [show am_N 10 = 2 by decide +kernel]
  show CR _ _ 8 [some (.ref a)] [.ref S.1, .ref a] (cs_pu S (100 + 10, 2)) (upr G S.1 (fun j => defaultValue (am_ty 10 j))) B J R _
  refine cr_nx (pc' := 9) (al' := [some (.ref a)]) (st' := [.ref S.1, .ref S.1, .ref a]) d_66_8 (fun _ => rfl) ?_
  refine cr_ci (r := [.ref S.1, .ref a]) (b := S.1) (as := []) (al0 := [some (.ref (S.1))]) d_66_9 cw_66 cm_8_11 (Or.inr rfl) cz_89 rfl rfl rfl (cr_wk (Nat.zero_le _) (k_tabInit ⟨(show cs_in (S.1 + 1) (S.1) from ⟨by have := h2.1; omega, by have := h2.2; omega, by omega⟩), cs_ps⟩ (show csR (S.1 + 1) 1 from ⟨by have := h2.1; omega, by have := h2.2; omega⟩))) (fun v1 S1 G1 B1 J1 R1 h1x => ?_)
  obtain ⟨q0_, q1_, q2_, q3_, q4_, q5_⟩ := h1x
  obtain rfl := q0_
  obtain rfl := q1_
  obtain rfl := q2_
  obtain rfl := q3_
  obtain rfl := q4_.symm
  obtain rfl := q5_.symm
  show CR _ _ 12 [some (.ref a)] [.ref S.1, .ref a] (cs_pu (cs_pu S (100 + 10, 2)) (0, 36)) (up2 (upr G S.1 (fun j => defaultValue (am_ty 10 j))) S.1 1 (.ref (S.1 + 1))) (upr B (S.1 + 1) (fun _ => 0)) J R _
  refine cp_8_2  d_66_12 cw_66 cf_8_12 (cs_g (cs_g ha)).1 (cs_g (cs_g ha)).2 (by decide) ?_
  refine cr_nx (pc' := 16) (al' := [some (.ref a)]) (st' := [.ref a]) d_66_15 (fun _ => rfl) ?_
  refine cn_bp (v := 6) d_66_16 (by decide) ?_
  refine cr_na d_66_18 (by decide) (show 2 ≤ S.1 + 2 by have := h2.1; omega) ?_
  show CR _ _ 20 [some (.ref a)] [.ref (S.1 + 2), .ref a] (cs_pu (cs_pu (cs_pu S (100 + 10, 2)) (0, 36)) (0, 6)) (up2 (up2 (upr G S.1 (fun j => defaultValue (am_ty 10 j))) S.1 1 (.ref (S.1 + 1))) a 2 (.ref S.1)) (upr (upr B (S.1 + 1) (fun _ => 0)) (S.1 + 2) (fun _ => 0)) J R _
  refine cp_8_3  d_66_20 cw_66 cf_8_18 (cs_g (cs_g (cs_g ha))).1 (cs_g (cs_g (cs_g ha))).2 (by decide) ?_
  refine cr_nx (pc' := 24) (al' := [some (.ref a)]) (st' := [.ref a]) d_66_23 (fun _ => rfl) ?_
  refine cn_bp (v := 6) d_66_24 (by decide) ?_
  refine cr_na d_66_26 (by decide) (show 2 ≤ S.1 + 3 by have := h2.1; omega) ?_
  show CR _ _ 28 [some (.ref a)] [.ref (S.1 + 3), .ref a] (cs_pu (cs_pu (cs_pu (cs_pu S (100 + 10, 2)) (0, 36)) (0, 6)) (0, 6)) (up2 (up2 (up2 (upr G S.1 (fun j => defaultValue (am_ty 10 j))) S.1 1 (.ref (S.1 + 1))) a 2 (.ref S.1)) a 3 (.ref (S.1 + 2))) (upr (upr (upr B (S.1 + 1) (fun _ => 0)) (S.1 + 2) (fun _ => 0)) (S.1 + 3) (fun _ => 0)) J R _
  refine cp_8_4  d_66_28 cw_66 cf_8_22 (cs_g (cs_g (cs_g (cs_g ha)))).1 (cs_g (cs_g (cs_g (cs_g ha)))).2 (by decide) ?_
  refine cr_nx (pc' := 32) (al' := [some (.ref a)]) (st' := [.ref a]) d_66_31 (fun _ => rfl) ?_
  refine cn_bp (v := 6) d_66_32 (by decide) ?_
  refine cr_na d_66_34 (by decide) (show 2 ≤ S.1 + 4 by have := h2.1; omega) ?_
  show CR _ _ 36 [some (.ref a)] [.ref (S.1 + 4), .ref a] (cs_pu (cs_pu (cs_pu (cs_pu (cs_pu S (100 + 10, 2)) (0, 36)) (0, 6)) (0, 6)) (0, 6)) (up2 (up2 (up2 (up2 (upr G S.1 (fun j => defaultValue (am_ty 10 j))) S.1 1 (.ref (S.1 + 1))) a 2 (.ref S.1)) a 3 (.ref (S.1 + 2))) a 4 (.ref (S.1 + 3))) (upr (upr (upr (upr B (S.1 + 1) (fun _ => 0)) (S.1 + 2) (fun _ => 0)) (S.1 + 3) (fun _ => 0)) (S.1 + 4) (fun _ => 0)) J R _
  refine cp_8_5  d_66_36 cw_66 cf_8_25 (cs_g (cs_g (cs_g (cs_g (cs_g ha))))).1 (cs_g (cs_g (cs_g (cs_g (cs_g ha))))).2 (by decide) ?_
  refine cr_nx (pc' := 40) (al' := [some (.ref a)]) (st' := [.ref a]) d_66_39 (fun _ => rfl) ?_
  refine cn_sp (v := 720) d_66_40 (by decide) ?_
  refine cr_na d_66_43 (by decide) (show 2 ≤ S.1 + 5 by have := h2.1; omega) ?_
  show CR _ _ 45 [some (.ref a)] [.ref (S.1 + 5), .ref a] (cs_pu (cs_pu (cs_pu (cs_pu (cs_pu (cs_pu S (100 + 10, 2)) (0, 36)) (0, 6)) (0, 6)) (0, 6)) (0, 720)) (up2 (up2 (up2 (up2 (up2 (upr G S.1 (fun j => defaultValue (am_ty 10 j))) S.1 1 (.ref (S.1 + 1))) a 2 (.ref S.1)) a 3 (.ref (S.1 + 2))) a 4 (.ref (S.1 + 3))) a 5 (.ref (S.1 + 4))) (upr (upr (upr (upr (upr B (S.1 + 1) (fun _ => 0)) (S.1 + 2) (fun _ => 0)) (S.1 + 3) (fun _ => 0)) (S.1 + 4) (fun _ => 0)) (S.1 + 5) (fun _ => 0)) J R _
  refine cp_8_6  d_66_45 cw_66 cf_8_28 (cs_g (cs_g (cs_g (cs_g (cs_g (cs_g ha)))))).1 (cs_g (cs_g (cs_g (cs_g (cs_g (cs_g ha)))))).2 (by decide) ?_
  refine cr_nx (pc' := 49) (al' := [some (.ref a)]) (st' := [.ref a]) d_66_48 (fun _ => rfl) ?_
  refine cn_sp (v := 720) d_66_49 (by decide) ?_
  refine cr_na d_66_52 (by decide) (show 2 ≤ S.1 + 6 by have := h2.1; omega) ?_
  show CR _ _ 54 [some (.ref a)] [.ref (S.1 + 6), .ref a] (cs_pu (cs_pu (cs_pu (cs_pu (cs_pu (cs_pu (cs_pu S (100 + 10, 2)) (0, 36)) (0, 6)) (0, 6)) (0, 6)) (0, 720)) (0, 720)) (up2 (up2 (up2 (up2 (up2 (up2 (upr G S.1 (fun j => defaultValue (am_ty 10 j))) S.1 1 (.ref (S.1 + 1))) a 2 (.ref S.1)) a 3 (.ref (S.1 + 2))) a 4 (.ref (S.1 + 3))) a 5 (.ref (S.1 + 4))) a 6 (.ref (S.1 + 5))) (upr (upr (upr (upr (upr (upr B (S.1 + 1) (fun _ => 0)) (S.1 + 2) (fun _ => 0)) (S.1 + 3) (fun _ => 0)) (S.1 + 4) (fun _ => 0)) (S.1 + 5) (fun _ => 0)) (S.1 + 6) (fun _ => 0)) J R _
  refine cp_8_7  d_66_54 cw_66 cf_8_31 (cs_g (cs_g (cs_g (cs_g (cs_g (cs_g (cs_g ha))))))).1 (cs_g (cs_g (cs_g (cs_g (cs_g (cs_g (cs_g ha))))))).2 (by decide) ?_
  exact cr_rv d_66_57 cx_66 ⟨rfl, rfl, rfl, rfl, rfl, rfl⟩
