/-! Laws: the class makes a law; printed by wip/whole/gen_b28.py. -/
theorem in_23 : (am_y 23).name = "<init>" := by decide +kernel
theorem cp_3_0 {k pc o x n a : Nat} {al : AL} {r : List Value} {S : CS} {G : Nat → Nat → Value} {B : Nat → Nat → Int32} {J : Nat → Nat → Int64} {R : Nat → Nat → Option Nat} {Q : CQ} {v : Nat} (hd : decode (am_b 23) pc = .ok (.putfield x, 3)) (ho : am_o 23 = o) (hl : am_fl o x = some (3, 0)) (ha : cs_in S.1 a) (hs : S.2 a = (100 + 3, n)) (hj : 0 < n) (kk : CR k 23 (pc + 3) al r S (up2 G a 0 (.ref v)) B J R Q) : CR k 23 pc al (.ref v :: .ref a :: r) S G B J R Q := cr_pf hd ho hl ha hs hj rfl rfl (Or.inr ⟨in_23, ho.symm.trans cw_23⟩) kk
theorem cp_3_1 {k pc o x n a : Nat} {al : AL} {r : List Value} {S : CS} {G : Nat → Nat → Value} {B : Nat → Nat → Int32} {J : Nat → Nat → Int64} {R : Nat → Nat → Option Nat} {Q : CQ} {v : Int32} (hd : decode (am_b 23) pc = .ok (.putfield x, 3)) (ho : am_o 23 = o) (hl : am_fl o x = some (3, 1)) (ha : cs_in S.1 a) (hs : S.2 a = (100 + 3, n)) (hj : 1 < n) (kk : CR k 23 (pc + 3) al r S (up2 G a 1 (.int v)) B J R Q) : CR k 23 pc al (.int v :: .ref a :: r) S G B J R Q := cr_pf hd ho hl ha hs hj rfl rfl (Or.inr ⟨in_23, ho.symm.trans cw_23⟩) kk
theorem cp_3_2 {k pc o x n a : Nat} {al : AL} {r : List Value} {S : CS} {G : Nat → Nat → Value} {B : Nat → Nat → Int32} {J : Nat → Nat → Int64} {R : Nat → Nat → Option Nat} {Q : CQ} {v : Int32} (hd : decode (am_b 23) pc = .ok (.putfield x, 3)) (ho : am_o 23 = o) (hl : am_fl o x = some (3, 2)) (ha : cs_in S.1 a) (hs : S.2 a = (100 + 3, n)) (hj : 2 < n) (kk : CR k 23 (pc + 3) al r S (up2 G a 2 (.int v)) B J R Q) : CR k 23 pc al (.int v :: .ref a :: r) S G B J R Q := cr_pf hd ho hl ha hs hj rfl rfl (Or.inr ⟨in_23, ho.symm.trans cw_23⟩) kk
theorem k_lawInit {S : CS} {G : Nat → Nat → Value} {B : Nat → Nat → Int32} {J : Nat → Nat → Int64} {R : Nat → Nat → Option Nat} {a b m i u : Nat} (ha : cs_in S.1 a) (hsa : S.2 a = (100 + 3, 3)) : CR 0 23 0 [some (.ref a), some (.ref b), some (.int (nI i)), some (.int (nI u))] [] S G B J R (cP none S (up2 (up2 (up2 G a 0 (.ref b)) a 1 (.int (nI i))) a 2 (.int (nI u))) B J R) := by
  refine cr_nx (pc' := 1) (al' := [some (.ref a), some (.ref b), some (.int (nI i)), some (.int (nI u))]) (st' := [.ref a]) d_23_0 (fun _ => rfl) ?_
  refine cr_oi d_23_1 cw_23 cm_3_1 rfl ?_
  refine cr_nx (pc' := 5) (al' := [some (.ref a), some (.ref b), some (.int (nI i)), some (.int (nI u))]) (st' := [.ref a]) d_23_4 (fun _ => rfl) ?_
  refine cr_nx (pc' := 6) (al' := [some (.ref a), some (.ref b), some (.int (nI i)), some (.int (nI u))]) (st' := [.ref b, .ref a]) d_23_5 (fun _ => rfl) ?_
  refine cp_3_0  d_23_6 cw_23 cf_3_7 ha hsa (by decide) ?_
  refine cr_nx (pc' := 10) (al' := [some (.ref a), some (.ref b), some (.int (nI i)), some (.int (nI u))]) (st' := [.ref a]) d_23_9 (fun _ => rfl) ?_
  refine cr_nx (pc' := 11) (al' := [some (.ref a), some (.ref b), some (.int (nI i)), some (.int (nI u))]) (st' := [.int (nI i), .ref a]) d_23_10 (fun _ => rfl) ?_
  refine cp_3_1  d_23_11 cw_23 cf_3_13 ha hsa (by decide) ?_
  refine cr_nx (pc' := 15) (al' := [some (.ref a), some (.ref b), some (.int (nI i)), some (.int (nI u))]) (st' := [.ref a]) d_23_14 (fun _ => rfl) ?_
  refine cr_nx (pc' := 16) (al' := [some (.ref a), some (.ref b), some (.int (nI i)), some (.int (nI u))]) (st' := [.int (nI u), .ref a]) d_23_15 (fun _ => rfl) ?_
  refine cp_3_2  d_23_16 cw_23 cf_3_17 ha hsa (by decide) ?_
  exact cr_rv d_23_19 cx_23 ⟨rfl, rfl, rfl, rfl, rfl, rfl⟩
theorem k_copy18 {S : CS} {G : Nat → Nat → Value} {B : Nat → Nat → Int32} {J : Nat → Nat → Int64} {R : Nat → Nat → Option Nat} {a m : Nat} (hS : ShOk S) (ha : cs_in S.1 a) (hsa : S.2 a = (0, m)) (hm : m < 64) : CR 0 292 18 [some (.ref 85), some (.int (nI m)), some (.ref a)] [] S G B J R (cP (some (.ref a)) S G (upr B a (va_cpy (B 85) (B a) 0 0 m)) J R) := by
  refine cr_nx (pc' := 19) (al' := [some (.ref 85), some (.int (nI m)), some (.ref a)]) (st' := [.ref 85]) d_292_18 (fun _ => rfl) ?_
  refine cn_ic (v := 0) d_292_19 (by decide) ?_
  refine cr_nx (pc' := 21) (al' := [some (.ref 85), some (.int (nI m)), some (.ref a)]) (st' := [.ref a, .int (nI 0), .ref 85]) d_292_20 (fun _ => rfl) ?_
  refine cn_ic (v := 0) d_292_21 (by decide) ?_
  refine cr_nx (pc' := 23) (al' := [some (.ref 85), some (.int (nI m)), some (.ref a)]) (st' := [.ref 85, .int (nI 0), .ref a, .int (nI 0), .ref 85]) d_292_22 (fun _ => rfl) ?_
  refine cr_le d_292_23 (hS.i (a := 85) (by decide) (by decide)) (by decide) (by decide) (hS.s (a := 85) (by decide) (by decide) rfl) ?_
  refine cr_nx (pc' := 25) (al' := [some (.ref 85), some (.int (nI m)), some (.ref a)]) (st' := [.int (nI m), .int (nI 64), .int (nI 0), .ref a, .int (nI 0), .ref 85]) d_292_24 (fun _ => rfl) ?_
  refine cr_mn d_292_25 cw_292 cm_16_304 rfl ?_
  refine cr_tp (z := (nI m)) (if_pos ((nI_ltI (by omega) (by decide)).mpr hm)) ?_
  refine cr_cy (a := a) (a0 := 85) (B1 := (upr B a (va_cpy (B 85) (B a) 0 0 m))) d_292_28 cw_292 cm_16_150 ha (hS.i (a := 85) (by decide) (by decide)) hsa (hS.s (a := 85) (by decide) (by decide) rfl) (by omega) (by omega) (by decide) (by omega) rfl rfl ?_
  refine cr_nx (pc' := 32) (al' := [some (.ref 85), some (.int (nI m)), some (.ref a)]) (st' := [.ref a]) d_292_31 (fun _ => rfl) ?_
  exact cr_ra d_292_32 cx_292 (by first | exact Or.inl ⟨_, rfl⟩ | exact Or.inr ⟨_, rfl⟩) ⟨rfl, rfl, rfl, rfl, rfl, rfl⟩
theorem ShOk.pu {S : CS} {s : Nat × Nat} (h : ShOk S) : ShOk (cs_pu S s) := ⟨Nat.le_succ_of_le h.1, fun a h2 h3 => by show upr S.2 S.1 s a = _; rw [upr_n (by have := h.1; omega)]; exact h.2 a h2 h3⟩
theorem cs_pi {S : CS} {s : Nat × Nat} (h : ShOk S) : cs_in (cs_pu S s).1 S.1 := ⟨by have := h.1; omega, Or.inr h.1, Nat.lt_succ_self _⟩
theorem cs_ps {S : CS} {s : Nat × Nat} : (cs_pu S s).2 S.1 = s := upr_s
theorem cs_pj {S : CS} {s : Nat × Nat} {a : Nat} (h : cs_in S.1 a) : cs_in (cs_pu S s).1 a := ⟨h.1, h.2.1, Nat.lt_succ_of_lt h.2.2⟩
theorem cs_pn {S : CS} {s : Nat × Nat} {a : Nat} (h : cs_in S.1 a) : (cs_pu S s).2 a = S.2 a := upr_n (by have := h.2.2; omega)
theorem k_copyOf {S : CS} {G : Nat → Nat → Value} {B : Nat → Nat → Int32} {J : Nat → Nat → Int64} {R : Nat → Nat → Option Nat} {m : Nat} (hS : ShOk S) (hm : m < 64) : CR 0 292 0 [some (.ref 85), some (.int (nI m)), none] [] S G B J R (fun r S' G' B' J' R' => r = some (.ref S.1) ∧ S' = cs_pu S (0, m) ∧ G' = G ∧ J' = J ∧ R' = R ∧ (∀ b, b ≠ S.1 → B' b = B b) ∧ ∀ q, q < m → B' S.1 q = B 85 q) := by
  refine cr_nx (pc' := 1) (al' := [some (.ref 85), some (.int (nI m)), none]) (st' := [.int (nI m)]) d_292_0 (fun _ => rfl) ?_
  refine cr_nx (pc' := 2) (al' := [some (.ref 85), some (.int (nI m)), none]) (st' := [.ref 85, .int (nI m)]) d_292_1 (fun _ => rfl) ?_
  refine cr_le d_292_2 (hS.i (a := 85) (by decide) (by decide)) (by decide) (by decide) (hS.s (a := 85) (by decide) (by decide) rfl) ?_
  refine cn_cne (t := 14) d_292_3 (by decide) (by first | omega | assumption | exact cu_36 (by omega) (cu_lt (by omega) (by omega))) (by first | omega | assumption | exact cu_36 (by omega) (cu_lt (by omega) (by omega))) (fun c3 => ?_) (fun c3 => ?_)
  · refine cr_nx (pc' := 15) (al' := [some (.ref 85), some (.int (nI m)), none]) (st' := [.int (nI m)]) d_292_14 (fun _ => rfl) ?_
    refine cr_na d_292_15 (by omega) (by have := hS.1; omega) ?_
    refine cr_nx (pc' := 18) (al' := [some (.ref 85), some (.int (nI m)), some (.ref S.1)]) (st' := []) d_292_17 (fun _ => rfl) ?_
    refine cr_cq (k_copy18 hS.pu (cs_pi hS) cs_ps hm) ?_
    rintro r_ S' G' B' J' R' ⟨rfl, rfl, rfl, rfl, rfl, rfl⟩
    exact ⟨rfl, rfl, rfl, rfl, rfl, fun b hb => by rw [upr_n hb, upr_n hb], fun q hq => by rw [upr_s]; unfold va_cpy; rw [if_pos ⟨by omega, by omega⟩, Nat.sub_zero, Nat.zero_add, upr_n (by have := hS.1; omega)]⟩
  · omega
/-- a law's object and its code -/
def LawAt (S : CS) (G : Nat → Nat → Value) (B : Nat → Nat → Int32) (a : Nat) (w : List Nat) (i : Nat) : Prop := cs_in S.1 a ∧ S.2 a = (100 + 3, 3) ∧ cs_in S.1 (a + 1) ∧ S.2 (a + 1) = (0, w.length) ∧ G a 0 = .ref (a + 1) ∧ G a 1 = .int (nI i) ∧ G a 2 = .int (nI (usN w)) ∧ ∀ q, q < w.length → B (a + 1) q = nI (w.getD q 0)
theorem RdS.z {t : Nat → Nat} {len : Nat} {G : Nat → Nat → Value} {B : Nat → Nat → Int32} {s : LSt} (h : RdS t len G B s) : G 83 6 = .int (nI s.2.2.length) := h.2.2.2.2.1
theorem RdS.u {t : Nat → Nat} {len : Nat} {G : Nat → Nat → Value} {B : Nat → Nat → Int32} {s : LSt} (h : RdS t len G B s) : G 83 8 = .int (nI (usN s.2.2)) := h.2.2.2.2.2.2.1
theorem k_rl87 {S : CS} {G : Nat → Nat → Value} {B : Nat → Nat → Int32} {J : Nat → Nat → Int64} {R : Nat → Nat → Option Nat} {Q : CQ} {t : Nat → Nat} {len n0 i a : Nat} {s : LSt} (hS : ShOk S) (ha : cs_in S.1 a) (hsa : S.2 a = (100 + 3, 3)) (hea : S.1 = a + 1) (hs : RdS t len G B s) (hl : s.2.2.length < 64) (hk : ∀ G' B', (∀ b, b ≠ a → G' b = G b) → (∀ b, b ≠ S.1 → B' b = B b) → LawAt (cs_pu S (0, s.2.2.length)) G' B' a s.2.2 i → Q (some (.ref a)) (cs_pu S (0, s.2.2.length)) G' B' J R) : CR 1 25 87 [some (.ref 83), some (.ref 82), some (.int (nI n0)), some (.int (nI i))] [.ref a] S G B J R Q := by
  refine cr_nx (pc' := 88) (al' := [some (.ref 83), some (.ref 82), some (.int (nI n0)), some (.int (nI i))]) (st' := [.ref a, .ref a]) d_25_87 (fun _ => rfl) ?_
  refine cr_nx (pc' := 89) (al' := [some (.ref 83), some (.ref 82), some (.int (nI n0)), some (.int (nI i))]) (st' := [.ref 83, .ref a, .ref a]) d_25_88 (fun _ => rfl) ?_
  refine cr_gf (v := .ref 85) d_25_89 cw_25 cf_4_13 (hS.i (a := 83) (by decide) (by decide)) (hS.s (a := 83) (by decide) (by decide) rfl) (by decide) hs.1.2.2.1 ?_
  refine cr_nx (pc' := 93) (al' := [some (.ref 83), some (.ref 82), some (.int (nI n0)), some (.int (nI i))]) (st' := [.ref 83, .ref 85, .ref a, .ref a]) d_25_92 (fun _ => rfl) ?_
  refine cr_gf (v := .int (nI s.2.2.length)) d_25_93 cw_25 cf_4_32 (hS.i (a := 83) (by decide) (by decide)) (hS.s (a := 83) (by decide) (by decide) rfl) (by decide) hs.z ?_
  refine cr_cs (as := [.ref 85, .int (nI s.2.2.length)]) (al0 := [some (.ref 85), some (.int (nI s.2.2.length)), none]) (r := [.ref a, .ref a]) d_25_96 cw_25 cm_4_53 (by decide) cz_292 rfl rfl rfl (cr_wk (by omega) (k_copyOf hS hl)) (fun v1 S1 G1 B96 J1 R1 h1 => ?_)
  obtain ⟨q0_, q1_, q2_, q3_, q4_, hb96, hq96⟩ := h1
  obtain rfl := q0_
  obtain rfl := q1_
  obtain rfl := q2_.symm
  obtain rfl := q3_.symm
  obtain rfl := q4_.symm
  show CR _ _ 99 [some (.ref 83), some (.ref 82), some (.int (nI n0)), some (.int (nI i))] [.ref S.1, .ref a, .ref a] (cs_pu S (0, s.2.2.length)) G B96 J R _
  refine cr_nx (pc' := 100) (al' := [some (.ref 83), some (.ref 82), some (.int (nI n0)), some (.int (nI i))]) (st' := [.int (nI i), .ref S.1, .ref a, .ref a]) d_25_99 (fun _ => rfl) ?_
  refine cr_nx (pc' := 101) (al' := [some (.ref 83), some (.ref 82), some (.int (nI n0)), some (.int (nI i))]) (st' := [.ref 83, .int (nI i), .ref S.1, .ref a, .ref a]) d_25_100 (fun _ => rfl) ?_
  refine cr_gf (v := .int (nI (usN s.2.2))) d_25_101 cw_25 cf_4_38 (hS.pu.i (a := 83) (by decide) (by decide)) (hS.pu.s (a := 83) (by decide) (by decide) rfl) (by decide) hs.u ?_
  refine cr_ci (b := a) (as := [.ref S.1, .int (nI i), .int (nI (usN s.2.2))]) (al0 := [some (.ref a), some (.ref S.1), some (.int (nI i)), some (.int (nI (usN s.2.2)))]) d_25_104 cw_25 cm_4_59 (Or.inl rfl) cz_23 rfl rfl rfl (cr_wk (Nat.zero_le _) (k_lawInit (m := s.2.2.length) (cs_pj ha) ((cs_pn ha).trans hsa))) (fun v1 S1 G1 B1 J1 R1 h1 => ?_)
  obtain ⟨q0_, q1_, q2_, q3_, q4_, q5_⟩ := h1
  obtain rfl := q0_
  obtain rfl := q1_.symm
  obtain rfl := q2_
  obtain rfl := q3_.symm
  obtain rfl := q4_.symm
  obtain rfl := q5_.symm
  show CR _ _ 107 [some (.ref 83), some (.ref 82), some (.int (nI n0)), some (.int (nI i))] [.ref a] (cs_pu S (0, s.2.2.length)) (up2 (up2 (up2 G a 0 (.ref S.1)) a 1 (.int (nI i))) a 2 (.int (nI (usN s.2.2)))) B96 J R _
  refine cr_nx (pc' := 111) (al' := [some (.ref 83), some (.ref 82), some (.int (nI n0)), some (.int (nI i))]) (st' := [.ref a]) d_25_107 (fun _ => rfl) ?_
  exact cr_ra d_25_111 cx_25 (by first | exact Or.inl ⟨_, rfl⟩ | exact Or.inr ⟨_, rfl⟩) (hk _ _ (fun b hb => by funext k; simp [up2, hb]) hb96 ⟨cs_pj ha, (cs_pn ha).trans hsa, hea ▸ cs_pi hS, hea ▸ cs_ps, by simp [up2, hea], by simp [up2], by simp [up2], fun q hq => by rw [← hea, hq96 q hq]; exact hs.2.2.2.2.2.2.2 q hq⟩)
