/-! Laws: the class reckons; printed by wip/whole/gen_b32.py. -/
theorem tp_1 {d : Nat} : nI d - 1 + 1 = nI d := Int32.sub_add_cancel _ _
theorem tp_3 {d : Nat} : nI d = nI (d + 1) - 1 := by
  rw [← tp_1 (d := d)]
  have : nI (d + 1) = nI d + 1 := (nI_add d 1).symm
  rw [this, Int32.add_sub_cancel, tp_1]
theorem tp_4 {d : Nat} : nI d + (-1) = nI d - 1 := (Int32.sub_eq_add_neg _ _).symm
theorem tp_2 {d : Nat} : nI (d + 2) - 1 + (-1) = nI d := by rw [tp_3 (d := d), tp_3 (d := d + 1)]; exact (Int32.sub_eq_add_neg _ _).symm
/-- a checker's object and rows -/
def CkAt (S : CS) (G : Nat → Nat → Value) (a : Nat) : Prop := (cs_in S.1 a ∧ S.2 a = (100 + 0, 7)) ∧ (cs_in S.1 (a + 2) ∧ S.2 (a + 2) = (0, 36)) ∧ (cs_in S.1 (a + 3) ∧ S.2 (a + 3) = (0, 36)) ∧ (cs_in S.1 (a + 4) ∧ S.2 (a + 4) = (0, 4)) ∧ (cs_in S.1 (a + 5) ∧ S.2 (a + 5) = (0, 33)) ∧ G a 3 = .ref (a + 2) ∧ G a 4 = .ref (a + 3) ∧ G a 5 = .ref (a + 4) ∧ G a 6 = .ref (a + 5)
theorem k_join {S : CS} {G : Nat → Nat → Value} {B : Nat → Nat → Int32} {J : Nat → Nat → Int64} {R : Nat → Nat → Option Nat} {a m n : Nat} (hC : CkAt S G a) (hn : G a 0 = .int (nI n)) (hm1 : G a 1 = .ref m) (hm : cs_in S.1 m ∧ S.2 m = (0, 36)) (hn6 : n ≤ 6) {k q v : Nat} (hk : 4 ≤ k ∧ k ≤ 6) (hq : q < 36) (h4 : k = 4 → B m q = nI v) (h5 : k = 5 → B (a + 2) q = nI v) (h6 : k = 6 → B (a + 3) q = nI v) : CR 0 7 0 [some (.ref a), some (.int (nI k)), some (.int (nI q))] [] S G B J R (cP (some (.int (nI v))) S G B J R) := by
  refine cr_nx (pc' := 1) (al' := [some (.ref a), some (.int (nI k)), some (.int (nI q))]) (st' := [.int (nI k)]) d_7_0 (fun _ => rfl) ?_
  refine cn_ic (v := 4) d_7_1 (by decide) ?_
  refine cn_cne (t := 14) d_7_2 (by decide) (by first | omega | assumption | exact cu_36 (by omega) (cu_lt (by omega) (by omega))) (by first | omega | assumption | exact cu_36 (by omega) (cu_lt (by omega) (by omega))) (fun c2 => ?_) (fun c2 => ?_)
  · refine cr_nx (pc' := 15) (al' := [some (.ref a), some (.int (nI k)), some (.int (nI q))]) (st' := [.int (nI k)]) d_7_14 (fun _ => rfl) ?_
    refine cn_ic (v := 5) d_7_15 (by decide) ?_
    refine cn_cne (t := 28) d_7_16 (by decide) (by first | omega | assumption | exact cu_36 (by omega) (cu_lt (by omega) (by omega))) (by first | omega | assumption | exact cu_36 (by omega) (cu_lt (by omega) (by omega))) (fun c16 => ?_) (fun c16 => ?_)
    · refine cr_nx (pc' := 29) (al' := [some (.ref a), some (.int (nI k)), some (.int (nI q))]) (st' := [.ref a]) d_7_28 (fun _ => rfl) ?_
      refine cr_gf (v := .ref (a + 3)) d_7_29 cw_7 cf_0_20 hC.1.1 hC.1.2 (by decide) hC.2.2.2.2.2.2.1 ?_
      refine cr_nx (pc' := 33) (al' := [some (.ref a), some (.int (nI k)), some (.int (nI q))]) (st' := [.int (nI q), .ref (a + 3)]) d_7_32 (fun _ => rfl) ?_
      refine cr_ia (a := (a + 3)) (v := (nI v)) d_7_33 hC.2.2.1.1 hC.2.2.1.2 (by first | decide | omega) (show q < 36 by first | omega | assumption | exact cu_36 (by omega) (cu_lt (by omega) (by omega))) (h6 (by omega)) ?_
      exact cr_ri d_7_34 cx_7 rfl ⟨rfl, rfl, rfl, rfl, rfl, rfl⟩
    · refine cr_nx (pc' := 20) (al' := [some (.ref a), some (.int (nI k)), some (.int (nI q))]) (st' := [.ref a]) d_7_19 (fun _ => rfl) ?_
      refine cr_gf (v := .ref (a + 2)) d_7_20 cw_7 cf_0_17 hC.1.1 hC.1.2 (by decide) hC.2.2.2.2.2.1 ?_
      refine cr_nx (pc' := 24) (al' := [some (.ref a), some (.int (nI k)), some (.int (nI q))]) (st' := [.int (nI q), .ref (a + 2)]) d_7_23 (fun _ => rfl) ?_
      refine cr_ia (a := (a + 2)) (v := (nI v)) d_7_24 hC.2.1.1 hC.2.1.2 (by first | decide | omega) (show q < 36 by first | omega | assumption | exact cu_36 (by omega) (cu_lt (by omega) (by omega))) (h5 c16) ?_
      refine cr_nx (pc' := 34) (al' := [some (.ref a), some (.int (nI k)), some (.int (nI q))]) (st' := [.int (nI v)]) d_7_25 (fun _ => rfl) ?_
      exact cr_ri d_7_34 cx_7 rfl ⟨rfl, rfl, rfl, rfl, rfl, rfl⟩
  · refine cr_nx (pc' := 6) (al' := [some (.ref a), some (.int (nI k)), some (.int (nI q))]) (st' := [.ref a]) d_7_5 (fun _ => rfl) ?_
    refine cr_gf (v := .ref m) d_7_6 cw_7 cf_0_11 hC.1.1 hC.1.2 (by decide) hm1 ?_
    refine cr_nx (pc' := 10) (al' := [some (.ref a), some (.int (nI k)), some (.int (nI q))]) (st' := [.int (nI q), .ref m]) d_7_9 (fun _ => rfl) ?_
    refine cr_ia (a := m) (v := (nI v)) d_7_10 hm.1 hm.2 (by first | decide | omega) (show q < 36 by first | omega | assumption | exact cu_36 (by omega) (cu_lt (by omega) (by omega))) (h4 c2) ?_
    refine cr_nx (pc' := 34) (al' := [some (.ref a), some (.int (nI k)), some (.int (nI q))]) (st' := [.int (nI v)]) d_7_11 (fun _ => rfl) ?_
    exact cr_ri d_7_34 cx_7 rfl ⟨rfl, rfl, rfl, rfl, rfl, rfl⟩
theorem k_as_l {S : CS} {G : Nat → Nat → Value} {B : Nat → Nat → Int32} {J : Nat → Nat → Int64} {R : Nat → Nat → Option Nat} {Q : CQ} {a m n : Nat} (hC : CkAt S G a) (hn : G a 0 = .int (nI n)) (hm1 : G a 1 = .ref m) (hm : cs_in S.1 m ∧ S.2 m = (0, 36)) (hn6 : n ≤ 6) {b L f t i d k : Nat} (hb : cs_in S.1 b ∧ S.2 b = (0, L)) (hL : L ≤ 100000) (ht : t ≤ L) (hi : i < t) (hk : B b i = nI k) {v : Nat} (h3 : k ≤ 3) (hd : d < 33) (hv : B (a + 4) k = nI v) (hr : CR 1 6 6 [some (.ref a), some (.ref b), some (.int (nI f)), some (.int (nI t)), some (.int (nI (d + 1) - 1)), some (.int (nI (i + 1))), none] [] S G (upr B (a + 5) (upd (B (a + 5)) d (nI v))) J R Q) : CR 1 6 6 [some (.ref a), some (.ref b), some (.int (nI f)), some (.int (nI t)), some (.int (nI d - 1)), some (.int (nI i)), none] [] S G B J R Q := by
  refine cr_nx (pc' := 8) (al' := [some (.ref a), some (.ref b), some (.int (nI f)), some (.int (nI t)), some (.int (nI d - 1)), some (.int (nI i)), none]) (st' := [.int (nI i)]) d_6_6 (fun _ => rfl) ?_
  refine cr_nx (pc' := 9) (al' := [some (.ref a), some (.ref b), some (.int (nI f)), some (.int (nI t)), some (.int (nI d - 1)), some (.int (nI i)), none]) (st' := [.int (nI t), .int (nI i)]) d_6_8 (fun _ => rfl) ?_
  refine cn_cge (t := 122) d_6_9 (by decide) (by first | omega | assumption | exact cu_36 (by omega) (cu_lt (by omega) (by omega))) (by first | omega | assumption | exact cu_36 (by omega) (cu_lt (by omega) (by omega))) (fun c9 => ?_) (fun c9 => ?_)
  · omega
  · refine cr_nx (pc' := 13) (al' := [some (.ref a), some (.ref b), some (.int (nI f)), some (.int (nI t)), some (.int (nI d - 1)), some (.int (nI i)), none]) (st' := [.ref b]) d_6_12 (fun _ => rfl) ?_
    refine cr_nx (pc' := 15) (al' := [some (.ref a), some (.ref b), some (.int (nI f)), some (.int (nI t)), some (.int (nI d - 1)), some (.int (nI i)), none]) (st' := [.int (nI i), .ref b]) d_6_13 (fun _ => rfl) ?_
    refine cr_ia (a := b) (v := (nI k)) d_6_15 hb.1 hb.2 (by first | decide | omega) (show i < L by first | omega | assumption | exact cu_36 (by omega) (cu_lt (by omega) (by omega))) hk ?_
    refine cr_nx (pc' := 18) (al' := [some (.ref a), some (.ref b), some (.int (nI f)), some (.int (nI t)), some (.int (nI d - 1)), some (.int (nI i)), some (.int (nI k))]) (st' := []) d_6_16 (fun _ => rfl) ?_
    refine cr_nx (pc' := 20) (al' := [some (.ref a), some (.ref b), some (.int (nI f)), some (.int (nI t)), some (.int (nI d - 1)), some (.int (nI i)), some (.int (nI k))]) (st' := [.int (nI k)]) d_6_18 (fun _ => rfl) ?_
    refine cn_ic (v := 3) d_6_20 (by decide) ?_
    refine cn_cgt (t := 44) d_6_21 (by decide) (by first | omega | assumption | exact cu_36 (by omega) (cu_lt (by omega) (by omega))) (by first | omega | assumption | exact cu_36 (by omega) (cu_lt (by omega) (by omega))) (fun c21 => ?_) (fun c21 => ?_)
    · omega
    · refine cr_nx (pc' := 27) (al' := [some (.ref a), some (.ref b), some (.int (nI f)), some (.int (nI t)), some (.int ((nI d - 1) + 1)), some (.int (nI i)), some (.int (nI k))]) (st' := []) d_6_24 (fun _ => rfl) ?_
      refine cr_al (congrArg (fun z__ : Int32 => ([some (.ref a), some (.ref b), some (.int (nI f)), some (.int (nI t)), some (.int z__), some (.int (nI i)), some (.int (nI k))] : AL)) (show ((nI d - 1) + 1) = (nI d) by exact tp_1)) ?_
      refine cr_nx (pc' := 28) (al' := [some (.ref a), some (.ref b), some (.int (nI f)), some (.int (nI t)), some (.int (nI d)), some (.int (nI i)), some (.int (nI k))]) (st' := [.ref a]) d_6_27 (fun _ => rfl) ?_
      refine cr_gf (v := .ref (a + 5)) d_6_28 cw_6 cf_0_26 hC.1.1 hC.1.2 (by decide) hC.2.2.2.2.2.2.2.2 ?_
      refine cr_nx (pc' := 33) (al' := [some (.ref a), some (.ref b), some (.int (nI f)), some (.int (nI t)), some (.int (nI d)), some (.int (nI i)), some (.int (nI k))]) (st' := [.int (nI d), .ref (a + 5)]) d_6_31 (fun _ => rfl) ?_
      refine cr_nx (pc' := 34) (al' := [some (.ref a), some (.ref b), some (.int (nI f)), some (.int (nI t)), some (.int (nI d)), some (.int (nI i)), some (.int (nI k))]) (st' := [.ref a, .int (nI d), .ref (a + 5)]) d_6_33 (fun _ => rfl) ?_
      refine cr_gf (v := .ref (a + 4)) d_6_34 cw_6 cf_0_23 hC.1.1 hC.1.2 (by decide) hC.2.2.2.2.2.2.2.1 ?_
      refine cr_nx (pc' := 39) (al' := [some (.ref a), some (.ref b), some (.int (nI f)), some (.int (nI t)), some (.int (nI d)), some (.int (nI i)), some (.int (nI k))]) (st' := [.int (nI k), .ref (a + 4), .int (nI d), .ref (a + 5)]) d_6_37 (fun _ => rfl) ?_
      refine cr_ia (a := (a + 4)) (v := (nI v)) d_6_39 hC.2.2.2.1.1 hC.2.2.2.1.2 (by first | decide | omega) (show k < 4 by first | omega | assumption | exact cu_36 (by omega) (cu_lt (by omega) (by omega))) hv ?_
      refine cr_iS (a := (a + 5)) (B1 := (upr B (a + 5) (upd (B (a + 5)) d (nI v)))) d_6_40 hC.2.2.2.2.1.1 hC.2.2.2.2.1.2 (by first | decide | omega) (show d < 33 by first | omega | assumption | exact cu_36 (by omega) (cu_lt (by omega) (by omega))) rfl ?_
      refine cr_nx (pc' := 116) (al' := [some (.ref a), some (.ref b), some (.int (nI f)), some (.int (nI t)), some (.int (nI d)), some (.int (nI i)), some (.int (nI k))]) (st' := []) d_6_41 (fun _ => rfl) ?_
      refine cr_al (congrArg (fun z__ : Int32 => ([some (.ref a), some (.ref b), some (.int (nI f)), some (.int (nI t)), some (.int z__), some (.int (nI i)), some (.int (nI k))] : AL)) (show (nI d) = (nI (d + 1) - 1) by exact tp_3)) ?_
      refine cn_inc d_6_116 rfl rfl ?_
      show CR _ _ 119 [some (.ref a), some (.ref b), some (.int (nI f)), some (.int (nI t)), some (.int (nI (d + 1) - 1)), some (.int (nI (i + 1))), some (.int (nI k))] [] S G (upr B (a + 5) (upd (B (a + 5)) d (nI v))) J R _
      refine cr_nx (pc' := 6) (al' := [some (.ref a), some (.ref b), some (.int (nI f)), some (.int (nI t)), some (.int (nI (d + 1) - 1)), some (.int (nI (i + 1))), some (.int (nI k))]) (st' := []) d_6_119 (fun _ => rfl) ?_
      refine cr_dr (al1 := [some (.ref a), some (.ref b), some (.int (nI f)), some (.int (nI t)), some (.int (nI (d + 1) - 1)), some (.int (nI (i + 1))), none]) (le_s (le_s (le_s (le_s (le_s (le_s (le_d rfl (le_n)))))))) ?_
      exact hr
theorem k_as_o {S : CS} {G : Nat → Nat → Value} {B : Nat → Nat → Int32} {J : Nat → Nat → Int64} {R : Nat → Nat → Option Nat} {Q : CQ} {a m n : Nat} (hC : CkAt S G a) (hn : G a 0 = .int (nI n)) (hm1 : G a 1 = .ref m) (hm : cs_in S.1 m ∧ S.2 m = (0, 36)) (hn6 : n ≤ 6) {b L f t i d k : Nat} (hb : cs_in S.1 b ∧ S.2 b = (0, L)) (hL : L ≤ 100000) (ht : t ≤ L) (hi : i < t) (hk : B b i = nI k) {p q : Nat} (hd : d + 1 < 33) (hp : B (a + 5) d = nI p) (hq : B (a + 5) (d + 1) = nI q) (hp6 : p < n) (hq6 : q < n) {v : Nat} (h46 : 4 ≤ k ∧ k ≤ 6) (h4 : k = 4 → B m (n * p + q) = nI v) (h5 : k = 5 → B (a + 2) (n * p + q) = nI v) (h6 : k = 6 → B (a + 3) (n * p + q) = nI v) (hr : CR 1 6 6 [some (.ref a), some (.ref b), some (.int (nI f)), some (.int (nI t)), some (.int (nI (d + 1) - 1)), some (.int (nI (i + 1))), none] [] S G (upr B (a + 5) (upd (B (a + 5)) d (nI v))) J R Q) : CR 1 6 6 [some (.ref a), some (.ref b), some (.int (nI f)), some (.int (nI t)), some (.int (nI (d + 2) - 1)), some (.int (nI i)), none] [] S G B J R Q := by
  refine cr_nx (pc' := 8) (al' := [some (.ref a), some (.ref b), some (.int (nI f)), some (.int (nI t)), some (.int (nI (d + 2) - 1)), some (.int (nI i)), none]) (st' := [.int (nI i)]) d_6_6 (fun _ => rfl) ?_
  refine cr_nx (pc' := 9) (al' := [some (.ref a), some (.ref b), some (.int (nI f)), some (.int (nI t)), some (.int (nI (d + 2) - 1)), some (.int (nI i)), none]) (st' := [.int (nI t), .int (nI i)]) d_6_8 (fun _ => rfl) ?_
  refine cn_cge (t := 122) d_6_9 (by decide) (by first | omega | assumption | exact cu_36 (by omega) (cu_lt (by omega) (by omega))) (by first | omega | assumption | exact cu_36 (by omega) (cu_lt (by omega) (by omega))) (fun c9 => ?_) (fun c9 => ?_)
  · omega
  · refine cr_nx (pc' := 13) (al' := [some (.ref a), some (.ref b), some (.int (nI f)), some (.int (nI t)), some (.int (nI (d + 2) - 1)), some (.int (nI i)), none]) (st' := [.ref b]) d_6_12 (fun _ => rfl) ?_
    refine cr_nx (pc' := 15) (al' := [some (.ref a), some (.ref b), some (.int (nI f)), some (.int (nI t)), some (.int (nI (d + 2) - 1)), some (.int (nI i)), none]) (st' := [.int (nI i), .ref b]) d_6_13 (fun _ => rfl) ?_
    refine cr_ia (a := b) (v := (nI k)) d_6_15 hb.1 hb.2 (by first | decide | omega) (show i < L by first | omega | assumption | exact cu_36 (by omega) (cu_lt (by omega) (by omega))) hk ?_
    refine cr_nx (pc' := 18) (al' := [some (.ref a), some (.ref b), some (.int (nI f)), some (.int (nI t)), some (.int (nI (d + 2) - 1)), some (.int (nI i)), some (.int (nI k))]) (st' := []) d_6_16 (fun _ => rfl) ?_
    refine cr_nx (pc' := 20) (al' := [some (.ref a), some (.ref b), some (.int (nI f)), some (.int (nI t)), some (.int (nI (d + 2) - 1)), some (.int (nI i)), some (.int (nI k))]) (st' := [.int (nI k)]) d_6_18 (fun _ => rfl) ?_
    refine cn_ic (v := 3) d_6_20 (by decide) ?_
    refine cn_cgt (t := 44) d_6_21 (by decide) (by first | omega | assumption | exact cu_36 (by omega) (cu_lt (by omega) (by omega))) (by first | omega | assumption | exact cu_36 (by omega) (cu_lt (by omega) (by omega))) (fun c21 => ?_) (fun c21 => ?_)
    · refine cr_nx (pc' := 47) (al' := [some (.ref a), some (.ref b), some (.int (nI f)), some (.int (nI t)), some (.int ((nI (d + 2) - 1) + (-1))), some (.int (nI i)), some (.int (nI k))]) (st' := []) d_6_44 (fun _ => rfl) ?_
      refine cr_al (congrArg (fun z__ : Int32 => ([some (.ref a), some (.ref b), some (.int (nI f)), some (.int (nI t)), some (.int z__), some (.int (nI i)), some (.int (nI k))] : AL)) (show ((nI (d + 2) - 1) + (-1)) = (nI d) by exact tp_2)) ?_
      refine cr_nx (pc' := 49) (al' := [some (.ref a), some (.ref b), some (.int (nI f)), some (.int (nI t)), some (.int (nI d)), some (.int (nI i)), some (.int (nI k))]) (st' := [.int (nI k)]) d_6_47 (fun _ => rfl) ?_
      refine cn_bp (v := 7) d_6_49 (by decide) ?_
      refine cn_cne (t := 81) d_6_51 (by decide) (by first | omega | assumption | exact cu_36 (by omega) (cu_lt (by omega) (by omega))) (by first | omega | assumption | exact cu_36 (by omega) (cu_lt (by omega) (by omega))) (fun c51 => ?_) (fun c51 => ?_)
      · refine cr_nx (pc' := 82) (al' := [some (.ref a), some (.ref b), some (.int (nI f)), some (.int (nI t)), some (.int (nI d)), some (.int (nI i)), some (.int (nI k))]) (st' := [.ref a]) d_6_81 (fun _ => rfl) ?_
        refine cr_gf (v := .ref (a + 5)) d_6_82 cw_6 cf_0_26 hC.1.1 hC.1.2 (by decide) hC.2.2.2.2.2.2.2.2 ?_
        refine cr_nx (pc' := 87) (al' := [some (.ref a), some (.ref b), some (.int (nI f)), some (.int (nI t)), some (.int (nI d)), some (.int (nI i)), some (.int (nI k))]) (st' := [.int (nI d), .ref (a + 5)]) d_6_85 (fun _ => rfl) ?_
        refine cr_nx (pc' := 88) (al' := [some (.ref a), some (.ref b), some (.int (nI f)), some (.int (nI t)), some (.int (nI d)), some (.int (nI i)), some (.int (nI k))]) (st' := [.ref a, .int (nI d), .ref (a + 5)]) d_6_87 (fun _ => rfl) ?_
        refine cr_nx (pc' := 90) (al' := [some (.ref a), some (.ref b), some (.int (nI f)), some (.int (nI t)), some (.int (nI d)), some (.int (nI i)), some (.int (nI k))]) (st' := [.int (nI k), .ref a, .int (nI d), .ref (a + 5)]) d_6_88 (fun _ => rfl) ?_
        refine cr_nx (pc' := 91) (al' := [some (.ref a), some (.ref b), some (.int (nI f)), some (.int (nI t)), some (.int (nI d)), some (.int (nI i)), some (.int (nI k))]) (st' := [.ref a, .int (nI k), .ref a, .int (nI d), .ref (a + 5)]) d_6_90 (fun _ => rfl) ?_
        refine cr_gf (v := .int (nI n)) d_6_91 cw_6 cf_0_35 hC.1.1 hC.1.2 (by decide) hn ?_
        refine cr_nx (pc' := 95) (al' := [some (.ref a), some (.ref b), some (.int (nI f)), some (.int (nI t)), some (.int (nI d)), some (.int (nI i)), some (.int (nI k))]) (st' := [.ref a, .int (nI n), .int (nI k), .ref a, .int (nI d), .ref (a + 5)]) d_6_94 (fun _ => rfl) ?_
        refine cr_gf (v := .ref (a + 5)) d_6_95 cw_6 cf_0_26 hC.1.1 hC.1.2 (by decide) hC.2.2.2.2.2.2.2.2 ?_
        refine cr_nx (pc' := 100) (al' := [some (.ref a), some (.ref b), some (.int (nI f)), some (.int (nI t)), some (.int (nI d)), some (.int (nI i)), some (.int (nI k))]) (st' := [.int (nI d), .ref (a + 5), .int (nI n), .int (nI k), .ref a, .int (nI d), .ref (a + 5)]) d_6_98 (fun _ => rfl) ?_
        refine cr_ia (a := (a + 5)) (v := (nI p)) d_6_100 hC.2.2.2.2.1.1 hC.2.2.2.2.1.2 (by first | decide | omega) (show d < 33 by first | omega | assumption | exact cu_36 (by omega) (cu_lt (by omega) (by omega))) hp ?_
        refine cn_mul d_6_101  ?_
        refine cr_nx (pc' := 103) (al' := [some (.ref a), some (.ref b), some (.int (nI f)), some (.int (nI t)), some (.int (nI d)), some (.int (nI i)), some (.int (nI k))]) (st' := [.ref a, .int (nI (n * p)), .int (nI k), .ref a, .int (nI d), .ref (a + 5)]) d_6_102 (fun _ => rfl) ?_
        refine cr_gf (v := .ref (a + 5)) d_6_103 cw_6 cf_0_26 hC.1.1 hC.1.2 (by decide) hC.2.2.2.2.2.2.2.2 ?_
        refine cr_nx (pc' := 108) (al' := [some (.ref a), some (.ref b), some (.int (nI f)), some (.int (nI t)), some (.int (nI d)), some (.int (nI i)), some (.int (nI k))]) (st' := [.int (nI d), .ref (a + 5), .int (nI (n * p)), .int (nI k), .ref a, .int (nI d), .ref (a + 5)]) d_6_106 (fun _ => rfl) ?_
        refine cn_ic (v := 1) d_6_108 (by decide) ?_
        refine cn_add d_6_109  ?_
        refine cr_ia (a := (a + 5)) (v := (nI q)) d_6_110 hC.2.2.2.2.1.1 hC.2.2.2.2.1.2 (by first | decide | omega) (show d + 1 < 33 by first | omega | assumption | exact cu_36 (by omega) (cu_lt (by omega) (by omega))) hq ?_
        refine cn_add d_6_111  ?_
        refine cr_pv (b := a) (as := [.int (nI k), .int (nI ((n * p) + q))]) (al0 := [some (.ref a), some (.int (nI k)), some (.int (nI ((n * p) + q)))]) (r := [.int (nI d), .ref (a + 5)]) d_6_112 cw_6 cm_0_77 cz_7 rfl rfl hC.1.1 (by rw [cw_7]; exact hC.1.2) (by rw [cw_7]; decide) rfl (Nat.le_of_ble_eq_true rfl) (k_join hC hn hm1 hm hn6 h46 (cu_36 (by omega) (cu_lt (by omega) (by omega))) h4 h5 h6) ?_
        show CR _ _ 115 [some (.ref a), some (.ref b), some (.int (nI f)), some (.int (nI t)), some (.int (nI d)), some (.int (nI i)), some (.int (nI k))] [.int (nI v), .int (nI d), .ref (a + 5)] S G B J R _
        refine cr_iS (a := (a + 5)) (B1 := (upr B (a + 5) (upd (B (a + 5)) d (nI v)))) d_6_115 hC.2.2.2.2.1.1 hC.2.2.2.2.1.2 (by first | decide | omega) (show d < 33 by first | omega | assumption | exact cu_36 (by omega) (cu_lt (by omega) (by omega))) rfl ?_
        refine cr_al (congrArg (fun z__ : Int32 => ([some (.ref a), some (.ref b), some (.int (nI f)), some (.int (nI t)), some (.int z__), some (.int (nI i)), some (.int (nI k))] : AL)) (show (nI d) = (nI (d + 1) - 1) by exact tp_3)) ?_
        refine cn_inc d_6_116 rfl rfl ?_
        show CR _ _ 119 [some (.ref a), some (.ref b), some (.int (nI f)), some (.int (nI t)), some (.int (nI (d + 1) - 1)), some (.int (nI (i + 1))), some (.int (nI k))] [] S G (upr B (a + 5) (upd (B (a + 5)) d (nI v))) J R _
        refine cr_nx (pc' := 6) (al' := [some (.ref a), some (.ref b), some (.int (nI f)), some (.int (nI t)), some (.int (nI (d + 1) - 1)), some (.int (nI (i + 1))), some (.int (nI k))]) (st' := []) d_6_119 (fun _ => rfl) ?_
        refine cr_dr (al1 := [some (.ref a), some (.ref b), some (.int (nI f)), some (.int (nI t)), some (.int (nI (d + 1) - 1)), some (.int (nI (i + 1))), none]) (le_s (le_s (le_s (le_s (le_s (le_s (le_d rfl (le_n)))))))) ?_
        exact hr
      · omega
    · omega
theorem k_as_e {S : CS} {G : Nat → Nat → Value} {B : Nat → Nat → Int32} {J : Nat → Nat → Int64} {R : Nat → Nat → Option Nat} {Q : CQ} {a m n : Nat} (hC : CkAt S G a) (hn : G a 0 = .int (nI n)) (hm1 : G a 1 = .ref m) (hm : cs_in S.1 m ∧ S.2 m = (0, 36)) (hn6 : n ≤ 6) {b L f t i d k : Nat} (hb : cs_in S.1 b ∧ S.2 b = (0, L)) (hL : L ≤ 100000) (ht : t ≤ L) (hi : i < t) (hk : B b i = nI k) {p q : Nat} (hd : d + 1 < 33) (hp : B (a + 5) d = nI p) (hq : B (a + 5) (d + 1) = nI q) (hp6 : p < n) (hq6 : q < n) (h7 : k = 7) (he : p = q) (hr : CR 1 6 6 [some (.ref a), some (.ref b), some (.int (nI f)), some (.int (nI t)), some (.int (nI d - 1)), some (.int (nI (i + 1))), none] [] S G B J R Q) : CR 1 6 6 [some (.ref a), some (.ref b), some (.int (nI f)), some (.int (nI t)), some (.int (nI (d + 2) - 1)), some (.int (nI i)), none] [] S G B J R Q := by
  refine cr_nx (pc' := 8) (al' := [some (.ref a), some (.ref b), some (.int (nI f)), some (.int (nI t)), some (.int (nI (d + 2) - 1)), some (.int (nI i)), none]) (st' := [.int (nI i)]) d_6_6 (fun _ => rfl) ?_
  refine cr_nx (pc' := 9) (al' := [some (.ref a), some (.ref b), some (.int (nI f)), some (.int (nI t)), some (.int (nI (d + 2) - 1)), some (.int (nI i)), none]) (st' := [.int (nI t), .int (nI i)]) d_6_8 (fun _ => rfl) ?_
  refine cn_cge (t := 122) d_6_9 (by decide) (by first | omega | assumption | exact cu_36 (by omega) (cu_lt (by omega) (by omega))) (by first | omega | assumption | exact cu_36 (by omega) (cu_lt (by omega) (by omega))) (fun c9 => ?_) (fun c9 => ?_)
  · omega
  · refine cr_nx (pc' := 13) (al' := [some (.ref a), some (.ref b), some (.int (nI f)), some (.int (nI t)), some (.int (nI (d + 2) - 1)), some (.int (nI i)), none]) (st' := [.ref b]) d_6_12 (fun _ => rfl) ?_
    refine cr_nx (pc' := 15) (al' := [some (.ref a), some (.ref b), some (.int (nI f)), some (.int (nI t)), some (.int (nI (d + 2) - 1)), some (.int (nI i)), none]) (st' := [.int (nI i), .ref b]) d_6_13 (fun _ => rfl) ?_
    refine cr_ia (a := b) (v := (nI k)) d_6_15 hb.1 hb.2 (by first | decide | omega) (show i < L by first | omega | assumption | exact cu_36 (by omega) (cu_lt (by omega) (by omega))) hk ?_
    refine cr_nx (pc' := 18) (al' := [some (.ref a), some (.ref b), some (.int (nI f)), some (.int (nI t)), some (.int (nI (d + 2) - 1)), some (.int (nI i)), some (.int (nI k))]) (st' := []) d_6_16 (fun _ => rfl) ?_
    refine cr_nx (pc' := 20) (al' := [some (.ref a), some (.ref b), some (.int (nI f)), some (.int (nI t)), some (.int (nI (d + 2) - 1)), some (.int (nI i)), some (.int (nI k))]) (st' := [.int (nI k)]) d_6_18 (fun _ => rfl) ?_
    refine cn_ic (v := 3) d_6_20 (by decide) ?_
    refine cn_cgt (t := 44) d_6_21 (by decide) (by first | omega | assumption | exact cu_36 (by omega) (cu_lt (by omega) (by omega))) (by first | omega | assumption | exact cu_36 (by omega) (cu_lt (by omega) (by omega))) (fun c21 => ?_) (fun c21 => ?_)
    · refine cr_nx (pc' := 47) (al' := [some (.ref a), some (.ref b), some (.int (nI f)), some (.int (nI t)), some (.int ((nI (d + 2) - 1) + (-1))), some (.int (nI i)), some (.int (nI k))]) (st' := []) d_6_44 (fun _ => rfl) ?_
      refine cr_al (congrArg (fun z__ : Int32 => ([some (.ref a), some (.ref b), some (.int (nI f)), some (.int (nI t)), some (.int z__), some (.int (nI i)), some (.int (nI k))] : AL)) (show ((nI (d + 2) - 1) + (-1)) = (nI d) by exact tp_2)) ?_
      refine cr_nx (pc' := 49) (al' := [some (.ref a), some (.ref b), some (.int (nI f)), some (.int (nI t)), some (.int (nI d)), some (.int (nI i)), some (.int (nI k))]) (st' := [.int (nI k)]) d_6_47 (fun _ => rfl) ?_
      refine cn_bp (v := 7) d_6_49 (by decide) ?_
      refine cn_cne (t := 81) d_6_51 (by decide) (by first | omega | assumption | exact cu_36 (by omega) (cu_lt (by omega) (by omega))) (by first | omega | assumption | exact cu_36 (by omega) (cu_lt (by omega) (by omega))) (fun c51 => ?_) (fun c51 => ?_)
      · omega
      · refine cr_nx (pc' := 55) (al' := [some (.ref a), some (.ref b), some (.int (nI f)), some (.int (nI t)), some (.int (nI d)), some (.int (nI i)), some (.int (nI k))]) (st' := [.ref a]) d_6_54 (fun _ => rfl) ?_
        refine cr_gf (v := .ref (a + 5)) d_6_55 cw_6 cf_0_26 hC.1.1 hC.1.2 (by decide) hC.2.2.2.2.2.2.2.2 ?_
        refine cr_nx (pc' := 60) (al' := [some (.ref a), some (.ref b), some (.int (nI f)), some (.int (nI t)), some (.int (nI d)), some (.int (nI i)), some (.int (nI k))]) (st' := [.int (nI d), .ref (a + 5)]) d_6_58 (fun _ => rfl) ?_
        refine cr_ia (a := (a + 5)) (v := (nI p)) d_6_60 hC.2.2.2.2.1.1 hC.2.2.2.2.1.2 (by first | decide | omega) (show d < 33 by first | omega | assumption | exact cu_36 (by omega) (cu_lt (by omega) (by omega))) hp ?_
        refine cr_nx (pc' := 62) (al' := [some (.ref a), some (.ref b), some (.int (nI f)), some (.int (nI t)), some (.int (nI d)), some (.int (nI i)), some (.int (nI k))]) (st' := [.ref a, .int (nI p)]) d_6_61 (fun _ => rfl) ?_
        refine cr_gf (v := .ref (a + 5)) d_6_62 cw_6 cf_0_26 hC.1.1 hC.1.2 (by decide) hC.2.2.2.2.2.2.2.2 ?_
        refine cr_nx (pc' := 67) (al' := [some (.ref a), some (.ref b), some (.int (nI f)), some (.int (nI t)), some (.int (nI d)), some (.int (nI i)), some (.int (nI k))]) (st' := [.int (nI d), .ref (a + 5), .int (nI p)]) d_6_65 (fun _ => rfl) ?_
        refine cn_ic (v := 1) d_6_67 (by decide) ?_
        refine cn_add d_6_68  ?_
        refine cr_ia (a := (a + 5)) (v := (nI q)) d_6_69 hC.2.2.2.2.1.1 hC.2.2.2.2.1.2 (by first | decide | omega) (show d + 1 < 33 by first | omega | assumption | exact cu_36 (by omega) (cu_lt (by omega) (by omega))) hq ?_
        refine cn_ceq (t := 75) d_6_70 (by decide) (by first | omega | assumption | exact cu_36 (by omega) (cu_lt (by omega) (by omega))) (by first | omega | assumption | exact cu_36 (by omega) (cu_lt (by omega) (by omega))) (fun c70 => ?_) (fun c70 => ?_)
        · refine cr_nx (pc' := 78) (al' := [some (.ref a), some (.ref b), some (.int (nI f)), some (.int (nI t)), some (.int ((nI d) + (-1))), some (.int (nI i)), some (.int (nI k))]) (st' := []) d_6_75 (fun _ => rfl) ?_
          refine cr_nx (pc' := 116) (al' := [some (.ref a), some (.ref b), some (.int (nI f)), some (.int (nI t)), some (.int ((nI d) + (-1))), some (.int (nI i)), some (.int (nI k))]) (st' := []) d_6_78 (fun _ => rfl) ?_
          refine cr_al (congrArg (fun z__ : Int32 => ([some (.ref a), some (.ref b), some (.int (nI f)), some (.int (nI t)), some (.int z__), some (.int (nI i)), some (.int (nI k))] : AL)) (show ((nI d) + (-1)) = (nI d - 1) by exact tp_4)) ?_
          refine cn_inc d_6_116 rfl rfl ?_
          show CR _ _ 119 [some (.ref a), some (.ref b), some (.int (nI f)), some (.int (nI t)), some (.int (nI d - 1)), some (.int (nI (i + 1))), some (.int (nI k))] [] S G B J R _
          refine cr_nx (pc' := 6) (al' := [some (.ref a), some (.ref b), some (.int (nI f)), some (.int (nI t)), some (.int (nI d - 1)), some (.int (nI (i + 1))), some (.int (nI k))]) (st' := []) d_6_119 (fun _ => rfl) ?_
          refine cr_dr (al1 := [some (.ref a), some (.ref b), some (.int (nI f)), some (.int (nI t)), some (.int (nI d - 1)), some (.int (nI (i + 1))), none]) (le_s (le_s (le_s (le_s (le_s (le_s (le_d rfl (le_n)))))))) ?_
          exact hr
        · omega
    · omega
theorem k_as_f {S : CS} {G : Nat → Nat → Value} {B : Nat → Nat → Int32} {J : Nat → Nat → Int64} {R : Nat → Nat → Option Nat} {a m n : Nat} (hC : CkAt S G a) (hn : G a 0 = .int (nI n)) (hm1 : G a 1 = .ref m) (hm : cs_in S.1 m ∧ S.2 m = (0, 36)) (hn6 : n ≤ 6) {b L f t i d k : Nat} (hb : cs_in S.1 b ∧ S.2 b = (0, L)) (hL : L ≤ 100000) (ht : t ≤ L) (hi : i < t) (hk : B b i = nI k) {p q : Nat} (hd : d + 1 < 33) (hp : B (a + 5) d = nI p) (hq : B (a + 5) (d + 1) = nI q) (hp6 : p < n) (hq6 : q < n) (h7 : k = 7) (he : ¬ p = q) : CR 1 6 6 [some (.ref a), some (.ref b), some (.int (nI f)), some (.int (nI t)), some (.int (nI (d + 2) - 1)), some (.int (nI i)), none] [] S G B J R (cP (some (.int (nI 0))) S G B J R) := by
  refine cr_nx (pc' := 8) (al' := [some (.ref a), some (.ref b), some (.int (nI f)), some (.int (nI t)), some (.int (nI (d + 2) - 1)), some (.int (nI i)), none]) (st' := [.int (nI i)]) d_6_6 (fun _ => rfl) ?_
  refine cr_nx (pc' := 9) (al' := [some (.ref a), some (.ref b), some (.int (nI f)), some (.int (nI t)), some (.int (nI (d + 2) - 1)), some (.int (nI i)), none]) (st' := [.int (nI t), .int (nI i)]) d_6_8 (fun _ => rfl) ?_
  refine cn_cge (t := 122) d_6_9 (by decide) (by first | omega | assumption | exact cu_36 (by omega) (cu_lt (by omega) (by omega))) (by first | omega | assumption | exact cu_36 (by omega) (cu_lt (by omega) (by omega))) (fun c9 => ?_) (fun c9 => ?_)
  · omega
  · refine cr_nx (pc' := 13) (al' := [some (.ref a), some (.ref b), some (.int (nI f)), some (.int (nI t)), some (.int (nI (d + 2) - 1)), some (.int (nI i)), none]) (st' := [.ref b]) d_6_12 (fun _ => rfl) ?_
    refine cr_nx (pc' := 15) (al' := [some (.ref a), some (.ref b), some (.int (nI f)), some (.int (nI t)), some (.int (nI (d + 2) - 1)), some (.int (nI i)), none]) (st' := [.int (nI i), .ref b]) d_6_13 (fun _ => rfl) ?_
    refine cr_ia (a := b) (v := (nI k)) d_6_15 hb.1 hb.2 (by first | decide | omega) (show i < L by first | omega | assumption | exact cu_36 (by omega) (cu_lt (by omega) (by omega))) hk ?_
    refine cr_nx (pc' := 18) (al' := [some (.ref a), some (.ref b), some (.int (nI f)), some (.int (nI t)), some (.int (nI (d + 2) - 1)), some (.int (nI i)), some (.int (nI k))]) (st' := []) d_6_16 (fun _ => rfl) ?_
    refine cr_nx (pc' := 20) (al' := [some (.ref a), some (.ref b), some (.int (nI f)), some (.int (nI t)), some (.int (nI (d + 2) - 1)), some (.int (nI i)), some (.int (nI k))]) (st' := [.int (nI k)]) d_6_18 (fun _ => rfl) ?_
    refine cn_ic (v := 3) d_6_20 (by decide) ?_
    refine cn_cgt (t := 44) d_6_21 (by decide) (by first | omega | assumption | exact cu_36 (by omega) (cu_lt (by omega) (by omega))) (by first | omega | assumption | exact cu_36 (by omega) (cu_lt (by omega) (by omega))) (fun c21 => ?_) (fun c21 => ?_)
    · refine cr_nx (pc' := 47) (al' := [some (.ref a), some (.ref b), some (.int (nI f)), some (.int (nI t)), some (.int ((nI (d + 2) - 1) + (-1))), some (.int (nI i)), some (.int (nI k))]) (st' := []) d_6_44 (fun _ => rfl) ?_
      refine cr_al (congrArg (fun z__ : Int32 => ([some (.ref a), some (.ref b), some (.int (nI f)), some (.int (nI t)), some (.int z__), some (.int (nI i)), some (.int (nI k))] : AL)) (show ((nI (d + 2) - 1) + (-1)) = (nI d) by exact tp_2)) ?_
      refine cr_nx (pc' := 49) (al' := [some (.ref a), some (.ref b), some (.int (nI f)), some (.int (nI t)), some (.int (nI d)), some (.int (nI i)), some (.int (nI k))]) (st' := [.int (nI k)]) d_6_47 (fun _ => rfl) ?_
      refine cn_bp (v := 7) d_6_49 (by decide) ?_
      refine cn_cne (t := 81) d_6_51 (by decide) (by first | omega | assumption | exact cu_36 (by omega) (cu_lt (by omega) (by omega))) (by first | omega | assumption | exact cu_36 (by omega) (cu_lt (by omega) (by omega))) (fun c51 => ?_) (fun c51 => ?_)
      · omega
      · refine cr_nx (pc' := 55) (al' := [some (.ref a), some (.ref b), some (.int (nI f)), some (.int (nI t)), some (.int (nI d)), some (.int (nI i)), some (.int (nI k))]) (st' := [.ref a]) d_6_54 (fun _ => rfl) ?_
        refine cr_gf (v := .ref (a + 5)) d_6_55 cw_6 cf_0_26 hC.1.1 hC.1.2 (by decide) hC.2.2.2.2.2.2.2.2 ?_
        refine cr_nx (pc' := 60) (al' := [some (.ref a), some (.ref b), some (.int (nI f)), some (.int (nI t)), some (.int (nI d)), some (.int (nI i)), some (.int (nI k))]) (st' := [.int (nI d), .ref (a + 5)]) d_6_58 (fun _ => rfl) ?_
        refine cr_ia (a := (a + 5)) (v := (nI p)) d_6_60 hC.2.2.2.2.1.1 hC.2.2.2.2.1.2 (by first | decide | omega) (show d < 33 by first | omega | assumption | exact cu_36 (by omega) (cu_lt (by omega) (by omega))) hp ?_
        refine cr_nx (pc' := 62) (al' := [some (.ref a), some (.ref b), some (.int (nI f)), some (.int (nI t)), some (.int (nI d)), some (.int (nI i)), some (.int (nI k))]) (st' := [.ref a, .int (nI p)]) d_6_61 (fun _ => rfl) ?_
        refine cr_gf (v := .ref (a + 5)) d_6_62 cw_6 cf_0_26 hC.1.1 hC.1.2 (by decide) hC.2.2.2.2.2.2.2.2 ?_
        refine cr_nx (pc' := 67) (al' := [some (.ref a), some (.ref b), some (.int (nI f)), some (.int (nI t)), some (.int (nI d)), some (.int (nI i)), some (.int (nI k))]) (st' := [.int (nI d), .ref (a + 5), .int (nI p)]) d_6_65 (fun _ => rfl) ?_
        refine cn_ic (v := 1) d_6_67 (by decide) ?_
        refine cn_add d_6_68  ?_
        refine cr_ia (a := (a + 5)) (v := (nI q)) d_6_69 hC.2.2.2.2.1.1 hC.2.2.2.2.1.2 (by first | decide | omega) (show d + 1 < 33 by first | omega | assumption | exact cu_36 (by omega) (cu_lt (by omega) (by omega))) hq ?_
        refine cn_ceq (t := 75) d_6_70 (by decide) (by first | omega | assumption | exact cu_36 (by omega) (cu_lt (by omega) (by omega))) (by first | omega | assumption | exact cu_36 (by omega) (cu_lt (by omega) (by omega))) (fun c70 => ?_) (fun c70 => ?_)
        · omega
        · refine cn_ic (v := 0) d_6_73 (by decide) ?_
          exact cr_ri d_6_74 cx_6 (by decide) ⟨rfl, rfl, rfl, rfl, rfl, rfl⟩
    · omega
theorem k_as_z {S : CS} {G : Nat → Nat → Value} {B : Nat → Nat → Int32} {J : Nat → Nat → Int64} {R : Nat → Nat → Option Nat} {a b f t i : Nat} {top : Int32} (hi : i = t) (ht : t ≤ 100000) : CR 1 6 6 [some (.ref a), some (.ref b), some (.int (nI f)), some (.int (nI t)), some (.int top), some (.int (nI i)), none] [] S G B J R (cP (some (.int (nI 1))) S G B J R) := by
  refine cr_nx (pc' := 8) (al' := [some (.ref a), some (.ref b), some (.int (nI f)), some (.int (nI t)), some (.int top), some (.int (nI i)), none]) (st' := [.int (nI i)]) d_6_6 (fun _ => rfl) ?_
  refine cr_nx (pc' := 9) (al' := [some (.ref a), some (.ref b), some (.int (nI f)), some (.int (nI t)), some (.int top), some (.int (nI i)), none]) (st' := [.int (nI t), .int (nI i)]) d_6_8 (fun _ => rfl) ?_
  refine cn_cge (t := 122) d_6_9 (by decide) (by first | omega | assumption | exact cu_36 (by omega) (cu_lt (by omega) (by omega))) (by first | omega | assumption | exact cu_36 (by omega) (cu_lt (by omega) (by omega))) (fun c9 => ?_) (fun c9 => ?_)
  · refine cn_ic (v := 1) d_6_122 (by decide) ?_
    exact cr_ri d_6_123 cx_6 (by decide) ⟨rfl, rfl, rfl, rfl, rfl, rfl⟩
  · omega
