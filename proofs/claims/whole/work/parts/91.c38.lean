/-! Calls: count; printed by wip/whole/gen_c38.py. -/
def tcF (K : Core) (i : Nat) : Nat := if 1 ≤ (tbK K i).1 then 1 else 0
def ccF (T : Nat → Option Nat) (i : Nat) : Nat := if T i = none then 0 else 1
theorem td_12 {w : Int32} (hw : ¬ inP w 12) : w.toInt < 0 ∨ 11 < w.toInt := by
  unfold inP at hw
  omega
theorem k_tableCount {S : CS} {G : Nat → Nat → Value} {B : Nat → Nat → Int32} {J : Nat → Nat → Int64} {R : Nat → Nat → Option Nat} {K : Core} {ta ka : Nat → Nat} (hS : ShOk S) (hF : FxG G) (hH : HiC S G B R 3 (kH K) (kC K) (kD K) (kT K) ta ka) (hO : CoOk K) : CR 0 87 0 [some (.ref 3), none, none] [] S G B J R (cP (some (.int (nI (SM (tcF K) 6)))) S G B J R) := by
  refine cn_ic (v := 0) d_87_0 (by decide) ?_
  refine cr_nx (pc' := 2) (al' := [some (.ref 3), some (.int (nI 0)), none]) (st' := []) d_87_1 (fun _ => rfl) ?_
  refine cn_ic (v := 0) d_87_2 (by decide) ?_
  refine cr_nx (pc' := 4) (al' := [some (.ref 3), some (.int (nI 0)), some (.int (nI 0))]) (st' := []) d_87_3 (fun _ => rfl) ?_
  refine cr_al (congrArg (fun z__ : Nat => ([some (.ref 3), some (.int (nI z__)), some (.int (nI 0))] : AL)) (show 0 = SM (tcF K) 0 by rfl)) ?_
  refine cr_up (al := fun i => [some (.ref 3), some (.int (nI (SM (tcF K) i))), some (.int (nI i))]) (S := fun i => S) (G := fun i => G) (B := fun i => B) (J := fun i => J) (R := fun i => R) (P := fun i => True) (n := 6) (fun i hi pi ihi => ?_) (fun pi => ?_) 0  (by omega) (trivial)
  · show CR _ _ 4 [some (.ref 3), some (.int (nI (SM (tcF K) i))), some (.int (nI i))] [] S G B J R _
    refine cr_nx (pc' := 5) (al' := [some (.ref 3), some (.int (nI (SM (tcF K) i))), some (.int (nI i))]) (st' := [.int (nI i)]) d_87_4 (fun _ => rfl) ?_
    refine cn_bp (v := 6) d_87_5 (by decide) ?_
    refine cn_cge (t := 31) d_87_7 (by decide) (by first | omega | assumption | exact cu_36 (by omega) (cu_lt (by omega) (by omega))) (by first | omega | assumption | exact cu_36 (by omega) (cu_lt (by omega) (by omega))) (fun c7 => ?_) (fun c7 => ?_)
    · omega
    · refine cr_nx (pc' := 11) (al' := [some (.ref 3), some (.int (nI (SM (tcF K) i))), some (.int (nI i))]) (st' := [.ref 3]) d_87_10 (fun _ => rfl) ?_
      refine cr_gf (v := .ref 4) d_87_11 cw_87 cf_9_11 (hS.i (a := 3) (by decide) (by decide)) (hS.s (a := 3) (by decide) (by decide) rfl) (by decide) (fx_3_0 hF) ?_
      refine cr_nx (pc' := 15) (al' := [some (.ref 3), some (.int (nI (SM (tcF K) i))), some (.int (nI i))]) (st' := [.int (nI i), .ref 4]) d_87_14 (fun _ => rfl) ?_
      refine cr_aa (a := 4) (v := .ref (ta i)) d_87_15 (hS.i (a := 4) (by decide) (by decide)) (by decide) (hS.s (a := 4) (by decide) (by decide) rfl) (by decide) (show i < 6 by first | omega | assumption | exact cu_36 (by omega) (cu_lt (by omega) (by omega))) (show va_rf _ = _ by rw [(hH.2.1 i hi).1]; rfl) ?_
      refine cr_gf (v := .int (nI ((tbK K i).1))) d_87_16 cw_87 cf_9_64 (hH.ta hi).1 (hH.ta hi).2.2.1 (by decide) (hH.2.2.2.2.2.2.1 i hi).1 ?_
      refine cn_zle (t := 25) d_87_19 (by decide) (by have := (tb_ok hO hi).1; omega) (fun c19 => ?_) (fun c19 => ?_)
      · refine cn_inc d_87_25 rfl rfl ?_
        show CR _ _ 28 [some (.ref 3), some (.int (nI (SM (tcF K) i))), some (.int (nI (i + 1)))] [] S G B J R _
        refine cr_nx (pc' := 4) (al' := [some (.ref 3), some (.int (nI (SM (tcF K) i))), some (.int (nI (i + 1)))]) (st' := []) d_87_28 (fun _ => rfl) ?_
        refine cr_al (congrArg (fun z__ : Nat => ([some (.ref 3), some (.int (nI z__)), some (.int (nI (i + 1)))] : AL)) (show SM (tcF K) i = SM (tcF K) (i + 1) by rw [SM_s, tcF, if_neg (by omega)]; rfl)) ?_
        exact ihi  (trivial)
      · refine cn_inc d_87_22 rfl rfl ?_
        show CR _ _ 25 [some (.ref 3), some (.int (nI ((SM (tcF K) i) + 1))), some (.int (nI i))] [] S G B J R _
        refine cn_inc d_87_25 rfl rfl ?_
        show CR _ _ 28 [some (.ref 3), some (.int (nI ((SM (tcF K) i) + 1))), some (.int (nI (i + 1)))] [] S G B J R _
        refine cr_nx (pc' := 4) (al' := [some (.ref 3), some (.int (nI ((SM (tcF K) i) + 1))), some (.int (nI (i + 1)))]) (st' := []) d_87_28 (fun _ => rfl) ?_
        refine cr_al (congrArg (fun z__ : Nat => ([some (.ref 3), some (.int (nI z__)), some (.int (nI (i + 1)))] : AL)) (show (SM (tcF K) i) + 1 = SM (tcF K) (i + 1) by rw [SM_s, tcF, if_pos (by omega)])) ?_
        exact ihi  (trivial)
  · show CR _ _ 4 [some (.ref 3), some (.int (nI (SM (tcF K) 6))), some (.int (nI 6))] [] S G B J R _
    refine cr_nx (pc' := 5) (al' := [some (.ref 3), some (.int (nI (SM (tcF K) 6))), some (.int (nI 6))]) (st' := [.int (nI 6)]) d_87_4 (fun _ => rfl) ?_
    refine cn_bp (v := 6) d_87_5 (by decide) ?_
    refine cn_cge (t := 31) d_87_7 (by decide) (by first | omega | assumption | exact cu_36 (by omega) (cu_lt (by omega) (by omega))) (by first | omega | assumption | exact cu_36 (by omega) (cu_lt (by omega) (by omega))) (fun c7 => ?_) (fun c7 => ?_)
    · refine cr_nx (pc' := 32) (al' := [some (.ref 3), some (.int (nI (SM (tcF K) 6))), some (.int (nI 6))]) (st' := [.int (nI (SM (tcF K) 6))]) d_87_31 (fun _ => rfl) ?_
      exact cr_ri d_87_32 cx_87 rfl ⟨rfl, rfl, rfl, rfl, rfl, rfl⟩
    · omega
theorem k_clueCount {S : CS} {G : Nat → Nat → Value} {B : Nat → Nat → Int32} {J : Nat → Nat → Int64} {R : Nat → Nat → Option Nat} {m : Nat} {T : Nat → Option Nat} (hS : ShOk S) (hF : FxG G) (hs3 : G 3 3 = .int (nI m)) (hm : m ≤ 6) (hT : ∀ q u, T q = some u → u < 6) (hbd : ∀ q, q < m * m → B 6 q = oI (T q)) : CR 0 88 0 [some (.ref 3), none, none] [] S G B J R (cP (some (.int (nI (SM (ccF T) (m * m))))) S G B J R) := by
  have h36 := Nat.mul_le_mul hm hm
  refine cn_ic (v := 0) d_88_0 (by decide) ?_
  refine cr_nx (pc' := 2) (al' := [some (.ref 3), some (.int (nI 0)), none]) (st' := []) d_88_1 (fun _ => rfl) ?_
  refine cn_ic (v := 0) d_88_2 (by decide) ?_
  refine cr_nx (pc' := 4) (al' := [some (.ref 3), some (.int (nI 0)), some (.int (nI 0))]) (st' := []) d_88_3 (fun _ => rfl) ?_
  refine cr_al (congrArg (fun z__ : Nat => ([some (.ref 3), some (.int (nI z__)), some (.int (nI 0))] : AL)) (show 0 = SM (ccF T) 0 by rfl)) ?_
  refine cr_up (al := fun i => [some (.ref 3), some (.int (nI (SM (ccF T) i))), some (.int (nI i))]) (S := fun i => S) (G := fun i => G) (B := fun i => B) (J := fun i => J) (R := fun i => R) (P := fun i => True) (n := m * m) (fun i hi pi ihi => ?_) (fun pi => ?_) 0  (by omega) (trivial)
  · show CR _ _ 4 [some (.ref 3), some (.int (nI (SM (ccF T) i))), some (.int (nI i))] [] S G B J R _
    refine cr_nx (pc' := 5) (al' := [some (.ref 3), some (.int (nI (SM (ccF T) i))), some (.int (nI i))]) (st' := [.int (nI i)]) d_88_4 (fun _ => rfl) ?_
    refine cr_nx (pc' := 6) (al' := [some (.ref 3), some (.int (nI (SM (ccF T) i))), some (.int (nI i))]) (st' := [.ref 3, .int (nI i)]) d_88_5 (fun _ => rfl) ?_
    refine cr_gf (v := .int (nI m)) d_88_6 cw_88 cf_9_42 (hS.i (a := 3) (by decide) (by decide)) (hS.s (a := 3) (by decide) (by decide) rfl) (by decide) hs3 ?_
    refine cr_nx (pc' := 10) (al' := [some (.ref 3), some (.int (nI (SM (ccF T) i))), some (.int (nI i))]) (st' := [.ref 3, .int (nI m), .int (nI i)]) d_88_9 (fun _ => rfl) ?_
    refine cr_gf (v := .int (nI m)) d_88_10 cw_88 cf_9_42 (hS.i (a := 3) (by decide) (by decide)) (hS.s (a := 3) (by decide) (by decide) rfl) (by decide) hs3 ?_
    refine cn_mul d_88_13  ?_
    refine cn_cge (t := 36) d_88_14 (by decide) (by omega) (by omega) (fun c14 => ?_) (fun c14 => ?_)
    · omega
    · refine cr_nx (pc' := 18) (al' := [some (.ref 3), some (.int (nI (SM (ccF T) i))), some (.int (nI i))]) (st' := [.ref 3]) d_88_17 (fun _ => rfl) ?_
      refine cr_gf (v := .ref 6) d_88_18 cw_88 cf_9_23 (hS.i (a := 3) (by decide) (by decide)) (hS.s (a := 3) (by decide) (by decide) rfl) (by decide) (fx_3_4 hF) ?_
      refine cr_nx (pc' := 22) (al' := [some (.ref 3), some (.int (nI (SM (ccF T) i))), some (.int (nI i))]) (st' := [.int (nI i), .ref 6]) d_88_21 (fun _ => rfl) ?_
      refine cr_ia (a := 6) (v := (oI (T i))) d_88_22 (hS.i (a := 6) (by decide) (by decide)) (hS.s (a := 6) (by decide) (by decide) rfl) (by first | decide | omega) (show i < 36 by omega) (hbd i hi) ?_
      refine cr_nx (pc' := 24) (al' := [some (.ref 3), some (.int (nI (SM (ccF T) i))), some (.int (nI i))]) (st' := [.int (-1), .int (oI (T i))]) d_88_23 (fun _ => rfl) ?_
      refine cr_ceq (t := 30) d_88_24 (by decide) (fun c24 => ?_) (fun c24 => ?_)
      · refine cn_inc d_88_30 rfl rfl ?_
        show CR _ _ 33 [some (.ref 3), some (.int (nI (SM (ccF T) i))), some (.int (nI (i + 1)))] [] S G B J R _
        refine cr_nx (pc' := 4) (al' := [some (.ref 3), some (.int (nI (SM (ccF T) i))), some (.int (nI (i + 1)))]) (st' := []) d_88_33 (fun _ => rfl) ?_
        refine cr_al (congrArg (fun z__ : Nat => ([some (.ref 3), some (.int (nI z__)), some (.int (nI (i + 1)))] : AL)) (show SM (ccF T) i = SM (ccF T) (i + 1) by rw [SM_s, ccF, if_pos ((oI_n (hT i)).mp c24)]; rfl)) ?_
        exact ihi  (trivial)
      · refine cn_inc d_88_27 rfl rfl ?_
        show CR _ _ 30 [some (.ref 3), some (.int (nI ((SM (ccF T) i) + 1))), some (.int (nI i))] [] S G B J R _
        refine cn_inc d_88_30 rfl rfl ?_
        show CR _ _ 33 [some (.ref 3), some (.int (nI ((SM (ccF T) i) + 1))), some (.int (nI (i + 1)))] [] S G B J R _
        refine cr_nx (pc' := 4) (al' := [some (.ref 3), some (.int (nI ((SM (ccF T) i) + 1))), some (.int (nI (i + 1)))]) (st' := []) d_88_33 (fun _ => rfl) ?_
        refine cr_al (congrArg (fun z__ : Nat => ([some (.ref 3), some (.int (nI z__)), some (.int (nI (i + 1)))] : AL)) (show (SM (ccF T) i) + 1 = SM (ccF T) (i + 1) by rw [SM_s, ccF, if_neg (fun e_ => c24 ((oI_n (hT i)).mpr e_))])) ?_
        exact ihi  (trivial)
  · show CR _ _ 4 [some (.ref 3), some (.int (nI (SM (ccF T) (m * m)))), some (.int (nI (m * m)))] [] S G B J R _
    refine cr_nx (pc' := 5) (al' := [some (.ref 3), some (.int (nI (SM (ccF T) (m * m)))), some (.int (nI (m * m)))]) (st' := [.int (nI (m * m))]) d_88_4 (fun _ => rfl) ?_
    refine cr_nx (pc' := 6) (al' := [some (.ref 3), some (.int (nI (SM (ccF T) (m * m)))), some (.int (nI (m * m)))]) (st' := [.ref 3, .int (nI (m * m))]) d_88_5 (fun _ => rfl) ?_
    refine cr_gf (v := .int (nI m)) d_88_6 cw_88 cf_9_42 (hS.i (a := 3) (by decide) (by decide)) (hS.s (a := 3) (by decide) (by decide) rfl) (by decide) hs3 ?_
    refine cr_nx (pc' := 10) (al' := [some (.ref 3), some (.int (nI (SM (ccF T) (m * m)))), some (.int (nI (m * m)))]) (st' := [.ref 3, .int (nI m), .int (nI (m * m))]) d_88_9 (fun _ => rfl) ?_
    refine cr_gf (v := .int (nI m)) d_88_10 cw_88 cf_9_42 (hS.i (a := 3) (by decide) (by decide)) (hS.s (a := 3) (by decide) (by decide) rfl) (by decide) hs3 ?_
    refine cn_mul d_88_13  ?_
    refine cn_cge (t := 36) d_88_14 (by decide) (by omega) (by omega) (fun c14 => ?_) (fun c14 => ?_)
    · refine cr_nx (pc' := 37) (al' := [some (.ref 3), some (.int (nI (SM (ccF T) (m * m)))), some (.int (nI (m * m)))]) (st' := [.int (nI (SM (ccF T) (m * m)))]) d_88_36 (fun _ => rfl) ?_
      exact cr_ri d_88_37 cx_88 rfl ⟨rfl, rfl, rfl, rfl, rfl, rfl⟩
    · omega
theorem r_count_88 {g : Nat → Int32} {A : Nat → Nat → Int32} {n : Nat} {W : WS} (hW : WR n g A W) (hO : CoOk (wK W)) {v : Int32} {Q : Option Value → (Nat → Int32) → (Nat → Nat → Int32) → Prop} (hk : RR 80 288 88 [some (.ref 146), some (.int v), some (.int (nI (SM (tcF (wK W)) 6))), some (.int (nI (SM (ccF (kB (wK W))) (kS (wK W) * kS (wK W))))), none] [] g A Q) : RR 80 288 0 [some (.ref 146), some (.int v), none, none, none] [] g A Q := by
  have hS6 := hO.2.2.2.1
  have h36 := Nat.mul_le_mul hS6 hS6
  have hT : ∀ q u, kB (wK W) q = some u → u < 6 := fun q u e => by have := (hO.2.2.2.2 q u e).2; omega
  refine rn_ic (v := 0) d_288_0 (by decide) ?_
  refine rr_nx (pc' := 2) (al' := [some (.ref 146), some (.int v), some (.int (nI 0)), none, none]) (st' := []) d_288_1 (fun _ => rfl) ?_
  refine rn_ic (v := 0) d_288_2 (by decide) ?_
  refine rr_nx (pc' := 4) (al' := [some (.ref 146), some (.int v), some (.int (nI 0)), some (.int (nI 0)), none]) (st' := []) d_288_3 (fun _ => rfl) ?_
  refine rr_al (congrArg (fun z__ : Nat => ([some (.ref 146), some (.int v), some (.int (nI z__)), some (.int (nI 0)), none] : AL)) (show 0 = SM (tcF (wK W)) 0 by rfl)) ?_
  refine rr_up (al := fun i => [some (.ref 146), some (.int v), some (.int (nI (SM (tcF (wK W)) i))), some (.int (nI i)), none]) (G := fun i => g) (B := fun i => A) (P := fun i => True) (n := 6) (fun i hi pi ihi => ?_) (fun pi => ?_) 0  (by omega) (trivial)
  · show RR _ _ 4 [some (.ref 146), some (.int v), some (.int (nI (SM (tcF (wK W)) i))), some (.int (nI i)), none] [] g A _
    refine rr_nx (pc' := 5) (al' := [some (.ref 146), some (.int v), some (.int (nI (SM (tcF (wK W)) i))), some (.int (nI i)), none]) (st' := [.int (nI i)]) d_288_4 (fun _ => rfl) ?_
    refine rn_bp (v := 6) d_288_5 (by decide) ?_
    refine rn_cge (t := 32) d_288_7 (by decide) (by first | omega | assumption | exact cu_36 (by omega) (cu_lt (by omega) (by omega))) (by first | omega | assumption | exact cu_36 (by omega) (cu_lt (by omega) (by omega))) (fun c7 => ?_) (fun c7 => ?_)
    · omega
    · refine rr_nx (pc' := 11) (al' := [some (.ref 146), some (.int v), some (.int (nI (SM (tcF (wK W)) i))), some (.int (nI i)), none]) (st' := [.int (nI (SM (tcF (wK W)) i))]) d_288_10 (fun _ => rfl) ?_
      refine rr_nx (pc' := 12) (al' := [some (.ref 146), some (.int v), some (.int (nI (SM (tcF (wK W)) i))), some (.int (nI i)), none]) (st' := [.ref 146, .int (nI (SM (tcF (wK W)) i))]) d_288_11 (fun _ => rfl) ?_
      refine rr_nx (pc' := 13) (al' := [some (.ref 146), some (.int v), some (.int (nI (SM (tcF (wK W)) i))), some (.int (nI i)), none]) (st' := [.int (nI i), .ref 146, .int (nI (SM (tcF (wK W)) i))]) d_288_12 (fun _ => rfl) ?_
      refine rr_pv (as := [.int (nI i)]) (al0 := [some (.ref 146), some (.int (nI i))]) (r := [.int (nI (SM (tcF (wK W)) i))]) d_288_13 mo_288 ml_124 mz_184 rfl rfl rfl (Nat.le_of_ble_eq_true rfl) (s_isTable (nI i)) ?_
      show RR _ _ 16 [some (.ref 146), some (.int v), some (.int (nI (SM (tcF (wK W)) i))), some (.int (nI i)), none] [.int (bI (isT A (nI i))), .int (nI (SM (tcF (wK W)) i))] g A _
      refine rr_beq (t := 23) d_288_16 (by decide) (fun c16 => ?_) (fun c16 => ?_)
      · refine rn_ic (v := 0) d_288_23 (by decide) ?_
        refine rn_add d_288_24  ?_
        refine rr_nx (pc' := 26) (al' := [some (.ref 146), some (.int v), some (.int (nI ((SM (tcF (wK W)) i) + 0))), some (.int (nI i)), none]) (st' := []) d_288_25 (fun _ => rfl) ?_
        refine rn_inc d_288_26 rfl rfl ?_
        show RR _ _ 29 [some (.ref 146), some (.int v), some (.int (nI ((SM (tcF (wK W)) i) + 0))), some (.int (nI (i + 1))), none] [] g A _
        refine rr_nx (pc' := 4) (al' := [some (.ref 146), some (.int v), some (.int (nI ((SM (tcF (wK W)) i) + 0))), some (.int (nI (i + 1))), none]) (st' := []) d_288_29 (fun _ => rfl) ?_
        refine rr_al (congrArg (fun z__ : Nat => ([some (.ref 146), some (.int v), some (.int (nI z__)), some (.int (nI (i + 1))), none] : AL)) (show (SM (tcF (wK W)) i) + 0 = SM (tcF (wK W)) (i + 1) by rw [SM_s, tcF, if_neg (fun e_ => c16 ((has_r hW hO).mpr ((has_i hi).mpr e_)))])) ?_
        exact ihi  (trivial)
      · refine rn_ic (v := 1) d_288_19 (by decide) ?_
        refine rr_nx (pc' := 24) (al' := [some (.ref 146), some (.int v), some (.int (nI (SM (tcF (wK W)) i))), some (.int (nI i)), none]) (st' := [.int (nI 1), .int (nI (SM (tcF (wK W)) i))]) d_288_20 (fun _ => rfl) ?_
        refine rn_add d_288_24  ?_
        refine rr_nx (pc' := 26) (al' := [some (.ref 146), some (.int v), some (.int (nI ((SM (tcF (wK W)) i) + 1))), some (.int (nI i)), none]) (st' := []) d_288_25 (fun _ => rfl) ?_
        refine rn_inc d_288_26 rfl rfl ?_
        show RR _ _ 29 [some (.ref 146), some (.int v), some (.int (nI ((SM (tcF (wK W)) i) + 1))), some (.int (nI (i + 1))), none] [] g A _
        refine rr_nx (pc' := 4) (al' := [some (.ref 146), some (.int v), some (.int (nI ((SM (tcF (wK W)) i) + 1))), some (.int (nI (i + 1))), none]) (st' := []) d_288_29 (fun _ => rfl) ?_
        refine rr_al (congrArg (fun z__ : Nat => ([some (.ref 146), some (.int v), some (.int (nI z__)), some (.int (nI (i + 1))), none] : AL)) (show (SM (tcF (wK W)) i) + 1 = SM (tcF (wK W)) (i + 1) by rw [SM_s, tcF, if_pos ((has_i hi).mp ((has_r hW hO).mp c16))])) ?_
        exact ihi  (trivial)
  · show RR _ _ 4 [some (.ref 146), some (.int v), some (.int (nI (SM (tcF (wK W)) 6))), some (.int (nI 6)), none] [] g A _
    refine rr_nx (pc' := 5) (al' := [some (.ref 146), some (.int v), some (.int (nI (SM (tcF (wK W)) 6))), some (.int (nI 6)), none]) (st' := [.int (nI 6)]) d_288_4 (fun _ => rfl) ?_
    refine rn_bp (v := 6) d_288_5 (by decide) ?_
    refine rn_cge (t := 32) d_288_7 (by decide) (by first | omega | assumption | exact cu_36 (by omega) (cu_lt (by omega) (by omega))) (by first | omega | assumption | exact cu_36 (by omega) (cu_lt (by omega) (by omega))) (fun c7 => ?_) (fun c7 => ?_)
    · refine rn_ic (v := 0) d_288_32 (by decide) ?_
      refine rr_nx (pc' := 34) (al' := [some (.ref 146), some (.int v), some (.int (nI (SM (tcF (wK W)) 6))), some (.int (nI 0)), none]) (st' := []) d_288_33 (fun _ => rfl) ?_
      refine rn_ic (v := 0) d_288_34 (by decide) ?_
      refine rr_nx (pc' := 37) (al' := [some (.ref 146), some (.int v), some (.int (nI (SM (tcF (wK W)) 6))), some (.int (nI 0)), some (.int (nI 0))]) (st' := []) d_288_35 (fun _ => rfl) ?_
      refine rr_al (congrArg (fun z__ : Nat => ([some (.ref 146), some (.int v), some (.int (nI (SM (tcF (wK W)) 6))), some (.int (nI z__)), some (.int (nI 0))] : AL)) (show 0 = SM (ccF (kB (wK W))) 0 by rfl)) ?_
      refine rr_up (al := fun i2 => [some (.ref 146), some (.int v), some (.int (nI (SM (tcF (wK W)) 6))), some (.int (nI (SM (ccF (kB (wK W))) i2))), some (.int (nI i2))]) (G := fun i2 => g) (B := fun i2 => A) (P := fun i2 => True) (n := kS (wK W) * kS (wK W)) (fun i2 hi2 pi2 ihi2 => ?_) (fun pi2 => ?_) 0  (by omega) (trivial)
      · show RR _ _ 37 [some (.ref 146), some (.int v), some (.int (nI (SM (tcF (wK W)) 6))), some (.int (nI (SM (ccF (kB (wK W))) i2))), some (.int (nI i2))] [] g A _
        refine rr_nx (pc' := 39) (al' := [some (.ref 146), some (.int v), some (.int (nI (SM (tcF (wK W)) 6))), some (.int (nI (SM (ccF (kB (wK W))) i2))), some (.int (nI i2))]) (st' := [.int (nI i2)]) d_288_37 (fun _ => rfl) ?_
        refine rr_nx (pc' := 40) (al' := [some (.ref 146), some (.int v), some (.int (nI (SM (tcF (wK W)) 6))), some (.int (nI (SM (ccF (kB (wK W))) i2))), some (.int (nI i2))]) (st' := [.ref 146, .int (nI i2)]) d_288_39 (fun _ => rfl) ?_
        refine rr_gf (v := .ref (147 + 1)) d_288_40 mo_288 fl_13 rfl ?_
        refine rn_sp (v := 222) d_288_43 (by decide) ?_
        refine rr_ia (j := 1) (v := (nI (kS (wK W)))) d_288_46 (by decide) rfl (by decide) (show 222 < 5720 by first | omega | assumption | exact cu_36 (by omega) (cu_lt (by omega) (by omega))) hW.1.2.2.2.1 ?_
        refine rr_nx (pc' := 48) (al' := [some (.ref 146), some (.int v), some (.int (nI (SM (tcF (wK W)) 6))), some (.int (nI (SM (ccF (kB (wK W))) i2))), some (.int (nI i2))]) (st' := [.ref 146, .int (nI (kS (wK W))), .int (nI i2)]) d_288_47 (fun _ => rfl) ?_
        refine rr_gf (v := .ref (147 + 1)) d_288_48 mo_288 fl_13 rfl ?_
        refine rn_sp (v := 222) d_288_51 (by decide) ?_
        refine rr_ia (j := 1) (v := (nI (kS (wK W)))) d_288_54 (by decide) rfl (by decide) (show 222 < 5720 by first | omega | assumption | exact cu_36 (by omega) (cu_lt (by omega) (by omega))) hW.1.2.2.2.1 ?_
        refine rn_mul d_288_55  ?_
        refine rn_cge (t := 88) d_288_56 (by decide) (by omega) (by omega) (fun c56 => ?_) (fun c56 => ?_)
        · omega
        · refine rr_nx (pc' := 60) (al' := [some (.ref 146), some (.int v), some (.int (nI (SM (tcF (wK W)) 6))), some (.int (nI (SM (ccF (kB (wK W))) i2))), some (.int (nI i2))]) (st' := [.int (nI (SM (ccF (kB (wK W))) i2))]) d_288_59 (fun _ => rfl) ?_
          refine rr_nx (pc' := 61) (al' := [some (.ref 146), some (.int v), some (.int (nI (SM (tcF (wK W)) 6))), some (.int (nI (SM (ccF (kB (wK W))) i2))), some (.int (nI i2))]) (st' := [.ref 146, .int (nI (SM (ccF (kB (wK W))) i2))]) d_288_60 (fun _ => rfl) ?_
          refine rr_gf (v := .ref (147 + 1)) d_288_61 mo_288 fl_13 rfl ?_
          refine rn_sp (v := 223) d_288_64 (by decide) ?_
          refine rr_nx (pc' := 69) (al' := [some (.ref 146), some (.int v), some (.int (nI (SM (tcF (wK W)) 6))), some (.int (nI (SM (ccF (kB (wK W))) i2))), some (.int (nI i2))]) (st' := [.int (nI i2), .int (nI 223), .ref (147 + 1), .int (nI (SM (ccF (kB (wK W))) i2))]) d_288_67 (fun _ => rfl) ?_
          refine rn_add d_288_69  ?_
          refine rr_ia (j := 1) (v := (oI (kB (wK W) i2))) d_288_70 (by decide) rfl (by decide) (show 223 + i2 < 5720 by omega) (hW.1.2.2.2.2 i2 hi2) ?_
          refine rr_nx (pc' := 72) (al' := [some (.ref 146), some (.int v), some (.int (nI (SM (tcF (wK W)) 6))), some (.int (nI (SM (ccF (kB (wK W))) i2))), some (.int (nI i2))]) (st' := [.int (-1), .int (oI (kB (wK W) i2)), .int (nI (SM (ccF (kB (wK W))) i2))]) d_288_71 (fun _ => rfl) ?_
          refine rr_cne (t := 79) d_288_72 (by decide) (fun c72 => ?_) (fun c72 => ?_)
          · refine rn_ic (v := 1) d_288_79 (by decide) ?_
            refine rn_add d_288_80  ?_
            refine rr_nx (pc' := 82) (al' := [some (.ref 146), some (.int v), some (.int (nI (SM (tcF (wK W)) 6))), some (.int (nI ((SM (ccF (kB (wK W))) i2) + 1))), some (.int (nI i2))]) (st' := []) d_288_81 (fun _ => rfl) ?_
            refine rn_inc d_288_82 rfl rfl ?_
            show RR _ _ 85 [some (.ref 146), some (.int v), some (.int (nI (SM (tcF (wK W)) 6))), some (.int (nI ((SM (ccF (kB (wK W))) i2) + 1))), some (.int (nI (i2 + 1)))] [] g A _
            refine rr_nx (pc' := 37) (al' := [some (.ref 146), some (.int v), some (.int (nI (SM (tcF (wK W)) 6))), some (.int (nI ((SM (ccF (kB (wK W))) i2) + 1))), some (.int (nI (i2 + 1)))]) (st' := []) d_288_85 (fun _ => rfl) ?_
            refine rr_al (congrArg (fun z__ : Nat => ([some (.ref 146), some (.int v), some (.int (nI (SM (tcF (wK W)) 6))), some (.int (nI z__)), some (.int (nI (i2 + 1)))] : AL)) (show (SM (ccF (kB (wK W))) i2) + 1 = SM (ccF (kB (wK W))) (i2 + 1) by rw [SM_s, ccF, if_neg (fun e_ => c72 ((oI_n (hT i2)).mpr e_))])) ?_
            exact ihi2  (trivial)
          · refine rn_ic (v := 0) d_288_75 (by decide) ?_
            refine rr_nx (pc' := 80) (al' := [some (.ref 146), some (.int v), some (.int (nI (SM (tcF (wK W)) 6))), some (.int (nI (SM (ccF (kB (wK W))) i2))), some (.int (nI i2))]) (st' := [.int (nI 0), .int (nI (SM (ccF (kB (wK W))) i2))]) d_288_76 (fun _ => rfl) ?_
            refine rn_add d_288_80  ?_
            refine rr_nx (pc' := 82) (al' := [some (.ref 146), some (.int v), some (.int (nI (SM (tcF (wK W)) 6))), some (.int (nI ((SM (ccF (kB (wK W))) i2) + 0))), some (.int (nI i2))]) (st' := []) d_288_81 (fun _ => rfl) ?_
            refine rn_inc d_288_82 rfl rfl ?_
            show RR _ _ 85 [some (.ref 146), some (.int v), some (.int (nI (SM (tcF (wK W)) 6))), some (.int (nI ((SM (ccF (kB (wK W))) i2) + 0))), some (.int (nI (i2 + 1)))] [] g A _
            refine rr_nx (pc' := 37) (al' := [some (.ref 146), some (.int v), some (.int (nI (SM (tcF (wK W)) 6))), some (.int (nI ((SM (ccF (kB (wK W))) i2) + 0))), some (.int (nI (i2 + 1)))]) (st' := []) d_288_85 (fun _ => rfl) ?_
            refine rr_al (congrArg (fun z__ : Nat => ([some (.ref 146), some (.int v), some (.int (nI (SM (tcF (wK W)) 6))), some (.int (nI z__)), some (.int (nI (i2 + 1)))] : AL)) (show (SM (ccF (kB (wK W))) i2) + 0 = SM (ccF (kB (wK W))) (i2 + 1) by rw [SM_s, ccF, if_pos ((oI_n (hT i2)).mp c72)])) ?_
            exact ihi2  (trivial)
      · show RR _ _ 37 [some (.ref 146), some (.int v), some (.int (nI (SM (tcF (wK W)) 6))), some (.int (nI (SM (ccF (kB (wK W))) (kS (wK W) * kS (wK W))))), some (.int (nI (kS (wK W) * kS (wK W))))] [] g A _
        refine rr_nx (pc' := 39) (al' := [some (.ref 146), some (.int v), some (.int (nI (SM (tcF (wK W)) 6))), some (.int (nI (SM (ccF (kB (wK W))) (kS (wK W) * kS (wK W))))), some (.int (nI (kS (wK W) * kS (wK W))))]) (st' := [.int (nI (kS (wK W) * kS (wK W)))]) d_288_37 (fun _ => rfl) ?_
        refine rr_nx (pc' := 40) (al' := [some (.ref 146), some (.int v), some (.int (nI (SM (tcF (wK W)) 6))), some (.int (nI (SM (ccF (kB (wK W))) (kS (wK W) * kS (wK W))))), some (.int (nI (kS (wK W) * kS (wK W))))]) (st' := [.ref 146, .int (nI (kS (wK W) * kS (wK W)))]) d_288_39 (fun _ => rfl) ?_
        refine rr_gf (v := .ref (147 + 1)) d_288_40 mo_288 fl_13 rfl ?_
        refine rn_sp (v := 222) d_288_43 (by decide) ?_
        refine rr_ia (j := 1) (v := (nI (kS (wK W)))) d_288_46 (by decide) rfl (by decide) (show 222 < 5720 by first | omega | assumption | exact cu_36 (by omega) (cu_lt (by omega) (by omega))) hW.1.2.2.2.1 ?_
        refine rr_nx (pc' := 48) (al' := [some (.ref 146), some (.int v), some (.int (nI (SM (tcF (wK W)) 6))), some (.int (nI (SM (ccF (kB (wK W))) (kS (wK W) * kS (wK W))))), some (.int (nI (kS (wK W) * kS (wK W))))]) (st' := [.ref 146, .int (nI (kS (wK W))), .int (nI (kS (wK W) * kS (wK W)))]) d_288_47 (fun _ => rfl) ?_
        refine rr_gf (v := .ref (147 + 1)) d_288_48 mo_288 fl_13 rfl ?_
        refine rn_sp (v := 222) d_288_51 (by decide) ?_
        refine rr_ia (j := 1) (v := (nI (kS (wK W)))) d_288_54 (by decide) rfl (by decide) (show 222 < 5720 by first | omega | assumption | exact cu_36 (by omega) (cu_lt (by omega) (by omega))) hW.1.2.2.2.1 ?_
        refine rn_mul d_288_55  ?_
        refine rn_cge (t := 88) d_288_56 (by decide) (by omega) (by omega) (fun c56 => ?_) (fun c56 => ?_)
        · refine rr_dr (al1 := [some (.ref 146), some (.int v), some (.int (nI (SM (tcF (wK W)) 6))), some (.int (nI (SM (ccF (kB (wK W))) (kS (wK W) * kS (wK W))))), none]) (le_s (le_s (le_s (le_s (le_d rfl (le_n)))))) ?_
          exact hk
        · omega
    · omega
theorem p_count0 {S : CS} {G : Nat → Nat → Value} {B : Nat → Nat → Int32} {J : Nat → Nat → Int64} {R : Nat → Nat → Option Nat} {n : Nat} {W : WS} (hW : WC n S G B R W)  : CR 80 175 0 [some (.ref 2), some (.int (nI 0))] [] S G B J R (fun r S' G' B' J' R' => r = some (.int (nI (SM (tcF (wK W)) 6))) ∧ WC (n + 1) S' G' B' R' W) := by
  have hS := hW.1.1
  have hF := hW.2.1
  have hO := hW.2.2.2.1
  obtain ⟨ta, ka, la, hH, hLk, hl2, hs3, hbd⟩ := hW.2.2.1
  have hT : ∀ q u, kB (wK W) q = some u → u < 6 := fun q u e => by have := (hO.2.2.2.2 q u e).2; have := hO.2.2.2.1; omega
  refine cr_nx (pc' := 1) (al' := [some (.ref 2), some (.int (nI 0))]) (st' := [.int (nI 0)]) d_175_0 (fun _ => rfl) ?_
  refine cr_ts (off := 63) (t := 64) d_175_1 (by decide) (by decide) rfl (by decide) ?_
  refine cr_nx (pc' := 65) (al' := [some (.ref 2), some (.int (nI 0))]) (st' := [.ref 2]) d_175_64 (fun _ => rfl) ?_
  refine cr_gf (v := .ref 3) d_175_65 cw_175 cf_11_10 (hS.i (a := 2) (by decide) (by decide)) (hS.s (a := 2) (by decide) (by decide) rfl) (by decide) (fx_2_0 hF) ?_
  refine cr_pv (b := 3) (as := []) (al0 := [some (.ref 3), none, none]) (r := []) d_175_68 cw_175 cm_11_373 cz_87 rfl rfl (hS.i (a := 3) (by decide) (by decide)) (by rw [cw_87]; exact (hS.s (a := 3) (by decide) (by decide) rfl)) (by rw [cw_87]; decide) rfl (Nat.le_of_ble_eq_true rfl) (k_tableCount hS hF hH hO) ?_
  show CR _ _ 71 [some (.ref 2), some (.int (nI 0))] [.int (nI (SM (tcF (wK W)) 6))] S G B J R _
  exact cr_ri d_175_71 cx_175 rfl ⟨rfl, hW.mo⟩
theorem r_count0_b {g : Nat → Int32} {A : Nat → Nat → Int32} {n : Nat} {W : WS} (hW : WR n g A W) (hO : CoOk (wK W))  : RR 80 288 88 [some (.ref 146), some (.int (nI 0)), some (.int (nI (SM (tcF (wK W)) 6))), some (.int (nI (SM (ccF (kB (wK W))) (kS (wK W) * kS (wK W))))), none] [] g A (fun r g' A' => r = some (.int (nI (SM (tcF (wK W)) 6))) ∧ WR (n + 1) g' A' W) := by
  have hdt := hO.1.1
  have ht30 := hO.1.2.1
  refine rr_nx (pc' := 89) (al' := [some (.ref 146), some (.int (nI 0)), some (.int (nI (SM (tcF (wK W)) 6))), some (.int (nI (SM (ccF (kB (wK W))) (kS (wK W) * kS (wK W))))), none]) (st' := [.int (nI 0)]) d_288_88 (fun _ => rfl) ?_
  refine rr_ts (off := 63) (t := 152) d_288_89 (by decide) (by decide) rfl (by decide) ?_
  refine rr_nx (pc' := 153) (al' := [some (.ref 146), some (.int (nI 0)), some (.int (nI (SM (tcF (wK W)) 6))), some (.int (nI (SM (ccF (kB (wK W))) (kS (wK W) * kS (wK W))))), none]) (st' := [.int (nI (SM (tcF (wK W)) 6))]) d_288_152 (fun _ => rfl) ?_
  exact rr_ri d_288_153 mr_288 rfl ⟨rfl, hW.mo⟩
theorem p_count1 {S : CS} {G : Nat → Nat → Value} {B : Nat → Nat → Int32} {J : Nat → Nat → Int64} {R : Nat → Nat → Option Nat} {n : Nat} {W : WS} (hW : WC n S G B R W)  : CR 80 175 0 [some (.ref 2), some (.int (nI 1))] [] S G B J R (fun r S' G' B' J' R' => r = some (.int (nI (kL (wK W)))) ∧ WC (n + 1) S' G' B' R' W) := by
  have hS := hW.1.1
  have hF := hW.2.1
  have hO := hW.2.2.2.1
  obtain ⟨ta, ka, la, hH, hLk, hl2, hs3, hbd⟩ := hW.2.2.1
  have hT : ∀ q u, kB (wK W) q = some u → u < 6 := fun q u e => by have := (hO.2.2.2.2 q u e).2; have := hO.2.2.2.1; omega
  refine cr_nx (pc' := 1) (al' := [some (.ref 2), some (.int (nI 1))]) (st' := [.int (nI 1)]) d_175_0 (fun _ => rfl) ?_
  refine cr_ts (off := 71) (t := 72) d_175_1 (by decide) (by decide) rfl (by decide) ?_
  refine cr_nx (pc' := 73) (al' := [some (.ref 2), some (.int (nI 1))]) (st' := [.ref 2]) d_175_72 (fun _ => rfl) ?_
  refine cr_gf (v := .ref 3) d_175_73 cw_175 cf_11_10 (hS.i (a := 2) (by decide) (by decide)) (hS.s (a := 2) (by decide) (by decide) rfl) (by decide) (fx_2_0 hF) ?_
  refine cr_gf (v := .int (nI (kL (wK W)))) d_175_76 cw_175 cf_11_231 (hS.i (a := 3) (by decide) (by decide)) (hS.s (a := 3) (by decide) (by decide) rfl) (by decide) hl2 ?_
  exact cr_ri d_175_79 cx_175 rfl ⟨rfl, hW.mo⟩
theorem r_count1_b {g : Nat → Int32} {A : Nat → Nat → Int32} {n : Nat} {W : WS} (hW : WR n g A W) (hO : CoOk (wK W))  : RR 80 288 88 [some (.ref 146), some (.int (nI 1)), some (.int (nI (SM (tcF (wK W)) 6))), some (.int (nI (SM (ccF (kB (wK W))) (kS (wK W) * kS (wK W))))), none] [] g A (fun r g' A' => r = some (.int (nI (kL (wK W)))) ∧ WR (n + 1) g' A' W) := by
  have hdt := hO.1.1
  have ht30 := hO.1.2.1
  refine rr_nx (pc' := 89) (al' := [some (.ref 146), some (.int (nI 1)), some (.int (nI (SM (tcF (wK W)) 6))), some (.int (nI (SM (ccF (kB (wK W))) (kS (wK W) * kS (wK W))))), none]) (st' := [.int (nI 1)]) d_288_88 (fun _ => rfl) ?_
  refine rr_ts (off := 65) (t := 154) d_288_89 (by decide) (by decide) rfl (by decide) ?_
  refine rr_nx (pc' := 155) (al' := [some (.ref 146), some (.int (nI 1)), some (.int (nI (SM (tcF (wK W)) 6))), some (.int (nI (SM (ccF (kB (wK W))) (kS (wK W) * kS (wK W))))), none]) (st' := [.ref 146]) d_288_154 (fun _ => rfl) ?_
  refine rr_gf (v := .ref (147 + 1)) d_288_155 mo_288 fl_13 rfl ?_
  refine rn_sp (v := 2509) d_288_158 (by decide) ?_
  refine rr_ia (j := 1) (v := (nI (kL (wK W)))) d_288_161 (by decide) rfl (by decide) (show 2509 < 5720 by first | omega | assumption | exact cu_36 (by omega) (cu_lt (by omega) (by omega))) hW.1.2.1 ?_
  exact rr_ri d_288_162 mr_288 rfl ⟨rfl, hW.mo⟩
theorem p_count2 {S : CS} {G : Nat → Nat → Value} {B : Nat → Nat → Int32} {J : Nat → Nat → Int64} {R : Nat → Nat → Option Nat} {n : Nat} {W : WS} (hW : WC n S G B R W)  : CR 80 175 0 [some (.ref 2), some (.int (nI 2))] [] S G B J R (fun r S' G' B' J' R' => r = some (.int (nI (kS (wK W)))) ∧ WC (n + 1) S' G' B' R' W) := by
  have hS := hW.1.1
  have hF := hW.2.1
  have hO := hW.2.2.2.1
  obtain ⟨ta, ka, la, hH, hLk, hl2, hs3, hbd⟩ := hW.2.2.1
  have hT : ∀ q u, kB (wK W) q = some u → u < 6 := fun q u e => by have := (hO.2.2.2.2 q u e).2; have := hO.2.2.2.1; omega
  refine cr_nx (pc' := 1) (al' := [some (.ref 2), some (.int (nI 2))]) (st' := [.int (nI 2)]) d_175_0 (fun _ => rfl) ?_
  refine cr_ts (off := 79) (t := 80) d_175_1 (by decide) (by decide) rfl (by decide) ?_
  refine cr_nx (pc' := 81) (al' := [some (.ref 2), some (.int (nI 2))]) (st' := [.ref 2]) d_175_80 (fun _ => rfl) ?_
  refine cr_gf (v := .ref 3) d_175_81 cw_175 cf_11_10 (hS.i (a := 2) (by decide) (by decide)) (hS.s (a := 2) (by decide) (by decide) rfl) (by decide) (fx_2_0 hF) ?_
  refine cr_gf (v := .int (nI (kS (wK W)))) d_175_84 cw_175 cf_11_342 (hS.i (a := 3) (by decide) (by decide)) (hS.s (a := 3) (by decide) (by decide) rfl) (by decide) hs3 ?_
  exact cr_ri d_175_87 cx_175 rfl ⟨rfl, hW.mo⟩
theorem r_count2_b {g : Nat → Int32} {A : Nat → Nat → Int32} {n : Nat} {W : WS} (hW : WR n g A W) (hO : CoOk (wK W))  : RR 80 288 88 [some (.ref 146), some (.int (nI 2)), some (.int (nI (SM (tcF (wK W)) 6))), some (.int (nI (SM (ccF (kB (wK W))) (kS (wK W) * kS (wK W))))), none] [] g A (fun r g' A' => r = some (.int (nI (kS (wK W)))) ∧ WR (n + 1) g' A' W) := by
  have hdt := hO.1.1
  have ht30 := hO.1.2.1
  refine rr_nx (pc' := 89) (al' := [some (.ref 146), some (.int (nI 2)), some (.int (nI (SM (tcF (wK W)) 6))), some (.int (nI (SM (ccF (kB (wK W))) (kS (wK W) * kS (wK W))))), none]) (st' := [.int (nI 2)]) d_288_88 (fun _ => rfl) ?_
  refine rr_ts (off := 74) (t := 163) d_288_89 (by decide) (by decide) rfl (by decide) ?_
  refine rr_nx (pc' := 164) (al' := [some (.ref 146), some (.int (nI 2)), some (.int (nI (SM (tcF (wK W)) 6))), some (.int (nI (SM (ccF (kB (wK W))) (kS (wK W) * kS (wK W))))), none]) (st' := [.ref 146]) d_288_163 (fun _ => rfl) ?_
  refine rr_gf (v := .ref (147 + 1)) d_288_164 mo_288 fl_13 rfl ?_
  refine rn_sp (v := 222) d_288_167 (by decide) ?_
  refine rr_ia (j := 1) (v := (nI (kS (wK W)))) d_288_170 (by decide) rfl (by decide) (show 222 < 5720 by first | omega | assumption | exact cu_36 (by omega) (cu_lt (by omega) (by omega))) hW.1.2.2.2.1 ?_
  exact rr_ri d_288_171 mr_288 rfl ⟨rfl, hW.mo⟩
theorem p_count3 {S : CS} {G : Nat → Nat → Value} {B : Nat → Nat → Int32} {J : Nat → Nat → Int64} {R : Nat → Nat → Option Nat} {n : Nat} {W : WS} (hW : WC n S G B R W)  : CR 80 175 0 [some (.ref 2), some (.int (nI 3))] [] S G B J R (fun r S' G' B' J' R' => r = some (.int (nI (SM (ccF (kB (wK W))) (kS (wK W) * kS (wK W))))) ∧ WC (n + 1) S' G' B' R' W) := by
  have hS := hW.1.1
  have hF := hW.2.1
  have hO := hW.2.2.2.1
  obtain ⟨ta, ka, la, hH, hLk, hl2, hs3, hbd⟩ := hW.2.2.1
  have hT : ∀ q u, kB (wK W) q = some u → u < 6 := fun q u e => by have := (hO.2.2.2.2 q u e).2; have := hO.2.2.2.1; omega
  refine cr_nx (pc' := 1) (al' := [some (.ref 2), some (.int (nI 3))]) (st' := [.int (nI 3)]) d_175_0 (fun _ => rfl) ?_
  refine cr_ts (off := 87) (t := 88) d_175_1 (by decide) (by decide) rfl (by decide) ?_
  refine cr_nx (pc' := 89) (al' := [some (.ref 2), some (.int (nI 3))]) (st' := [.ref 2]) d_175_88 (fun _ => rfl) ?_
  refine cr_gf (v := .ref 3) d_175_89 cw_175 cf_11_10 (hS.i (a := 2) (by decide) (by decide)) (hS.s (a := 2) (by decide) (by decide) rfl) (by decide) (fx_2_0 hF) ?_
  refine cr_pv (b := 3) (as := []) (al0 := [some (.ref 3), none, none]) (r := []) d_175_92 cw_175 cm_11_376 cz_88 rfl rfl (hS.i (a := 3) (by decide) (by decide)) (by rw [cw_88]; exact (hS.s (a := 3) (by decide) (by decide) rfl)) (by rw [cw_88]; decide) rfl (Nat.le_of_ble_eq_true rfl) (k_clueCount hS hF hs3 hO.2.2.2.1 hT hbd) ?_
  show CR _ _ 95 [some (.ref 2), some (.int (nI 3))] [.int (nI (SM (ccF (kB (wK W))) (kS (wK W) * kS (wK W))))] S G B J R _
  exact cr_ri d_175_95 cx_175 rfl ⟨rfl, hW.mo⟩
theorem r_count3_b {g : Nat → Int32} {A : Nat → Nat → Int32} {n : Nat} {W : WS} (hW : WR n g A W) (hO : CoOk (wK W))  : RR 80 288 88 [some (.ref 146), some (.int (nI 3)), some (.int (nI (SM (tcF (wK W)) 6))), some (.int (nI (SM (ccF (kB (wK W))) (kS (wK W) * kS (wK W))))), none] [] g A (fun r g' A' => r = some (.int (nI (SM (ccF (kB (wK W))) (kS (wK W) * kS (wK W))))) ∧ WR (n + 1) g' A' W) := by
  have hdt := hO.1.1
  have ht30 := hO.1.2.1
  refine rr_nx (pc' := 89) (al' := [some (.ref 146), some (.int (nI 3)), some (.int (nI (SM (tcF (wK W)) 6))), some (.int (nI (SM (ccF (kB (wK W))) (kS (wK W) * kS (wK W))))), none]) (st' := [.int (nI 3)]) d_288_88 (fun _ => rfl) ?_
  refine rr_ts (off := 83) (t := 172) d_288_89 (by decide) (by decide) rfl (by decide) ?_
  refine rr_nx (pc' := 173) (al' := [some (.ref 146), some (.int (nI 3)), some (.int (nI (SM (tcF (wK W)) 6))), some (.int (nI (SM (ccF (kB (wK W))) (kS (wK W) * kS (wK W))))), none]) (st' := [.int (nI (SM (ccF (kB (wK W))) (kS (wK W) * kS (wK W))))]) d_288_172 (fun _ => rfl) ?_
  exact rr_ri d_288_173 mr_288 rfl ⟨rfl, hW.mo⟩
theorem p_count4 {S : CS} {G : Nat → Nat → Value} {B : Nat → Nat → Int32} {J : Nat → Nat → Int64} {R : Nat → Nat → Option Nat} {n : Nat} {W : WS} (hW : WC n S G B R W)  : CR 80 175 0 [some (.ref 2), some (.int (nI 4))] [] S G B J R (fun r S' G' B' J' R' => r = some (.int (nI (wL W))) ∧ WC (n + 1) S' G' B' R' W) := by
  have hS := hW.1.1
  have hF := hW.2.1
  have hO := hW.2.2.2.1
  obtain ⟨ta, ka, la, hH, hLk, hl2, hs3, hbd⟩ := hW.2.2.1
  have hT : ∀ q u, kB (wK W) q = some u → u < 6 := fun q u e => by have := (hO.2.2.2.2 q u e).2; have := hO.2.2.2.1; omega
  refine cr_nx (pc' := 1) (al' := [some (.ref 2), some (.int (nI 4))]) (st' := [.int (nI 4)]) d_175_0 (fun _ => rfl) ?_
  refine cr_ts (off := 95) (t := 96) d_175_1 (by decide) (by decide) rfl (by decide) ?_
  refine cr_nx (pc' := 97) (al' := [some (.ref 2), some (.int (nI 4))]) (st' := [.ref 2]) d_175_96 (fun _ => rfl) ?_
  refine cr_gf (v := .int (nI (wL W))) d_175_97 cw_175 cf_11_93 (hS.i (a := 2) (by decide) (by decide)) (hS.s (a := 2) (by decide) (by decide) rfl) (by decide) hW.2.2.2.2.2.1.2.1 ?_
  exact cr_ri d_175_100 cx_175 rfl ⟨rfl, hW.mo⟩
theorem r_count4_b {g : Nat → Int32} {A : Nat → Nat → Int32} {n : Nat} {W : WS} (hW : WR n g A W) (hO : CoOk (wK W))  : RR 80 288 88 [some (.ref 146), some (.int (nI 4)), some (.int (nI (SM (tcF (wK W)) 6))), some (.int (nI (SM (ccF (kB (wK W))) (kS (wK W) * kS (wK W))))), none] [] g A (fun r g' A' => r = some (.int (nI (wL W))) ∧ WR (n + 1) g' A' W) := by
  have hdt := hO.1.1
  have ht30 := hO.1.2.1
  refine rr_nx (pc' := 89) (al' := [some (.ref 146), some (.int (nI 4)), some (.int (nI (SM (tcF (wK W)) 6))), some (.int (nI (SM (ccF (kB (wK W))) (kS (wK W) * kS (wK W))))), none]) (st' := [.int (nI 4)]) d_288_88 (fun _ => rfl) ?_
  refine rr_ts (off := 85) (t := 174) d_288_89 (by decide) (by decide) rfl (by decide) ?_
  refine rr_nx (pc' := 175) (al' := [some (.ref 146), some (.int (nI 4)), some (.int (nI (SM (tcF (wK W)) 6))), some (.int (nI (SM (ccF (kB (wK W))) (kS (wK W) * kS (wK W))))), none]) (st' := [.ref 146]) d_288_174 (fun _ => rfl) ?_
  refine rr_gn d_288_175 mo_288 fl_137 rfl hW.2.2.2.1.1 ?_
  exact rr_ri d_288_178 mr_288 rfl ⟨rfl, hW.mo⟩
theorem p_count5 {S : CS} {G : Nat → Nat → Value} {B : Nat → Nat → Int32} {J : Nat → Nat → Int64} {R : Nat → Nat → Option Nat} {n : Nat} {W : WS} (hW : WC n S G B R W)  : CR 80 175 0 [some (.ref 2), some (.int (nI 5))] [] S G B J R (fun r S' G' B' J' R' => r = some (.int (wR W 1)) ∧ WC (n + 1) S' G' B' R' W) := by
  have hS := hW.1.1
  have hF := hW.2.1
  have hO := hW.2.2.2.1
  obtain ⟨ta, ka, la, hH, hLk, hl2, hs3, hbd⟩ := hW.2.2.1
  have hT : ∀ q u, kB (wK W) q = some u → u < 6 := fun q u e => by have := (hO.2.2.2.2 q u e).2; have := hO.2.2.2.1; omega
  refine cr_nx (pc' := 1) (al' := [some (.ref 2), some (.int (nI 5))]) (st' := [.int (nI 5)]) d_175_0 (fun _ => rfl) ?_
  refine cr_ts (off := 100) (t := 101) d_175_1 (by decide) (by decide) rfl (by decide) ?_
  refine cr_nx (pc' := 102) (al' := [some (.ref 2), some (.int (nI 5))]) (st' := [.ref 2]) d_175_101 (fun _ => rfl) ?_
  refine cr_gf (v := .ref 145) d_175_102 cw_175 cf_11_90 (hS.i (a := 2) (by decide) (by decide)) (hS.s (a := 2) (by decide) (by decide) rfl) (by decide) (fx_2_15 hF) ?_
  refine cn_ic (v := 1) d_175_105 (by decide) ?_
  refine cr_ia (a := 145) (v := (wR W 1)) d_175_106 (hS.i (a := 145) (by decide) (by decide)) (hS.s (a := 145) (by decide) (by decide) rfl) (by first | decide | omega) (show 1 < 7 by first | omega | assumption | exact cu_36 (by omega) (cu_lt (by omega) (by omega))) (hW.2.2.2.2.2.2.2.2.1 1 (by decide)) ?_
  exact cr_ri d_175_107 cx_175 rfl ⟨rfl, hW.mo⟩
theorem r_count5_b {g : Nat → Int32} {A : Nat → Nat → Int32} {n : Nat} {W : WS} (hW : WR n g A W) (hO : CoOk (wK W))  : RR 80 288 88 [some (.ref 146), some (.int (nI 5)), some (.int (nI (SM (tcF (wK W)) 6))), some (.int (nI (SM (ccF (kB (wK W))) (kS (wK W) * kS (wK W))))), none] [] g A (fun r g' A' => r = some (.int (wR W 1)) ∧ WR (n + 1) g' A' W) := by
  have hdt := hO.1.1
  have ht30 := hO.1.2.1
  refine rr_nx (pc' := 89) (al' := [some (.ref 146), some (.int (nI 5)), some (.int (nI (SM (tcF (wK W)) 6))), some (.int (nI (SM (ccF (kB (wK W))) (kS (wK W) * kS (wK W))))), none]) (st' := [.int (nI 5)]) d_288_88 (fun _ => rfl) ?_
  refine rr_ts (off := 90) (t := 179) d_288_89 (by decide) (by decide) rfl (by decide) ?_
  refine rr_nx (pc' := 180) (al' := [some (.ref 146), some (.int (nI 5)), some (.int (nI (SM (tcF (wK W)) 6))), some (.int (nI (SM (ccF (kB (wK W))) (kS (wK W) * kS (wK W))))), none]) (st' := [.ref 146]) d_288_179 (fun _ => rfl) ?_
  refine rr_gf (v := .ref (147 + 0)) d_288_180 mo_288 fl_9 rfl ?_
  refine rr_nx (pc' := 184) (al' := [some (.ref 146), some (.int (nI 5)), some (.int (nI (SM (tcF (wK W)) 6))), some (.int (nI (SM (ccF (kB (wK W))) (kS (wK W) * kS (wK W))))), none]) (st' := [.int (nI 5), .ref (147 + 0)]) d_288_183 (fun _ => rfl) ?_
  refine rn_ic (v := 4) d_288_184 (by decide) ?_
  refine rn_sub d_288_185 (by first | omega | assumption | exact cu_36 (by omega) (cu_lt (by omega) (by omega))) ?_
  refine rr_ia (j := 0) (v := (wR W 1)) d_288_186 (by decide) rfl (by decide) (show 5 - 4 < 7 by first | omega | assumption | exact cu_36 (by omega) (cu_lt (by omega) (by omega))) (hW.2.2.2.2.2.2.1 1 (by decide)) ?_
  exact rr_ri d_288_187 mr_288 rfl ⟨rfl, hW.mo⟩
theorem p_count6 {S : CS} {G : Nat → Nat → Value} {B : Nat → Nat → Int32} {J : Nat → Nat → Int64} {R : Nat → Nat → Option Nat} {n : Nat} {W : WS} (hW : WC n S G B R W)  : CR 80 175 0 [some (.ref 2), some (.int (nI 6))] [] S G B J R (fun r S' G' B' J' R' => r = some (.int (wR W 2)) ∧ WC (n + 1) S' G' B' R' W) := by
  have hS := hW.1.1
  have hF := hW.2.1
  have hO := hW.2.2.2.1
  obtain ⟨ta, ka, la, hH, hLk, hl2, hs3, hbd⟩ := hW.2.2.1
  have hT : ∀ q u, kB (wK W) q = some u → u < 6 := fun q u e => by have := (hO.2.2.2.2 q u e).2; have := hO.2.2.2.1; omega
  refine cr_nx (pc' := 1) (al' := [some (.ref 2), some (.int (nI 6))]) (st' := [.int (nI 6)]) d_175_0 (fun _ => rfl) ?_
  refine cr_ts (off := 107) (t := 108) d_175_1 (by decide) (by decide) rfl (by decide) ?_
  refine cr_nx (pc' := 109) (al' := [some (.ref 2), some (.int (nI 6))]) (st' := [.ref 2]) d_175_108 (fun _ => rfl) ?_
  refine cr_gf (v := .ref 145) d_175_109 cw_175 cf_11_90 (hS.i (a := 2) (by decide) (by decide)) (hS.s (a := 2) (by decide) (by decide) rfl) (by decide) (fx_2_15 hF) ?_
  refine cn_ic (v := 2) d_175_112 (by decide) ?_
  refine cr_ia (a := 145) (v := (wR W 2)) d_175_113 (hS.i (a := 145) (by decide) (by decide)) (hS.s (a := 145) (by decide) (by decide) rfl) (by first | decide | omega) (show 2 < 7 by first | omega | assumption | exact cu_36 (by omega) (cu_lt (by omega) (by omega))) (hW.2.2.2.2.2.2.2.2.1 2 (by decide)) ?_
  exact cr_ri d_175_114 cx_175 rfl ⟨rfl, hW.mo⟩
theorem r_count6_b {g : Nat → Int32} {A : Nat → Nat → Int32} {n : Nat} {W : WS} (hW : WR n g A W) (hO : CoOk (wK W))  : RR 80 288 88 [some (.ref 146), some (.int (nI 6)), some (.int (nI (SM (tcF (wK W)) 6))), some (.int (nI (SM (ccF (kB (wK W))) (kS (wK W) * kS (wK W))))), none] [] g A (fun r g' A' => r = some (.int (wR W 2)) ∧ WR (n + 1) g' A' W) := by
  have hdt := hO.1.1
  have ht30 := hO.1.2.1
  refine rr_nx (pc' := 89) (al' := [some (.ref 146), some (.int (nI 6)), some (.int (nI (SM (tcF (wK W)) 6))), some (.int (nI (SM (ccF (kB (wK W))) (kS (wK W) * kS (wK W))))), none]) (st' := [.int (nI 6)]) d_288_88 (fun _ => rfl) ?_
  refine rr_ts (off := 90) (t := 179) d_288_89 (by decide) (by decide) rfl (by decide) ?_
  refine rr_nx (pc' := 180) (al' := [some (.ref 146), some (.int (nI 6)), some (.int (nI (SM (tcF (wK W)) 6))), some (.int (nI (SM (ccF (kB (wK W))) (kS (wK W) * kS (wK W))))), none]) (st' := [.ref 146]) d_288_179 (fun _ => rfl) ?_
  refine rr_gf (v := .ref (147 + 0)) d_288_180 mo_288 fl_9 rfl ?_
  refine rr_nx (pc' := 184) (al' := [some (.ref 146), some (.int (nI 6)), some (.int (nI (SM (tcF (wK W)) 6))), some (.int (nI (SM (ccF (kB (wK W))) (kS (wK W) * kS (wK W))))), none]) (st' := [.int (nI 6), .ref (147 + 0)]) d_288_183 (fun _ => rfl) ?_
  refine rn_ic (v := 4) d_288_184 (by decide) ?_
  refine rn_sub d_288_185 (by first | omega | assumption | exact cu_36 (by omega) (cu_lt (by omega) (by omega))) ?_
  refine rr_ia (j := 0) (v := (wR W 2)) d_288_186 (by decide) rfl (by decide) (show 6 - 4 < 7 by first | omega | assumption | exact cu_36 (by omega) (cu_lt (by omega) (by omega))) (hW.2.2.2.2.2.2.1 2 (by decide)) ?_
  exact rr_ri d_288_187 mr_288 rfl ⟨rfl, hW.mo⟩
theorem p_count7 {S : CS} {G : Nat → Nat → Value} {B : Nat → Nat → Int32} {J : Nat → Nat → Int64} {R : Nat → Nat → Option Nat} {n : Nat} {W : WS} (hW : WC n S G B R W)  : CR 80 175 0 [some (.ref 2), some (.int (nI 7))] [] S G B J R (fun r S' G' B' J' R' => r = some (.int (wR W 3)) ∧ WC (n + 1) S' G' B' R' W) := by
  have hS := hW.1.1
  have hF := hW.2.1
  have hO := hW.2.2.2.1
  obtain ⟨ta, ka, la, hH, hLk, hl2, hs3, hbd⟩ := hW.2.2.1
  have hT : ∀ q u, kB (wK W) q = some u → u < 6 := fun q u e => by have := (hO.2.2.2.2 q u e).2; have := hO.2.2.2.1; omega
  refine cr_nx (pc' := 1) (al' := [some (.ref 2), some (.int (nI 7))]) (st' := [.int (nI 7)]) d_175_0 (fun _ => rfl) ?_
  refine cr_ts (off := 114) (t := 115) d_175_1 (by decide) (by decide) rfl (by decide) ?_
  refine cr_nx (pc' := 116) (al' := [some (.ref 2), some (.int (nI 7))]) (st' := [.ref 2]) d_175_115 (fun _ => rfl) ?_
  refine cr_gf (v := .ref 145) d_175_116 cw_175 cf_11_90 (hS.i (a := 2) (by decide) (by decide)) (hS.s (a := 2) (by decide) (by decide) rfl) (by decide) (fx_2_15 hF) ?_
  refine cn_ic (v := 3) d_175_119 (by decide) ?_
  refine cr_ia (a := 145) (v := (wR W 3)) d_175_120 (hS.i (a := 145) (by decide) (by decide)) (hS.s (a := 145) (by decide) (by decide) rfl) (by first | decide | omega) (show 3 < 7 by first | omega | assumption | exact cu_36 (by omega) (cu_lt (by omega) (by omega))) (hW.2.2.2.2.2.2.2.2.1 3 (by decide)) ?_
  exact cr_ri d_175_121 cx_175 rfl ⟨rfl, hW.mo⟩
theorem r_count7_b {g : Nat → Int32} {A : Nat → Nat → Int32} {n : Nat} {W : WS} (hW : WR n g A W) (hO : CoOk (wK W))  : RR 80 288 88 [some (.ref 146), some (.int (nI 7)), some (.int (nI (SM (tcF (wK W)) 6))), some (.int (nI (SM (ccF (kB (wK W))) (kS (wK W) * kS (wK W))))), none] [] g A (fun r g' A' => r = some (.int (wR W 3)) ∧ WR (n + 1) g' A' W) := by
  have hdt := hO.1.1
  have ht30 := hO.1.2.1
  refine rr_nx (pc' := 89) (al' := [some (.ref 146), some (.int (nI 7)), some (.int (nI (SM (tcF (wK W)) 6))), some (.int (nI (SM (ccF (kB (wK W))) (kS (wK W) * kS (wK W))))), none]) (st' := [.int (nI 7)]) d_288_88 (fun _ => rfl) ?_
  refine rr_ts (off := 90) (t := 179) d_288_89 (by decide) (by decide) rfl (by decide) ?_
  refine rr_nx (pc' := 180) (al' := [some (.ref 146), some (.int (nI 7)), some (.int (nI (SM (tcF (wK W)) 6))), some (.int (nI (SM (ccF (kB (wK W))) (kS (wK W) * kS (wK W))))), none]) (st' := [.ref 146]) d_288_179 (fun _ => rfl) ?_
  refine rr_gf (v := .ref (147 + 0)) d_288_180 mo_288 fl_9 rfl ?_
  refine rr_nx (pc' := 184) (al' := [some (.ref 146), some (.int (nI 7)), some (.int (nI (SM (tcF (wK W)) 6))), some (.int (nI (SM (ccF (kB (wK W))) (kS (wK W) * kS (wK W))))), none]) (st' := [.int (nI 7), .ref (147 + 0)]) d_288_183 (fun _ => rfl) ?_
  refine rn_ic (v := 4) d_288_184 (by decide) ?_
  refine rn_sub d_288_185 (by first | omega | assumption | exact cu_36 (by omega) (cu_lt (by omega) (by omega))) ?_
  refine rr_ia (j := 0) (v := (wR W 3)) d_288_186 (by decide) rfl (by decide) (show 7 - 4 < 7 by first | omega | assumption | exact cu_36 (by omega) (cu_lt (by omega) (by omega))) (hW.2.2.2.2.2.2.1 3 (by decide)) ?_
  exact rr_ri d_288_187 mr_288 rfl ⟨rfl, hW.mo⟩
theorem p_count8 {S : CS} {G : Nat → Nat → Value} {B : Nat → Nat → Int32} {J : Nat → Nat → Int64} {R : Nat → Nat → Option Nat} {n : Nat} {W : WS} (hW : WC n S G B R W)  : CR 80 175 0 [some (.ref 2), some (.int (nI 8))] [] S G B J R (fun r S' G' B' J' R' => r = some (.int (wR W 5)) ∧ WC (n + 1) S' G' B' R' W) := by
  have hS := hW.1.1
  have hF := hW.2.1
  have hO := hW.2.2.2.1
  obtain ⟨ta, ka, la, hH, hLk, hl2, hs3, hbd⟩ := hW.2.2.1
  have hT : ∀ q u, kB (wK W) q = some u → u < 6 := fun q u e => by have := (hO.2.2.2.2 q u e).2; have := hO.2.2.2.1; omega
  refine cr_nx (pc' := 1) (al' := [some (.ref 2), some (.int (nI 8))]) (st' := [.int (nI 8)]) d_175_0 (fun _ => rfl) ?_
  refine cr_ts (off := 121) (t := 122) d_175_1 (by decide) (by decide) rfl (by decide) ?_
  refine cr_nx (pc' := 123) (al' := [some (.ref 2), some (.int (nI 8))]) (st' := [.ref 2]) d_175_122 (fun _ => rfl) ?_
  refine cr_gf (v := .ref 145) d_175_123 cw_175 cf_11_90 (hS.i (a := 2) (by decide) (by decide)) (hS.s (a := 2) (by decide) (by decide) rfl) (by decide) (fx_2_15 hF) ?_
  refine cn_ic (v := 5) d_175_126 (by decide) ?_
  refine cr_ia (a := 145) (v := (wR W 5)) d_175_127 (hS.i (a := 145) (by decide) (by decide)) (hS.s (a := 145) (by decide) (by decide) rfl) (by first | decide | omega) (show 5 < 7 by first | omega | assumption | exact cu_36 (by omega) (cu_lt (by omega) (by omega))) (hW.2.2.2.2.2.2.2.2.1 5 (by decide)) ?_
  exact cr_ri d_175_128 cx_175 rfl ⟨rfl, hW.mo⟩
theorem r_count8_b {g : Nat → Int32} {A : Nat → Nat → Int32} {n : Nat} {W : WS} (hW : WR n g A W) (hO : CoOk (wK W))  : RR 80 288 88 [some (.ref 146), some (.int (nI 8)), some (.int (nI (SM (tcF (wK W)) 6))), some (.int (nI (SM (ccF (kB (wK W))) (kS (wK W) * kS (wK W))))), none] [] g A (fun r g' A' => r = some (.int (wR W 5)) ∧ WR (n + 1) g' A' W) := by
  have hdt := hO.1.1
  have ht30 := hO.1.2.1
  refine rr_nx (pc' := 89) (al' := [some (.ref 146), some (.int (nI 8)), some (.int (nI (SM (tcF (wK W)) 6))), some (.int (nI (SM (ccF (kB (wK W))) (kS (wK W) * kS (wK W))))), none]) (st' := [.int (nI 8)]) d_288_88 (fun _ => rfl) ?_
  refine rr_ts (off := 99) (t := 188) d_288_89 (by decide) (by decide) rfl (by decide) ?_
  refine rr_nx (pc' := 189) (al' := [some (.ref 146), some (.int (nI 8)), some (.int (nI (SM (tcF (wK W)) 6))), some (.int (nI (SM (ccF (kB (wK W))) (kS (wK W) * kS (wK W))))), none]) (st' := [.ref 146]) d_288_188 (fun _ => rfl) ?_
  refine rr_gf (v := .ref (147 + 0)) d_288_189 mo_288 fl_9 rfl ?_
  refine rn_ic (v := 5) d_288_192 (by decide) ?_
  refine rr_ia (j := 0) (v := (wR W 5)) d_288_193 (by decide) rfl (by decide) (show 5 < 7 by first | omega | assumption | exact cu_36 (by omega) (cu_lt (by omega) (by omega))) (hW.2.2.2.2.2.2.1 5 (by decide)) ?_
  exact rr_ri d_288_194 mr_288 rfl ⟨rfl, hW.mo⟩
theorem p_count9 {S : CS} {G : Nat → Nat → Value} {B : Nat → Nat → Int32} {J : Nat → Nat → Int64} {R : Nat → Nat → Option Nat} {n : Nat} {W : WS} (hW : WC n S G B R W)  : CR 80 175 0 [some (.ref 2), some (.int (nI 9))] [] S G B J R (fun r S' G' B' J' R' => r = some (.int (wR W 6)) ∧ WC (n + 1) S' G' B' R' W) := by
  have hS := hW.1.1
  have hF := hW.2.1
  have hO := hW.2.2.2.1
  obtain ⟨ta, ka, la, hH, hLk, hl2, hs3, hbd⟩ := hW.2.2.1
  have hT : ∀ q u, kB (wK W) q = some u → u < 6 := fun q u e => by have := (hO.2.2.2.2 q u e).2; have := hO.2.2.2.1; omega
  refine cr_nx (pc' := 1) (al' := [some (.ref 2), some (.int (nI 9))]) (st' := [.int (nI 9)]) d_175_0 (fun _ => rfl) ?_
  refine cr_ts (off := 128) (t := 129) d_175_1 (by decide) (by decide) rfl (by decide) ?_
  refine cr_nx (pc' := 130) (al' := [some (.ref 2), some (.int (nI 9))]) (st' := [.ref 2]) d_175_129 (fun _ => rfl) ?_
  refine cr_gf (v := .ref 145) d_175_130 cw_175 cf_11_90 (hS.i (a := 2) (by decide) (by decide)) (hS.s (a := 2) (by decide) (by decide) rfl) (by decide) (fx_2_15 hF) ?_
  refine cn_bp (v := 6) d_175_133 (by decide) ?_
  refine cr_ia (a := 145) (v := (wR W 6)) d_175_135 (hS.i (a := 145) (by decide) (by decide)) (hS.s (a := 145) (by decide) (by decide) rfl) (by first | decide | omega) (show 6 < 7 by first | omega | assumption | exact cu_36 (by omega) (cu_lt (by omega) (by omega))) (hW.2.2.2.2.2.2.2.2.1 6 (by decide)) ?_
  exact cr_ri d_175_136 cx_175 rfl ⟨rfl, hW.mo⟩
theorem r_count9_b {g : Nat → Int32} {A : Nat → Nat → Int32} {n : Nat} {W : WS} (hW : WR n g A W) (hO : CoOk (wK W))  : RR 80 288 88 [some (.ref 146), some (.int (nI 9)), some (.int (nI (SM (tcF (wK W)) 6))), some (.int (nI (SM (ccF (kB (wK W))) (kS (wK W) * kS (wK W))))), none] [] g A (fun r g' A' => r = some (.int (wR W 6)) ∧ WR (n + 1) g' A' W) := by
  have hdt := hO.1.1
  have ht30 := hO.1.2.1
  refine rr_nx (pc' := 89) (al' := [some (.ref 146), some (.int (nI 9)), some (.int (nI (SM (tcF (wK W)) 6))), some (.int (nI (SM (ccF (kB (wK W))) (kS (wK W) * kS (wK W))))), none]) (st' := [.int (nI 9)]) d_288_88 (fun _ => rfl) ?_
  refine rr_ts (off := 106) (t := 195) d_288_89 (by decide) (by decide) rfl (by decide) ?_
  refine rr_nx (pc' := 196) (al' := [some (.ref 146), some (.int (nI 9)), some (.int (nI (SM (tcF (wK W)) 6))), some (.int (nI (SM (ccF (kB (wK W))) (kS (wK W) * kS (wK W))))), none]) (st' := [.ref 146]) d_288_195 (fun _ => rfl) ?_
  refine rr_gf (v := .ref (147 + 0)) d_288_196 mo_288 fl_9 rfl ?_
  refine rn_bp (v := 6) d_288_199 (by decide) ?_
  refine rr_ia (j := 0) (v := (wR W 6)) d_288_201 (by decide) rfl (by decide) (show 6 < 7 by first | omega | assumption | exact cu_36 (by omega) (cu_lt (by omega) (by omega))) (hW.2.2.2.2.2.2.1 6 (by decide)) ?_
  exact rr_ri d_288_202 mr_288 rfl ⟨rfl, hW.mo⟩
theorem p_count10 {S : CS} {G : Nat → Nat → Value} {B : Nat → Nat → Int32} {J : Nat → Nat → Int64} {R : Nat → Nat → Option Nat} {n : Nat} {W : WS} (hW : WC n S G B R W)  : CR 80 175 0 [some (.ref 2), some (.int (nI 10))] [] S G B J R (fun r S' G' B' J' R' => r = some (.int (nI (kD (wK W)))) ∧ WC (n + 1) S' G' B' R' W) := by
  have hS := hW.1.1
  have hF := hW.2.1
  have hO := hW.2.2.2.1
  obtain ⟨ta, ka, la, hH, hLk, hl2, hs3, hbd⟩ := hW.2.2.1
  have hT : ∀ q u, kB (wK W) q = some u → u < 6 := fun q u e => by have := (hO.2.2.2.2 q u e).2; have := hO.2.2.2.1; omega
  refine cr_nx (pc' := 1) (al' := [some (.ref 2), some (.int (nI 10))]) (st' := [.int (nI 10)]) d_175_0 (fun _ => rfl) ?_
  refine cr_ts (off := 136) (t := 137) d_175_1 (by decide) (by decide) rfl (by decide) ?_
  refine cr_nx (pc' := 138) (al' := [some (.ref 2), some (.int (nI 10))]) (st' := [.ref 2]) d_175_137 (fun _ => rfl) ?_
  refine cr_gf (v := .ref 3) d_175_138 cw_175 cf_11_10 (hS.i (a := 2) (by decide) (by decide)) (hS.s (a := 2) (by decide) (by decide) rfl) (by decide) (fx_2_0 hF) ?_
  refine cr_gf (v := .int (nI (kD (wK W)))) d_175_141 cw_175 cf_11_206 (hS.i (a := 3) (by decide) (by decide)) (hS.s (a := 3) (by decide) (by decide) rfl) (by decide) hH.2.2.2.2.2.2.2.2.2.2.1 ?_
  exact cr_ri d_175_144 cx_175 rfl ⟨rfl, hW.mo⟩
theorem r_count10_b {g : Nat → Int32} {A : Nat → Nat → Int32} {n : Nat} {W : WS} (hW : WR n g A W) (hO : CoOk (wK W))  : RR 80 288 88 [some (.ref 146), some (.int (nI 10)), some (.int (nI (SM (tcF (wK W)) 6))), some (.int (nI (SM (ccF (kB (wK W))) (kS (wK W) * kS (wK W))))), none] [] g A (fun r g' A' => r = some (.int (nI (kD (wK W)))) ∧ WR (n + 1) g' A' W) := by
  have hdt := hO.1.1
  have ht30 := hO.1.2.1
  refine rr_nx (pc' := 89) (al' := [some (.ref 146), some (.int (nI 10)), some (.int (nI (SM (tcF (wK W)) 6))), some (.int (nI (SM (ccF (kB (wK W))) (kS (wK W) * kS (wK W))))), none]) (st' := [.int (nI 10)]) d_288_88 (fun _ => rfl) ?_
  refine rr_ts (off := 114) (t := 203) d_288_89 (by decide) (by decide) rfl (by decide) ?_
  refine rr_nx (pc' := 204) (al' := [some (.ref 146), some (.int (nI 10)), some (.int (nI (SM (tcF (wK W)) 6))), some (.int (nI (SM (ccF (kB (wK W))) (kS (wK W) * kS (wK W))))), none]) (st' := [.ref 146]) d_288_203 (fun _ => rfl) ?_
  refine rr_gf (v := .ref (147 + 1)) d_288_204 mo_288 fl_13 rfl ?_
  refine rn_sp (v := 2510) d_288_207 (by decide) ?_
  refine rr_ia (j := 1) (v := (nI (kD (wK W)))) d_288_210 (by decide) rfl (by decide) (show 2510 < 5720 by first | omega | assumption | exact cu_36 (by omega) (cu_lt (by omega) (by omega))) hW.1.1.2.2.1 ?_
  exact rr_ri d_288_211 mr_288 rfl ⟨rfl, hW.mo⟩
theorem p_count11 {S : CS} {G : Nat → Nat → Value} {B : Nat → Nat → Int32} {J : Nat → Nat → Int64} {R : Nat → Nat → Option Nat} {n : Nat} {W : WS} (hW : WC n S G B R W)  : CR 80 175 0 [some (.ref 2), some (.int (nI 11))] [] S G B J R (fun r S' G' B' J' R' => r = some (.int (nI (kT (wK W) - kD (wK W)))) ∧ WC (n + 1) S' G' B' R' W) := by
  have hS := hW.1.1
  have hF := hW.2.1
  have hO := hW.2.2.2.1
  obtain ⟨ta, ka, la, hH, hLk, hl2, hs3, hbd⟩ := hW.2.2.1
  have hT : ∀ q u, kB (wK W) q = some u → u < 6 := fun q u e => by have := (hO.2.2.2.2 q u e).2; have := hO.2.2.2.1; omega
  refine cr_nx (pc' := 1) (al' := [some (.ref 2), some (.int (nI 11))]) (st' := [.int (nI 11)]) d_175_0 (fun _ => rfl) ?_
  refine cr_ts (off := 144) (t := 145) d_175_1 (by decide) (by decide) rfl (by decide) ?_
  refine cr_nx (pc' := 146) (al' := [some (.ref 2), some (.int (nI 11))]) (st' := [.ref 2]) d_175_145 (fun _ => rfl) ?_
  refine cr_gf (v := .ref 3) d_175_146 cw_175 cf_11_10 (hS.i (a := 2) (by decide) (by decide)) (hS.s (a := 2) (by decide) (by decide) rfl) (by decide) (fx_2_0 hF) ?_
  refine cr_gf (v := .int (nI (kT (wK W) - kD (wK W)))) d_175_149 cw_175 cf_11_215 (hS.i (a := 3) (by decide) (by decide)) (hS.s (a := 3) (by decide) (by decide) rfl) (by decide) hH.2.2.2.2.2.2.2.2.2.2.2 ?_
  exact cr_ri d_175_152 cx_175 rfl ⟨rfl, hW.mo⟩
theorem r_count11_b {g : Nat → Int32} {A : Nat → Nat → Int32} {n : Nat} {W : WS} (hW : WR n g A W) (hO : CoOk (wK W))  : RR 80 288 88 [some (.ref 146), some (.int (nI 11)), some (.int (nI (SM (tcF (wK W)) 6))), some (.int (nI (SM (ccF (kB (wK W))) (kS (wK W) * kS (wK W))))), none] [] g A (fun r g' A' => r = some (.int (nI (kT (wK W) - kD (wK W)))) ∧ WR (n + 1) g' A' W) := by
  have hdt := hO.1.1
  have ht30 := hO.1.2.1
  refine rr_nx (pc' := 89) (al' := [some (.ref 146), some (.int (nI 11)), some (.int (nI (SM (tcF (wK W)) 6))), some (.int (nI (SM (ccF (kB (wK W))) (kS (wK W) * kS (wK W))))), none]) (st' := [.int (nI 11)]) d_288_88 (fun _ => rfl) ?_
  refine rr_ts (off := 123) (t := 212) d_288_89 (by decide) (by decide) rfl (by decide) ?_
  refine rr_nx (pc' := 213) (al' := [some (.ref 146), some (.int (nI 11)), some (.int (nI (SM (tcF (wK W)) 6))), some (.int (nI (SM (ccF (kB (wK W))) (kS (wK W) * kS (wK W))))), none]) (st' := [.ref 146]) d_288_212 (fun _ => rfl) ?_
  refine rr_gf (v := .ref (147 + 1)) d_288_213 mo_288 fl_13 rfl ?_
  refine rn_sp (v := 2511) d_288_216 (by decide) ?_
  refine rr_ia (j := 1) (v := (nI (kT (wK W)))) d_288_219 (by decide) rfl (by decide) (show 2511 < 5720 by first | omega | assumption | exact cu_36 (by omega) (cu_lt (by omega) (by omega))) hW.1.1.2.2.2 ?_
  refine rr_nx (pc' := 221) (al' := [some (.ref 146), some (.int (nI 11)), some (.int (nI (SM (tcF (wK W)) 6))), some (.int (nI (SM (ccF (kB (wK W))) (kS (wK W) * kS (wK W))))), none]) (st' := [.ref 146, .int (nI (kT (wK W)))]) d_288_220 (fun _ => rfl) ?_
  refine rr_gf (v := .ref (147 + 1)) d_288_221 mo_288 fl_13 rfl ?_
  refine rn_sp (v := 2510) d_288_224 (by decide) ?_
  refine rr_ia (j := 1) (v := (nI (kD (wK W)))) d_288_227 (by decide) rfl (by decide) (show 2510 < 5720 by first | omega | assumption | exact cu_36 (by omega) (cu_lt (by omega) (by omega))) hW.1.1.2.2.1 ?_
  refine rn_sub d_288_228 (by first | omega | assumption | exact cu_36 (by omega) (cu_lt (by omega) (by omega))) ?_
  exact rr_ri d_288_229 mr_288 rfl ⟨rfl, hW.mo⟩
theorem p_countX {S : CS} {G : Nat → Nat → Value} {B : Nat → Nat → Int32} {J : Nat → Nat → Int64} {R : Nat → Nat → Option Nat} {n : Nat} {W : WS} (hW : WC n S G B R W)  {w : Int32} (hw : ¬ inP w 12) : CR 80 175 0 [some (.ref 2), some (.int w)] [] S G B J R (fun r S' G' B' J' R' => r = some (.int (-1)) ∧ WC (n + 1) S' G' B' R' W) := by
  have hS := hW.1.1
  have hF := hW.2.1
  have hO := hW.2.2.2.1
  obtain ⟨ta, ka, la, hH, hLk, hl2, hs3, hbd⟩ := hW.2.2.1
  refine cr_nx (pc' := 1) (al' := [some (.ref 2), some (.int w)]) (st' := [.int w]) d_175_0 (fun _ => rfl) ?_
  refine cr_td (t := 153) d_175_1 (td_12 hw) (by decide) ?_
  refine cr_nx (pc' := 154) (al' := [some (.ref 2), some (.int w)]) (st' := [.int (-1)]) d_175_153 (fun _ => rfl) ?_
  exact cr_ri d_175_154 cx_175 rfl ⟨rfl, hW.mo⟩
theorem r_countX_b {g : Nat → Int32} {A : Nat → Nat → Int32} {n : Nat} {W : WS} (hW : WR n g A W) (hO : CoOk (wK W))  {w : Int32} (hw : ¬ inP w 12) : RR 80 288 88 [some (.ref 146), some (.int w), some (.int (nI (SM (tcF (wK W)) 6))), some (.int (nI (SM (ccF (kB (wK W))) (kS (wK W) * kS (wK W))))), none] [] g A (fun r g' A' => r = some (.int (-1)) ∧ WR (n + 1) g' A' W) := by
  refine rr_nx (pc' := 89) (al' := [some (.ref 146), some (.int w), some (.int (nI (SM (tcF (wK W)) 6))), some (.int (nI (SM (ccF (kB (wK W))) (kS (wK W) * kS (wK W))))), none]) (st' := [.int w]) d_288_88 (fun _ => rfl) ?_
  refine rr_td (t := 230) d_288_89 (td_12 hw) (by decide) ?_
  refine rr_nx (pc' := 231) (al' := [some (.ref 146), some (.int w), some (.int (nI (SM (tcF (wK W)) 6))), some (.int (nI (SM (ccF (kB (wK W))) (kS (wK W) * kS (wK W))))), none]) (st' := [.int (-1)]) d_288_230 (fun _ => rfl) ?_
  exact rr_ri d_288_231 mr_288 rfl ⟨rfl, hW.mo⟩
theorem T_count {S : CS} {G : Nat → Nat → Value} {B : Nat → Nat → Int32} {J : Nat → Nat → Int64} {R : Nat → Nat → Option Nat} {g : Nat → Int32} {A : Nat → Nat → Int32} {n : Nat} {W : WS} (hC : WC n S G B R W) (hR : WR n g A W) (hn : n ≤ 10000) {w : Int32} : Tie n 175 288 [some (.ref 2), some (.int w)] [some (.ref 146), some (.int w), none, none, none] S G B J R g A W := by
  have hO := hC.2.2.2.1
  by_cases hw : inP w 12
  · obtain ⟨k, hk, e_⟩ := in_n hw
    subst e_
    have hk2 : k = 0 ∨ k = 1 ∨ k = 2 ∨ k = 3 ∨ k = 4 ∨ k = 5 ∨ k = 6 ∨ k = 7 ∨ k = 8 ∨ k = 9 ∨ k = 10 ∨ k = 11 := by omega
    rcases hk2 with rfl | rfl | rfl | rfl | rfl | rfl | rfl | rfl | rfl | rfl | rfl | rfl
    · exact ⟨_, W, p_count0 hC, r_count_88 hR hO (r_count0_b hR hO)⟩
    · exact ⟨_, W, p_count1 hC, r_count_88 hR hO (r_count1_b hR hO)⟩
    · exact ⟨_, W, p_count2 hC, r_count_88 hR hO (r_count2_b hR hO)⟩
    · exact ⟨_, W, p_count3 hC, r_count_88 hR hO (r_count3_b hR hO)⟩
    · exact ⟨_, W, p_count4 hC, r_count_88 hR hO (r_count4_b hR hO)⟩
    · exact ⟨_, W, p_count5 hC, r_count_88 hR hO (r_count5_b hR hO)⟩
    · exact ⟨_, W, p_count6 hC, r_count_88 hR hO (r_count6_b hR hO)⟩
    · exact ⟨_, W, p_count7 hC, r_count_88 hR hO (r_count7_b hR hO)⟩
    · exact ⟨_, W, p_count8 hC, r_count_88 hR hO (r_count8_b hR hO)⟩
    · exact ⟨_, W, p_count9 hC, r_count_88 hR hO (r_count9_b hR hO)⟩
    · exact ⟨_, W, p_count10 hC, r_count_88 hR hO (r_count10_b hR hO)⟩
    · exact ⟨_, W, p_count11 hC, r_count_88 hR hO (r_count11_b hR hO)⟩
  · exact ⟨_, W, p_countX hC hw, r_count_88 hR hO (r_countX_b hR hO hw)⟩
