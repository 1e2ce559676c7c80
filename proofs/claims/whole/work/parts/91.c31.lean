/-! Calls: tables that are made; printed by wip/whole/gen_c31.py. -/
theorem sz_j {m : Nat} (h1 : 1 ≤ m) (h6 : m ≤ 6) : szP (nI m) := by
  unfold szP
  rw [nI_toInt (by omega)]
  omega
theorem p_cyclic_y {S : CS} {G : Nat → Nat → Value} {B : Nat → Nat → Int32} {J : Nat → Nat → Int64} {R : Nat → Nat → Option Nat} {n : Nat} {W : WS} (hW : WC n S G B R W) {k : Nat} (hk6 : k < 6) {m : Nat} (h1 : 1 ≤ m) (hm6 : m ≤ 6) : CR 80 124 0 [some (.ref 2), some (.int (nI k)), some (.int (nI m))] [] S G B J R (fun r S' G' B' J' R' => r = some (.int (nI m)) ∧ WC (n + 1) S' G' B' R' (chW W k (m, cyN m))) := by
  have hS := hW.1.1
  have hF := hW.2.1
  have hO := hW.2.2.2.1
  obtain ⟨ta, ka, la, hH, hLk, hl2, hs3, hbd⟩ := hW.2.2.1
  refine cr_nx (pc' := 1) (al' := [some (.ref 2), some (.int (nI k)), some (.int (nI m))]) (st' := [.int (nI k)]) d_124_0 (fun _ => rfl) ?_
  refine cr_ps (as := [.int (nI k)]) (al0 := [some (.int (nI k))]) (r := []) d_124_1 cw_124 cm_11_100 (by decide) cz_118 rfl rfl rfl (Nat.le_of_ble_eq_true rfl) (k_isPlace) ?_
  show CR _ _ 4 [some (.ref 2), some (.int (nI k)), some (.int (nI m))] [.int (bI (inP (nI k) 6))] S G B J R _
  refine cr_beq (t := 14) d_124_4 (by decide) (fun c4 => ?_) (fun c4 => ?_)
  · exact absurd ((in_j (by omega)).mpr hk6) c4
  · refine cr_nx (pc' := 8) (al' := [some (.ref 2), some (.int (nI k)), some (.int (nI m))]) (st' := [.int (nI m)]) d_124_7 (fun _ => rfl) ?_
    refine cr_ps (as := [.int (nI m)]) (al0 := [some (.int (nI m))]) (r := []) d_124_8 cw_124 cm_11_119 (by decide) cz_121 rfl rfl rfl (Nat.le_of_ble_eq_true rfl) (k_isSize) ?_
    show CR _ _ 11 [some (.ref 2), some (.int (nI k)), some (.int (nI m))] [.int (bI (szP (nI m)))] S G B J R _
    refine cr_bne (t := 20) d_124_11 (by decide) (fun c11 => ?_) (fun c11 => ?_)
    · refine cr_nx (pc' := 21) (al' := [some (.ref 2), some (.int (nI k)), some (.int (nI m))]) (st' := [.ref 2]) d_124_20 (fun _ => rfl) ?_
      refine cr_gf (v := .ref 86) d_124_21 cw_124 cf_11_38 (hS.i (a := 2) (by decide) (by decide)) (hS.s (a := 2) (by decide) (by decide) rfl) (by decide) (fx_2_6 hF) ?_
      refine cr_nx (pc' := 25) (al' := [some (.ref 2), some (.int (nI k)), some (.int (nI m))]) (st' := [.int (nI m), .ref 86]) d_124_24 (fun _ => rfl) ?_
      refine cr_cv (b := 86) (as := [.int (nI m)]) (al0 := [some (.ref 86), some (.int (nI m)), none, none]) (r := []) d_124_25 cw_124 cm_11_134 cz_94 rfl rfl (hS.i (a := 86) (by decide) (by decide)) (by rw [cw_94]; exact (hS.s (a := 86) (by decide) (by decide) rfl)) (by rw [cw_94]; decide) rfl (cr_wk (Nat.le_of_ble_eq_true rfl) (k_makeCyclic (tb_86 hS hF) hm6)) (fun v1 S1 G1 B1 J1 R1 h1x => ?_)
      obtain ⟨q0_, q1_, q2_, q3_, q4_, w86, q9_, hw86⟩ := h1x
      obtain rfl := q0_
      obtain rfl := q1_.symm
      obtain rfl := q2_
      obtain rfl := q3_.symm
      obtain rfl := q4_.symm
      obtain rfl := q9_
      show CR _ _ 28 [some (.ref 2), some (.int (nI k)), some (.int (nI m))] [] S (up2 G 86 0 (.int (nI m))) (upr B 87 w86) J R _
      refine cr_nx (pc' := 29) (al' := [some (.ref 2), some (.int (nI k)), some (.int (nI m))]) (st' := [.ref 2]) d_124_28 (fun _ => rfl) ?_
      refine cr_nx (pc' := 30) (al' := [some (.ref 2), some (.int (nI k)), some (.int (nI m))]) (st' := [.int (nI k), .ref 2]) d_124_29 (fun _ => rfl) ?_
      refine cr_nx (pc' := 31) (al' := [some (.ref 2), some (.int (nI k)), some (.int (nI m))]) (st' := [.int (nI m), .int (nI k), .ref 2]) d_124_30 (fun _ => rfl) ?_
      have hW1 : WC n S (up2 G 86 0 (.int (nI m))) (upr B 87 w86) R W := hW.q (FxG.ut hF) (Gfr.rf.u (by decide)) (Bfr.rf.u (by decide))
      refine cr_cv (b := 2) (as := [.int (nI k), .int (nI m)]) (al0 := [some (.ref 2), some (.int (nI k)), some (.int (nI m))]) (r := []) d_124_31 cw_124 cm_11_115 cz_122 rfl rfl (hS.i (a := 2) (by decide) (by decide)) (by rw [cw_122]; exact (hS.s (a := 2) (by decide) (by decide) rfl)) (by rw [cw_122]; decide) rfl (cr_wk (Nat.le_of_ble_eq_true rfl) (k_change (tb := (m, cyN m)) hW1 hk6 ⟨hm6, cyN_lat h1⟩ up2_s (fun q hq => by rw [upr_s]; exact hw86 q hq))) (fun v1 S1 G1 B1 J1 R1 h1x => ?_)
      obtain ⟨q0_, hW2⟩ := h1x
      obtain rfl := q0_
      show CR _ _ 34 [some (.ref 2), some (.int (nI k)), some (.int (nI m))] [.int (nI m)] S1 G1 B1 J1 R1 _
      exact cr_ri d_124_34 cx_124 rfl ⟨rfl, hW2.mo⟩
    · exact absurd (sz_j h1 hm6) c11
theorem r_cyclic_y {g : Nat → Int32} {A : Nat → Nat → Int32} {n : Nat} {W : WS} (hW : WR n g A W) (hO : CoOk (wK W)) {k : Nat} (hk6 : k < 6) {m : Nat} (h1 : 1 ≤ m) (hm6 : m ≤ 6) (hn5 : n ≤ 10000) : RR 80 225 0 [some (.ref 146), some (.int (nI k)), some (.int (nI m)), none] [] g A (fun r g' A' => r = some (.int (nI m)) ∧ WR (n + 1) g' A' (chW W k (m, cyN m))) := by
  have h36 := Nat.mul_le_mul hm6 hm6
  refine rr_nx (pc' := 1) (al' := [some (.ref 146), some (.int (nI k)), some (.int (nI m)), none]) (st' := [.int (nI k)]) d_225_0 (fun _ => rfl) ?_
  refine rr_ps (as := [.int (nI k)]) (al0 := [some (.int (nI k))]) (r := []) d_225_1 mo_225 ml_117 mz_185 rfl rfl rfl (Nat.le_of_ble_eq_true rfl) (s_isSlot (nI k)) ?_
  show RR _ _ 4 [some (.ref 146), some (.int (nI k)), some (.int (nI m)), none] [.int (bI (nI 0 ≤ (nI k) ∧ (nI k) ≤ nI 5))] g A _
  refine rr_beq (t := 17) d_225_4 (by decide) (fun c4 => ?_) (fun c4 => ?_)
  · exact absurd ((in_r (m := 5) (by decide)).mpr ((in_j (by omega)).mpr hk6)) c4
  · refine rr_nx (pc' := 8) (al' := [some (.ref 146), some (.int (nI k)), some (.int (nI m)), none]) (st' := [.int (nI m)]) d_225_7 (fun _ => rfl) ?_
    refine rn_ic (v := 1) d_225_8 (by decide) ?_
    refine rn_bp (v := 6) d_225_9 (by decide) ?_
    refine rr_ps (as := [.int (nI m), .int (nI 1), .int (nI 6)]) (al0 := [some (.int (nI m)), some (.int (nI 1)), some (.int (nI 6))]) (r := []) d_225_11 mo_225 ml_106 mz_179 rfl rfl rfl (Nat.le_of_ble_eq_true rfl) (s_lies (nI m) (nI 1) (nI 6)) ?_
    show RR _ _ 14 [some (.ref 146), some (.int (nI k)), some (.int (nI m)), none] [.int (bI ((nI 1) ≤ (nI m) ∧ (nI m) ≤ (nI 6)))] g A _
    refine rr_bne (t := 23) d_225_14 (by decide) (fun c14 => ?_) (fun c14 => ?_)
    · refine rr_nx (pc' := 24) (al' := [some (.ref 146), some (.int (nI k)), some (.int (nI m)), none]) (st' := [.ref 146]) d_225_23 (fun _ => rfl) ?_
      refine rr_nx (pc' := 25) (al' := [some (.ref 146), some (.int (nI k)), some (.int (nI m)), none]) (st' := [.int (nI m), .ref 146]) d_225_24 (fun _ => rfl) ?_
      refine rp_8 d_225_25 mo_225 fl_134  ?_
      refine rn_ic (v := 0) d_225_28 (by decide) ?_
      refine rr_nx (pc' := 30) (al' := [some (.ref 146), some (.int (nI k)), some (.int (nI m)), some (.int (nI 0))]) (st' := []) d_225_29 (fun _ => rfl) ?_
      refine rr_A (show A = (rf_u A 5 (A 5)) by rw [rf_u_id]) ?_
      refine rr_upw (al := fun i w_ => [some (.ref 146), some (.int (nI k)), some (.int (nI m)), some (.int (nI i))]) (G := fun i w_ => (upd g 8 (nI m))) (B := fun i w_ => (rf_u A 5 w_)) (P := fun i w_ => ∀ q, q < i → w_ q = nI (cyN m q)) (n := m * m) (fun i w_ hi pi ihi => ?_) (fun w_ pi => ?_) 0 (A 5) (by omega) (all_0)
      · show RR _ _ 30 [some (.ref 146), some (.int (nI k)), some (.int (nI m)), some (.int (nI i))] [] (upd g 8 (nI m)) (rf_u A 5 w_) _
        refine rr_nx (pc' := 31) (al' := [some (.ref 146), some (.int (nI k)), some (.int (nI m)), some (.int (nI i))]) (st' := [.int (nI i)]) d_225_30 (fun _ => rfl) ?_
        refine rr_nx (pc' := 32) (al' := [some (.ref 146), some (.int (nI k)), some (.int (nI m)), some (.int (nI i))]) (st' := [.ref 146, .int (nI i)]) d_225_31 (fun _ => rfl) ?_
        refine rr_gf (v := .int (nI m)) d_225_32 mo_225 fl_134 rfl ?_
        refine rr_nx (pc' := 36) (al' := [some (.ref 146), some (.int (nI k)), some (.int (nI m)), some (.int (nI i))]) (st' := [.ref 146, .int (nI m), .int (nI i)]) d_225_35 (fun _ => rfl) ?_
        refine rr_gf (v := .int (nI m)) d_225_36 mo_225 fl_134 rfl ?_
        refine rn_mul d_225_39  ?_
        refine rn_cge (t := 73) d_225_40 (by decide) (by omega) (by omega) (fun c40 => ?_) (fun c40 => ?_)
        · omega
        · refine rr_nx (pc' := 44) (al' := [some (.ref 146), some (.int (nI k)), some (.int (nI m)), some (.int (nI i))]) (st' := [.ref 146]) d_225_43 (fun _ => rfl) ?_
          refine rr_gf (v := .ref (147 + 5)) d_225_44 mo_225 fl_26 rfl ?_
          refine rr_nx (pc' := 48) (al' := [some (.ref 146), some (.int (nI k)), some (.int (nI m)), some (.int (nI i))]) (st' := [.int (nI i), .ref (147 + 5)]) d_225_47 (fun _ => rfl) ?_
          refine rr_nx (pc' := 49) (al' := [some (.ref 146), some (.int (nI k)), some (.int (nI m)), some (.int (nI i))]) (st' := [.int (nI i), .int (nI i), .ref (147 + 5)]) d_225_48 (fun _ => rfl) ?_
          refine rr_nx (pc' := 50) (al' := [some (.ref 146), some (.int (nI k)), some (.int (nI m)), some (.int (nI i))]) (st' := [.ref 146, .int (nI i), .int (nI i), .ref (147 + 5)]) d_225_49 (fun _ => rfl) ?_
          refine rr_gf (v := .int (nI m)) d_225_50 mo_225 fl_134 rfl ?_
          refine rn_div d_225_53 (by omega) (by omega) (by omega) ?_
          refine rr_nx (pc' := 55) (al' := [some (.ref 146), some (.int (nI k)), some (.int (nI m)), some (.int (nI i))]) (st' := [.int (nI i), .int (nI (i / m)), .int (nI i), .ref (147 + 5)]) d_225_54 (fun _ => rfl) ?_
          refine rr_nx (pc' := 56) (al' := [some (.ref 146), some (.int (nI k)), some (.int (nI m)), some (.int (nI i))]) (st' := [.ref 146, .int (nI i), .int (nI (i / m)), .int (nI i), .ref (147 + 5)]) d_225_55 (fun _ => rfl) ?_
          refine rr_gf (v := .int (nI m)) d_225_56 mo_225 fl_134 rfl ?_
          refine rn_rem d_225_59 (by omega) (by omega) (by omega) ?_
          refine rn_add d_225_60  ?_
          refine rr_nx (pc' := 62) (al' := [some (.ref 146), some (.int (nI k)), some (.int (nI m)), some (.int (nI i))]) (st' := [.ref 146, .int (nI ((i / m) + (i % m))), .int (nI i), .ref (147 + 5)]) d_225_61 (fun _ => rfl) ?_
          refine rr_gf (v := .int (nI m)) d_225_62 mo_225 fl_134 rfl ?_
          refine rn_rem d_225_65 (by omega) (by have := Nat.div_le_self i m; have := Nat.mod_lt i (show 0 < m by omega); omega) (by omega) ?_
          refine rr_iS (j := 5) (A1 := (rf_u A 5 (upd w_ i (nI (((i / m) + (i % m)) % m))))) d_225_66 (by decide) rfl (by decide) (show i < 36 by omega) rf_uw ?_
          refine rn_inc d_225_67 rfl rfl ?_
          show RR _ _ 70 [some (.ref 146), some (.int (nI k)), some (.int (nI m)), some (.int (nI (i + 1)))] [] (upd g 8 (nI m)) (rf_u A 5 (upd w_ i (nI (((i / m) + (i % m)) % m)))) _
          refine rr_nx (pc' := 30) (al' := [some (.ref 146), some (.int (nI k)), some (.int (nI m)), some (.int (nI (i + 1)))]) (st' := []) d_225_70 (fun _ => rfl) ?_
          exact ihi (upd w_ i (nI (((i / m) + (i % m)) % m))) (up_all (f := fun q => nI (cyN m q)) pi rfl)
      · show RR _ _ 30 [some (.ref 146), some (.int (nI k)), some (.int (nI m)), some (.int (nI (m * m)))] [] (upd g 8 (nI m)) (rf_u A 5 w_) _
        refine rr_nx (pc' := 31) (al' := [some (.ref 146), some (.int (nI k)), some (.int (nI m)), some (.int (nI (m * m)))]) (st' := [.int (nI (m * m))]) d_225_30 (fun _ => rfl) ?_
        refine rr_nx (pc' := 32) (al' := [some (.ref 146), some (.int (nI k)), some (.int (nI m)), some (.int (nI (m * m)))]) (st' := [.ref 146, .int (nI (m * m))]) d_225_31 (fun _ => rfl) ?_
        refine rr_gf (v := .int (nI m)) d_225_32 mo_225 fl_134 rfl ?_
        refine rr_nx (pc' := 36) (al' := [some (.ref 146), some (.int (nI k)), some (.int (nI m)), some (.int (nI (m * m)))]) (st' := [.ref 146, .int (nI m), .int (nI (m * m))]) d_225_35 (fun _ => rfl) ?_
        refine rr_gf (v := .int (nI m)) d_225_36 mo_225 fl_134 rfl ?_
        refine rn_mul d_225_39  ?_
        refine rn_cge (t := 73) d_225_40 (by decide) (by omega) (by omega) (fun c40 => ?_) (fun c40 => ?_)
        · refine rr_nx (pc' := 74) (al' := [some (.ref 146), some (.int (nI k)), some (.int (nI m)), some (.int (nI (m * m)))]) (st' := [.ref 146]) d_225_73 (fun _ => rfl) ?_
          refine rr_nx (pc' := 75) (al' := [some (.ref 146), some (.int (nI k)), some (.int (nI m)), some (.int (nI (m * m)))]) (st' := [.int (nI k), .ref 146]) d_225_74 (fun _ => rfl) ?_
          have hW1 := hW.q (g' := (upd g 8 (nI m))) (A' := (rf_u A 5 w_)) (Gsm.rf.u rfl) (Ksm.rf.u rfl)
          refine rr_cv (as := [.int (nI k)]) (al0 := [some (.ref 146), some (.int (nI k)), none, none, none]) (r := []) d_225_75 mo_225 ml_257 mz_224 rfl rfl rfl (rr_wk (Nat.le_of_ble_eq_true rfl) (s_becomes (m := m) (c := cyN m) hW1.1.1 hO.1 hk6 hm6 (by rfl) (fun q hq => by rw [rf_u_s]; exact pi q hq))) (fun v1 g1 A1 h1x => ?_)
          obtain ⟨q0_, q1_, f1, q2_, hH1, hf1⟩ := h1x
          obtain rfl := q0_
          obtain rfl := q1_
          obtain rfl := q2_
          show RR _ _ 78 [some (.ref 146), some (.int (nI k)), some (.int (nI m)), some (.int (nI (m * m)))] [] (upd g 8 (nI m)) (rf_u (rf_u A 5 w_) 1 f1) _
          refine rr_nx (pc' := 79) (al' := [some (.ref 146), some (.int (nI k)), some (.int (nI m)), some (.int (nI (m * m)))]) (st' := [.ref 146]) d_225_78 (fun _ => rfl) ?_
          refine rr_nx (pc' := 80) (al' := [some (.ref 146), some (.int (nI k)), some (.int (nI m)), some (.int (nI (m * m)))]) (st' := [.ref 146, .ref 146]) d_225_79 (fun _ => rfl) ?_
          refine rr_gf (v := .int (nI m)) d_225_80 mo_225 fl_134 rfl ?_
          refine rr_pv (as := [.int (nI m)]) (al0 := [some (.ref 146), some (.int (nI m))]) (r := []) d_225_83 mo_225 ml_114 mz_181 rfl rfl rfl (Nat.le_of_ble_eq_true rfl) (s_good _) ?_
          show RR _ _ 86 [some (.ref 146), some (.int (nI k)), some (.int (nI m)), some (.int (nI (m * m)))] [.int (nI m)] (upd (upd (upd g 8 (nI m)) 0 (nI 0)) 1 ((upd g 8 (nI m)) 1 + nI 1)) (rf_u (rf_u A 5 w_) 1 f1) _
          exact rr_ri d_225_86 mr_225 rfl ⟨rfl, hW1.ch (by omega) hH1 hf1 rfl hO⟩
        · omega
    · exact absurd (sz_r.mpr (sz_j h1 hm6)) c14
theorem p_cyclic_a {S : CS} {G : Nat → Nat → Value} {B : Nat → Nat → Int32} {J : Nat → Nat → Int64} {R : Nat → Nat → Option Nat} {n : Nat} {W : WS} (hW : WC n S G B R W) {t : Int32} (hp6 : ¬ inP t 6) {u : Int32} : CR 80 124 0 [some (.ref 2), some (.int t), some (.int u)] [] S G B J R (fun r S' G' B' J' R' => r = some (.int (-1)) ∧ WC (n + 1) S' G' B' R' (refW W (-1) 1)) := by
  have hS := hW.1.1
  have hF := hW.2.1
  have hO := hW.2.2.2.1
  obtain ⟨ta, ka, la, hH, hLk, hl2, hs3, hbd⟩ := hW.2.2.1
  refine cr_nx (pc' := 1) (al' := [some (.ref 2), some (.int t), some (.int u)]) (st' := [.int t]) d_124_0 (fun _ => rfl) ?_
  refine cr_ps (as := [.int t]) (al0 := [some (.int t)]) (r := []) d_124_1 cw_124 cm_11_100 (by decide) cz_118 rfl rfl rfl (Nat.le_of_ble_eq_true rfl) (k_isPlace) ?_
  show CR _ _ 4 [some (.ref 2), some (.int t), some (.int u)] [.int (bI (inP t 6))] S G B J R _
  refine cr_beq (t := 14) d_124_4 (by decide) (fun c4 => ?_) (fun c4 => ?_)
  · refine cr_nx (pc' := 15) (al' := [some (.ref 2), some (.int t), some (.int u)]) (st' := [.ref 2]) d_124_14 (fun _ => rfl) ?_
    refine cr_nx (pc' := 16) (al' := [some (.ref 2), some (.int t), some (.int u)]) (st' := [.int (-1), .ref 2]) d_124_15 (fun _ => rfl) ?_
    refine cr_pv (b := 2) (as := [.int (-1)]) (al0 := [some (.ref 2), some (.int (-1))]) (r := []) d_124_16 cw_124 cm_11_104 cz_119 rfl rfl (hS.i (a := 2) (by decide) (by decide)) (by rw [cw_119]; exact (hS.s (a := 2) (by decide) (by decide) rfl)) (by rw [cw_119]; decide) rfl (Nat.le_of_ble_eq_true rfl) (k_refuse (e := 1) hS hF (by decide) (by decide)) ?_
    show CR _ _ 19 [some (.ref 2), some (.int t), some (.int u)] [.int (-1)] S (up2 G 2 16 (.int (-1))) (upr B 145 (upd (B 145) 1 (B 145 1 + nI 1))) J R _
    exact cr_ri d_124_19 cx_124 rfl ⟨rfl, (hW.rf (by decide)).mo⟩
  · exact absurd c4 hp6
theorem r_cyclic_a {g : Nat → Int32} {A : Nat → Nat → Int32} {n : Nat} {W : WS} (hW : WR n g A W) (hO : CoOk (wK W)) {t : Int32} (hp6 : ¬ inP t 6) {u : Int32} : RR 80 225 0 [some (.ref 146), some (.int t), some (.int u), none] [] g A (fun r g' A' => r = some (.int (-1)) ∧ WR (n + 1) g' A' (refW W (-1) 1)) := by
  refine rr_nx (pc' := 1) (al' := [some (.ref 146), some (.int t), some (.int u), none]) (st' := [.int t]) d_225_0 (fun _ => rfl) ?_
  refine rr_ps (as := [.int t]) (al0 := [some (.int t)]) (r := []) d_225_1 mo_225 ml_117 mz_185 rfl rfl rfl (Nat.le_of_ble_eq_true rfl) (s_isSlot t) ?_
  show RR _ _ 4 [some (.ref 146), some (.int t), some (.int u), none] [.int (bI (nI 0 ≤ t ∧ t ≤ nI 5))] g A _
  refine rr_beq (t := 17) d_225_4 (by decide) (fun c4 => ?_) (fun c4 => ?_)
  · refine rr_nx (pc' := 18) (al' := [some (.ref 146), some (.int t), some (.int u), none]) (st' := [.ref 146]) d_225_17 (fun _ => rfl) ?_
    refine rr_nx (pc' := 19) (al' := [some (.ref 146), some (.int t), some (.int u), none]) (st' := [.int (-1), .ref 146]) d_225_18 (fun _ => rfl) ?_
    have hW1 := hW.q (g' := g) (A' := A) Gsm.rf Ksm.rf
    refine rr_pv (as := [.int (-1)]) (al0 := [some (.ref 146), some (.int (-1))]) (r := []) d_225_19 mo_225 ml_110 mz_180 rfl rfl rfl (Nat.le_of_ble_eq_true rfl) (s_refuses (e := 1) (by decide) (by decide)) ?_
    show RR _ _ 22 [some (.ref 146), some (.int t), some (.int u), none] [.int (-1)] (upd g 0 (-1)) (rf_u A 0 (upd (A 0) 1 (A 0 1 + nI 1))) _
    exact rr_ri d_225_22 mr_225 rfl ⟨rfl, (hW1.rf (by decide)).mo⟩
  · exact absurd c4 (fun e_ => hp6 ((in_r (m := 5) (by decide)).mp e_))
theorem p_cyclic_b {S : CS} {G : Nat → Nat → Value} {B : Nat → Nat → Int32} {J : Nat → Nat → Int64} {R : Nat → Nat → Option Nat} {n : Nat} {W : WS} (hW : WC n S G B R W) {k : Nat} (hk6 : k < 6) {u : Int32} (hu : ¬ szP u) : CR 80 124 0 [some (.ref 2), some (.int (nI k)), some (.int u)] [] S G B J R (fun r S' G' B' J' R' => r = some (.int (-1)) ∧ WC (n + 1) S' G' B' R' (refW W (-1) 1)) := by
  have hS := hW.1.1
  have hF := hW.2.1
  have hO := hW.2.2.2.1
  obtain ⟨ta, ka, la, hH, hLk, hl2, hs3, hbd⟩ := hW.2.2.1
  refine cr_nx (pc' := 1) (al' := [some (.ref 2), some (.int (nI k)), some (.int u)]) (st' := [.int (nI k)]) d_124_0 (fun _ => rfl) ?_
  refine cr_ps (as := [.int (nI k)]) (al0 := [some (.int (nI k))]) (r := []) d_124_1 cw_124 cm_11_100 (by decide) cz_118 rfl rfl rfl (Nat.le_of_ble_eq_true rfl) (k_isPlace) ?_
  show CR _ _ 4 [some (.ref 2), some (.int (nI k)), some (.int u)] [.int (bI (inP (nI k) 6))] S G B J R _
  refine cr_beq (t := 14) d_124_4 (by decide) (fun c4 => ?_) (fun c4 => ?_)
  · exact absurd ((in_j (by omega)).mpr hk6) c4
  · refine cr_nx (pc' := 8) (al' := [some (.ref 2), some (.int (nI k)), some (.int u)]) (st' := [.int u]) d_124_7 (fun _ => rfl) ?_
    refine cr_ps (as := [.int u]) (al0 := [some (.int u)]) (r := []) d_124_8 cw_124 cm_11_119 (by decide) cz_121 rfl rfl rfl (Nat.le_of_ble_eq_true rfl) (k_isSize) ?_
    show CR _ _ 11 [some (.ref 2), some (.int (nI k)), some (.int u)] [.int (bI (szP u))] S G B J R _
    refine cr_bne (t := 20) d_124_11 (by decide) (fun c11 => ?_) (fun c11 => ?_)
    · exact absurd c11 hu
    · refine cr_nx (pc' := 15) (al' := [some (.ref 2), some (.int (nI k)), some (.int u)]) (st' := [.ref 2]) d_124_14 (fun _ => rfl) ?_
      refine cr_nx (pc' := 16) (al' := [some (.ref 2), some (.int (nI k)), some (.int u)]) (st' := [.int (-1), .ref 2]) d_124_15 (fun _ => rfl) ?_
      refine cr_pv (b := 2) (as := [.int (-1)]) (al0 := [some (.ref 2), some (.int (-1))]) (r := []) d_124_16 cw_124 cm_11_104 cz_119 rfl rfl (hS.i (a := 2) (by decide) (by decide)) (by rw [cw_119]; exact (hS.s (a := 2) (by decide) (by decide) rfl)) (by rw [cw_119]; decide) rfl (Nat.le_of_ble_eq_true rfl) (k_refuse (e := 1) hS hF (by decide) (by decide)) ?_
      show CR _ _ 19 [some (.ref 2), some (.int (nI k)), some (.int u)] [.int (-1)] S (up2 G 2 16 (.int (-1))) (upr B 145 (upd (B 145) 1 (B 145 1 + nI 1))) J R _
      exact cr_ri d_124_19 cx_124 rfl ⟨rfl, (hW.rf (by decide)).mo⟩
theorem r_cyclic_b {g : Nat → Int32} {A : Nat → Nat → Int32} {n : Nat} {W : WS} (hW : WR n g A W) (hO : CoOk (wK W)) {k : Nat} (hk6 : k < 6) {u : Int32} (hu : ¬ szP u) : RR 80 225 0 [some (.ref 146), some (.int (nI k)), some (.int u), none] [] g A (fun r g' A' => r = some (.int (-1)) ∧ WR (n + 1) g' A' (refW W (-1) 1)) := by
  refine rr_nx (pc' := 1) (al' := [some (.ref 146), some (.int (nI k)), some (.int u), none]) (st' := [.int (nI k)]) d_225_0 (fun _ => rfl) ?_
  refine rr_ps (as := [.int (nI k)]) (al0 := [some (.int (nI k))]) (r := []) d_225_1 mo_225 ml_117 mz_185 rfl rfl rfl (Nat.le_of_ble_eq_true rfl) (s_isSlot (nI k)) ?_
  show RR _ _ 4 [some (.ref 146), some (.int (nI k)), some (.int u), none] [.int (bI (nI 0 ≤ (nI k) ∧ (nI k) ≤ nI 5))] g A _
  refine rr_beq (t := 17) d_225_4 (by decide) (fun c4 => ?_) (fun c4 => ?_)
  · exact absurd ((in_r (m := 5) (by decide)).mpr ((in_j (by omega)).mpr hk6)) c4
  · refine rr_nx (pc' := 8) (al' := [some (.ref 146), some (.int (nI k)), some (.int u), none]) (st' := [.int u]) d_225_7 (fun _ => rfl) ?_
    refine rn_ic (v := 1) d_225_8 (by decide) ?_
    refine rn_bp (v := 6) d_225_9 (by decide) ?_
    refine rr_ps (as := [.int u, .int (nI 1), .int (nI 6)]) (al0 := [some (.int u), some (.int (nI 1)), some (.int (nI 6))]) (r := []) d_225_11 mo_225 ml_106 mz_179 rfl rfl rfl (Nat.le_of_ble_eq_true rfl) (s_lies u (nI 1) (nI 6)) ?_
    show RR _ _ 14 [some (.ref 146), some (.int (nI k)), some (.int u), none] [.int (bI ((nI 1) ≤ u ∧ u ≤ (nI 6)))] g A _
    refine rr_bne (t := 23) d_225_14 (by decide) (fun c14 => ?_) (fun c14 => ?_)
    · exact absurd c14 (fun e_ => hu (sz_r.mp e_))
    · refine rr_nx (pc' := 18) (al' := [some (.ref 146), some (.int (nI k)), some (.int u), none]) (st' := [.ref 146]) d_225_17 (fun _ => rfl) ?_
      refine rr_nx (pc' := 19) (al' := [some (.ref 146), some (.int (nI k)), some (.int u), none]) (st' := [.int (-1), .ref 146]) d_225_18 (fun _ => rfl) ?_
      have hW1 := hW.q (g' := g) (A' := A) Gsm.rf Ksm.rf
      refine rr_pv (as := [.int (-1)]) (al0 := [some (.ref 146), some (.int (-1))]) (r := []) d_225_19 mo_225 ml_110 mz_180 rfl rfl rfl (Nat.le_of_ble_eq_true rfl) (s_refuses (e := 1) (by decide) (by decide)) ?_
      show RR _ _ 22 [some (.ref 146), some (.int (nI k)), some (.int u), none] [.int (-1)] (upd g 0 (-1)) (rf_u A 0 (upd (A 0) 1 (A 0 1 + nI 1))) _
      exact rr_ri d_225_22 mr_225 rfl ⟨rfl, (hW1.rf (by decide)).mo⟩
theorem T_cyclic {S : CS} {G : Nat → Nat → Value} {B : Nat → Nat → Int32} {J : Nat → Nat → Int64} {R : Nat → Nat → Option Nat} {g : Nat → Int32} {A : Nat → Nat → Int32} {n : Nat} {W : WS} (hC : WC n S G B R W) (hR : WR n g A W) (hn : n ≤ 10000) {t : Int32} {u : Int32} : Tie n 124 225 [some (.ref 2), some (.int t), some (.int u)] [some (.ref 146), some (.int t), some (.int u), none] S G B J R g A W := by
  have hO := hC.2.2.2.1
  by_cases hp6 : inP t 6
  · obtain ⟨k, hk6, e_⟩ := in_n hp6
    subst e_
    by_cases hu : szP u
    · obtain ⟨m, h1, hm6, e_⟩ := sz_n hu
      subst e_
      exact ⟨_, _, p_cyclic_y hC hk6 h1 hm6, r_cyclic_y hR hO hk6 h1 hm6 hn⟩
    · exact ⟨_, _, p_cyclic_b hC hk6 hu, r_cyclic_b hR hO hk6 hu⟩
  · exact ⟨_, _, p_cyclic_a hC hp6, r_cyclic_a hR hO hp6⟩
theorem p_copy_y {S : CS} {G : Nat → Nat → Value} {B : Nat → Nat → Int32} {J : Nat → Nat → Int64} {R : Nat → Nat → Option Nat} {n : Nat} {W : WS} (hW : WC n S G B R W) {k : Nat} (hk6 : k < 6) {j m : Nat} {c : Nat → Nat} (hj : j < 6) (htb : tbK (wK W) j = (m, c)) (h1 : 1 ≤ m) : CR 80 125 0 [some (.ref 2), some (.int (nI k)), some (.int (nI j))] [] S G B J R (fun r S' G' B' J' R' => r = some (.int (nI m)) ∧ WC (n + 1) S' G' B' R' (chW W k (m, c))) := by
  have hS := hW.1.1
  have hF := hW.2.1
  have hO := hW.2.2.2.1
  obtain ⟨ta, ka, la, hH, hLk, hl2, hs3, hbd⟩ := hW.2.2.1
  obtain ⟨zt, hzt, ezt⟩ := (hH.2.1 j hj).2
  have ht := hH.ta hj
  have hsh := hH.2.2.2.2.2.2.1 j hj
  rw [show kH (wK W) (kD (wK W)) j = (m, c) from htb] at hsh
  have hok := tb_ok hO hj
  rw [htb] at hok
  have hn : G (ta j) 0 = .int (nI m) := hsh.1
  have hc : TabC B (ta j) m c := hsh.c hok
  have hl : Lat m c := hok.2
  have hm6 : m ≤ 6 := hok.1
  have hyes : hasP (wK W) (nI j) := (has_i hj).mpr (by rw [htb]; exact h1)
  refine cr_nx (pc' := 1) (al' := [some (.ref 2), some (.int (nI k)), some (.int (nI j))]) (st' := [.int (nI k)]) d_125_0 (fun _ => rfl) ?_
  refine cr_ps (as := [.int (nI k)]) (al0 := [some (.int (nI k))]) (r := []) d_125_1 cw_125 cm_11_100 (by decide) cz_118 rfl rfl rfl (Nat.le_of_ble_eq_true rfl) (k_isPlace) ?_
  show CR _ _ 4 [some (.ref 2), some (.int (nI k)), some (.int (nI j))] [.int (bI (inP (nI k) 6))] S G B J R _
  refine cr_bne (t := 13) d_125_4 (by decide) (fun c4 => ?_) (fun c4 => ?_)
  · refine cr_nx (pc' := 14) (al' := [some (.ref 2), some (.int (nI k)), some (.int (nI j))]) (st' := [.ref 2]) d_125_13 (fun _ => rfl) ?_
    refine cr_nx (pc' := 15) (al' := [some (.ref 2), some (.int (nI k)), some (.int (nI j))]) (st' := [.int (nI j), .ref 2]) d_125_14 (fun _ => rfl) ?_
    refine cr_pv (b := 2) (as := [.int (nI j)]) (al0 := [some (.ref 2), some (.int (nI j))]) (r := []) d_125_15 cw_125 cm_11_137 cz_126 rfl rfl (hS.i (a := 2) (by decide) (by decide)) (by rw [cw_126]; exact (hS.s (a := 2) (by decide) (by decide) rfl)) (by rw [cw_126]; decide) rfl (Nat.le_of_ble_eq_true rfl) (k_has hS hF hH hO) ?_
    show CR _ _ 18 [some (.ref 2), some (.int (nI k)), some (.int (nI j))] [.int (bI (hasP (wK W) (nI j)))] S G B J R _
    refine cr_bne (t := 28) d_125_18 (by decide) (fun c18 => ?_) (fun c18 => ?_)
    · refine cr_nx (pc' := 29) (al' := [some (.ref 2), some (.int (nI k)), some (.int (nI j))]) (st' := [.ref 2]) d_125_28 (fun _ => rfl) ?_
      refine cr_gf (v := .ref 86) d_125_29 cw_125 cf_11_38 (hS.i (a := 2) (by decide) (by decide)) (hS.s (a := 2) (by decide) (by decide) rfl) (by decide) (fx_2_6 hF) ?_
      refine cr_nx (pc' := 33) (al' := [some (.ref 2), some (.int (nI k)), some (.int (nI j))]) (st' := [.ref 2, .ref 86]) d_125_32 (fun _ => rfl) ?_
      refine cr_gf (v := .ref 3) d_125_33 cw_125 cf_11_10 (hS.i (a := 2) (by decide) (by decide)) (hS.s (a := 2) (by decide) (by decide) rfl) (by decide) (fx_2_0 hF) ?_
      refine cr_gf (v := .ref 4) d_125_36 cw_125 cf_11_140 (hS.i (a := 3) (by decide) (by decide)) (hS.s (a := 3) (by decide) (by decide) rfl) (by decide) (fx_3_0 hF) ?_
      refine cr_nx (pc' := 40) (al' := [some (.ref 2), some (.int (nI k)), some (.int (nI j))]) (st' := [.int (nI j), .ref 4, .ref 86]) d_125_39 (fun _ => rfl) ?_
      refine cr_aa (a := 4) (v := .ref (ta j)) d_125_40 (hS.i (a := 4) (by decide) (by decide)) (by decide) (hS.s (a := 4) (by decide) (by decide) rfl) (by decide) (show j < 6 by first | omega | assumption | exact cu_36 (by omega) (cu_lt (by omega) (by omega))) (show va_rf _ = _ by rw [(hH.2.1 j hj).1]; rfl) ?_
      refine cr_pv (b := 86) (as := [.ref (ta j)]) (al0 := [some (.ref 86), some (.ref (ta j))]) (r := []) d_125_41 cw_125 cm_11_144 cz_93 rfl rfl (hS.i (a := 86) (by decide) (by decide)) (by rw [cw_93]; exact (hS.s (a := 86) (by decide) (by decide) rfl)) (by rw [cw_93]; decide) rfl (Nat.le_of_ble_eq_true rfl) (k_become (tb_86 hS hF) ht (by omega) hn) ?_
      show CR _ _ 44 [some (.ref 2), some (.int (nI k)), some (.int (nI j))] [] S (up2 G 86 0 (.int (nI m))) (upr B 87 (va_cpy (B (ta j + 1)) (B 87) 0 0 36)) J R _
      refine cr_nx (pc' := 45) (al' := [some (.ref 2), some (.int (nI k)), some (.int (nI j))]) (st' := [.ref 2]) d_125_44 (fun _ => rfl) ?_
      refine cr_nx (pc' := 46) (al' := [some (.ref 2), some (.int (nI k)), some (.int (nI j))]) (st' := [.int (nI k), .ref 2]) d_125_45 (fun _ => rfl) ?_
      refine cr_nx (pc' := 47) (al' := [some (.ref 2), some (.int (nI k)), some (.int (nI j))]) (st' := [.ref 2, .int (nI k), .ref 2]) d_125_46 (fun _ => rfl) ?_
      refine cr_gf (v := .ref 86) d_125_47 cw_125 cf_11_38 (hS.i (a := 2) (by decide) (by decide)) (hS.s (a := 2) (by decide) (by decide) rfl) (by decide) (by simp [up2]; exact (fx_2_6 hF)) ?_
      refine cr_gf (v := .int (nI m)) d_125_50 cw_125 cf_11_112 (hS.i (a := 86) (by decide) (by decide)) (hS.s (a := 86) (by decide) (by decide) rfl) (by decide) (by simp [up2]) ?_
      have hW1 : WC n S (up2 G 86 0 (.int (nI m))) (upr B 87 (va_cpy (B (ta j + 1)) (B 87) 0 0 36)) R W := hW.q (FxG.ut hF) (Gfr.rf.u (by decide)) (Bfr.rf.u (by decide))
      refine cr_cv (b := 2) (as := [.int (nI k), .int (nI m)]) (al0 := [some (.ref 2), some (.int (nI k)), some (.int (nI m))]) (r := []) d_125_53 cw_125 cm_11_115 cz_122 rfl rfl (hS.i (a := 2) (by decide) (by decide)) (by rw [cw_122]; exact (hS.s (a := 2) (by decide) (by decide) rfl)) (by rw [cw_122]; decide) rfl (cr_wk (Nat.le_of_ble_eq_true rfl) (k_change (tb := (m, c)) hW1 hk6 hok up2_s (fun q hq => by rw [upr_s, cpy_36 (by have := Nat.mul_le_mul hm6 hm6; dsimp only at hq; omega)]; exact hsh.2 q hq))) (fun v1 S1 G1 B1 J1 R1 h1x => ?_)
      obtain ⟨q0_, hW2⟩ := h1x
      obtain rfl := q0_
      show CR _ _ 56 [some (.ref 2), some (.int (nI k)), some (.int (nI j))] [.int (nI m)] S1 G1 B1 J1 R1 _
      exact cr_ri d_125_56 cx_125 rfl ⟨rfl, hW2.mo⟩
    · exact absurd hyes c18
  · exact absurd ((in_j (by omega)).mpr hk6) c4
theorem r_copy_y {g : Nat → Int32} {A : Nat → Nat → Int32} {n : Nat} {W : WS} (hW : WR n g A W) (hO : CoOk (wK W)) {k : Nat} (hk6 : k < 6) {j m : Nat} {c : Nat → Nat} (hj : j < 6) (htb : tbK (wK W) j = (m, c)) (h1 : 1 ≤ m) (hn5 : n ≤ 10000) : RR 80 226 0 [some (.ref 146), some (.int (nI k)), some (.int (nI j)), none] [] g A (fun r g' A' => r = some (.int (nI m)) ∧ WR (n + 1) g' A' (chW W k (m, c))) := by
  have hsh := hW.1.1.1 j hj
  rw [show kH (wK W) (kD (wK W)) j = (m, c) from htb] at hsh
  have hok := tb_ok hO hj
  rw [htb] at hok
  have hk : A 1 (37 * j) = nI m := hsh.1
  have hl : Lat m c := hok.2
  have hm6 : m ≤ 6 := hok.1
  have hyes : isT A (nI j) := (has_r hW hO).mpr ((has_i hj).mpr (by rw [htb]; exact h1))
  have h36 := Nat.mul_le_mul hm6 hm6
  refine rr_nx (pc' := 1) (al' := [some (.ref 146), some (.int (nI k)), some (.int (nI j)), none]) (st' := [.int (nI k)]) d_226_0 (fun _ => rfl) ?_
  refine rr_ps (as := [.int (nI k)]) (al0 := [some (.int (nI k))]) (r := []) d_226_1 mo_226 ml_117 mz_185 rfl rfl rfl (Nat.le_of_ble_eq_true rfl) (s_isSlot (nI k)) ?_
  show RR _ _ 4 [some (.ref 146), some (.int (nI k)), some (.int (nI j)), none] [.int (bI (nI 0 ≤ (nI k) ∧ (nI k) ≤ nI 5))] g A _
  refine rr_bne (t := 13) d_226_4 (by decide) (fun c4 => ?_) (fun c4 => ?_)
  · refine rr_nx (pc' := 14) (al' := [some (.ref 146), some (.int (nI k)), some (.int (nI j)), none]) (st' := [.ref 146]) d_226_13 (fun _ => rfl) ?_
    refine rr_nx (pc' := 15) (al' := [some (.ref 146), some (.int (nI k)), some (.int (nI j)), none]) (st' := [.int (nI j), .ref 146]) d_226_14 (fun _ => rfl) ?_
    refine rr_pv (as := [.int (nI j)]) (al0 := [some (.ref 146), some (.int (nI j))]) (r := []) d_226_15 mo_226 ml_124 mz_184 rfl rfl rfl (Nat.le_of_ble_eq_true rfl) (s_isTable (nI j)) ?_
    show RR _ _ 18 [some (.ref 146), some (.int (nI k)), some (.int (nI j)), none] [.int (bI (isT A (nI j)))] g A _
    refine rr_bne (t := 28) d_226_18 (by decide) (fun c18 => ?_) (fun c18 => ?_)
    · refine rr_nx (pc' := 29) (al' := [some (.ref 146), some (.int (nI k)), some (.int (nI j)), none]) (st' := [.ref 146]) d_226_28 (fun _ => rfl) ?_
      refine rr_nx (pc' := 30) (al' := [some (.ref 146), some (.int (nI k)), some (.int (nI j)), none]) (st' := [.int (nI j), .ref 146]) d_226_29 (fun _ => rfl) ?_
      refine rr_pv (as := [.int (nI j)]) (al0 := [some (.ref 146), some (.int (nI j)), none]) (r := []) d_226_30 mo_226 ml_248 mz_208 rfl rfl rfl (Nat.le_of_ble_eq_true rfl) (s_lays (n := m) hj hm6 hk) ?_
      obtain ⟨wl30, hwl30⟩ : ∃ w_, w_ = rf_f (fun q => A 1 (37 * j + 1 + q)) (A 4) (m * m) := ⟨_, rfl⟩
      rw [← hwl30]
      show RR _ _ 33 [some (.ref 146), some (.int (nI k)), some (.int (nI j)), none] [] (upd g 6 (nI m)) (rf_u A 4 wl30) _
      have hcu := cur_l (g := g) hsh hm6 hl hwl30
      refine rr_nx (pc' := 34) (al' := [some (.ref 146), some (.int (nI k)), some (.int (nI j)), none]) (st' := [.ref 146]) d_226_33 (fun _ => rfl) ?_
      refine rr_nx (pc' := 35) (al' := [some (.ref 146), some (.int (nI k)), some (.int (nI j)), none]) (st' := [.ref 146, .ref 146]) d_226_34 (fun _ => rfl) ?_
      refine rr_gf (v := .int (nI m)) d_226_35 mo_226 fl_127 rfl ?_
      refine rp_8 d_226_38 mo_226 fl_134  ?_
      refine rn_ic (v := 0) d_226_41 (by decide) ?_
      refine rr_nx (pc' := 43) (al' := [some (.ref 146), some (.int (nI k)), some (.int (nI j)), some (.int (nI 0))]) (st' := []) d_226_42 (fun _ => rfl) ?_
      refine rr_A (show (rf_u A 4 wl30) = (rf_u (rf_u A 4 wl30) 5 (A 5)) by rw [show A 5 = rf_u A 4 wl30 5 by rw [rf_u_n (by decide)], rf_u_id]) ?_
      refine rr_upw (al := fun i w_ => [some (.ref 146), some (.int (nI k)), some (.int (nI j)), some (.int (nI i))]) (G := fun i w_ => (upd (upd g 6 (nI m)) 8 (nI m))) (B := fun i w_ => (rf_u (rf_u A 4 wl30) 5 w_)) (P := fun i w_ => ∀ q, q < i → w_ q = nI (c q)) (n := m * m) (fun i w_ hi pi ihi => ?_) (fun w_ pi => ?_) 0 (A 5) (by omega) (all_0)
      · show RR _ _ 43 [some (.ref 146), some (.int (nI k)), some (.int (nI j)), some (.int (nI i))] [] (upd (upd g 6 (nI m)) 8 (nI m)) (rf_u (rf_u A 4 wl30) 5 w_) _
        refine rr_nx (pc' := 44) (al' := [some (.ref 146), some (.int (nI k)), some (.int (nI j)), some (.int (nI i))]) (st' := [.int (nI i)]) d_226_43 (fun _ => rfl) ?_
        refine rr_nx (pc' := 45) (al' := [some (.ref 146), some (.int (nI k)), some (.int (nI j)), some (.int (nI i))]) (st' := [.ref 146, .int (nI i)]) d_226_44 (fun _ => rfl) ?_
        refine rr_gf (v := .int (nI m)) d_226_45 mo_226 fl_127 rfl ?_
        refine rr_nx (pc' := 49) (al' := [some (.ref 146), some (.int (nI k)), some (.int (nI j)), some (.int (nI i))]) (st' := [.ref 146, .int (nI m), .int (nI i)]) d_226_48 (fun _ => rfl) ?_
        refine rr_gf (v := .int (nI m)) d_226_49 mo_226 fl_127 rfl ?_
        refine rn_mul d_226_52  ?_
        refine rn_cge (t := 74) d_226_53 (by decide) (by omega) (by omega) (fun c53 => ?_) (fun c53 => ?_)
        · omega
        · refine rr_nx (pc' := 57) (al' := [some (.ref 146), some (.int (nI k)), some (.int (nI j)), some (.int (nI i))]) (st' := [.ref 146]) d_226_56 (fun _ => rfl) ?_
          refine rr_gf (v := .ref (147 + 5)) d_226_57 mo_226 fl_26 rfl ?_
          refine rr_nx (pc' := 61) (al' := [some (.ref 146), some (.int (nI k)), some (.int (nI j)), some (.int (nI i))]) (st' := [.int (nI i), .ref (147 + 5)]) d_226_60 (fun _ => rfl) ?_
          refine rr_nx (pc' := 62) (al' := [some (.ref 146), some (.int (nI k)), some (.int (nI j)), some (.int (nI i))]) (st' := [.ref 146, .int (nI i), .ref (147 + 5)]) d_226_61 (fun _ => rfl) ?_
          refine rr_gf (v := .ref (147 + 4)) d_226_62 mo_226 fl_23 rfl ?_
          refine rr_nx (pc' := 66) (al' := [some (.ref 146), some (.int (nI k)), some (.int (nI j)), some (.int (nI i))]) (st' := [.int (nI i), .ref (147 + 4), .int (nI i), .ref (147 + 5)]) d_226_65 (fun _ => rfl) ?_
          refine rr_ia (j := 4) (v := (nI (c i))) d_226_66 (by decide) rfl (by decide) (show i < 36 by omega) ((congrFun (rf_u_n (by decide)) i).trans (hcu.2.2 i hi).1) ?_
          refine rr_iS (j := 5) (A1 := (rf_u (rf_u A 4 wl30) 5 (upd w_ i (nI (c i))))) d_226_67 (by decide) rfl (by decide) (show i < 36 by omega) rf_uw ?_
          refine rn_inc d_226_68 rfl rfl ?_
          show RR _ _ 71 [some (.ref 146), some (.int (nI k)), some (.int (nI j)), some (.int (nI (i + 1)))] [] (upd (upd g 6 (nI m)) 8 (nI m)) (rf_u (rf_u A 4 wl30) 5 (upd w_ i (nI (c i)))) _
          refine rr_nx (pc' := 43) (al' := [some (.ref 146), some (.int (nI k)), some (.int (nI j)), some (.int (nI (i + 1)))]) (st' := []) d_226_71 (fun _ => rfl) ?_
          exact ihi (upd w_ i (nI (c i))) (up_all (f := fun q => nI (c q)) pi rfl)
      · show RR _ _ 43 [some (.ref 146), some (.int (nI k)), some (.int (nI j)), some (.int (nI (m * m)))] [] (upd (upd g 6 (nI m)) 8 (nI m)) (rf_u (rf_u A 4 wl30) 5 w_) _
        refine rr_nx (pc' := 44) (al' := [some (.ref 146), some (.int (nI k)), some (.int (nI j)), some (.int (nI (m * m)))]) (st' := [.int (nI (m * m))]) d_226_43 (fun _ => rfl) ?_
        refine rr_nx (pc' := 45) (al' := [some (.ref 146), some (.int (nI k)), some (.int (nI j)), some (.int (nI (m * m)))]) (st' := [.ref 146, .int (nI (m * m))]) d_226_44 (fun _ => rfl) ?_
        refine rr_gf (v := .int (nI m)) d_226_45 mo_226 fl_127 rfl ?_
        refine rr_nx (pc' := 49) (al' := [some (.ref 146), some (.int (nI k)), some (.int (nI j)), some (.int (nI (m * m)))]) (st' := [.ref 146, .int (nI m), .int (nI (m * m))]) d_226_48 (fun _ => rfl) ?_
        refine rr_gf (v := .int (nI m)) d_226_49 mo_226 fl_127 rfl ?_
        refine rn_mul d_226_52  ?_
        refine rn_cge (t := 74) d_226_53 (by decide) (by omega) (by omega) (fun c53 => ?_) (fun c53 => ?_)
        · refine rr_nx (pc' := 75) (al' := [some (.ref 146), some (.int (nI k)), some (.int (nI j)), some (.int (nI (m * m)))]) (st' := [.ref 146]) d_226_74 (fun _ => rfl) ?_
          refine rr_nx (pc' := 76) (al' := [some (.ref 146), some (.int (nI k)), some (.int (nI j)), some (.int (nI (m * m)))]) (st' := [.int (nI k), .ref 146]) d_226_75 (fun _ => rfl) ?_
          have hW1 := hW.q (g' := (upd (upd g 6 (nI m)) 8 (nI m))) (A' := (rf_u (rf_u A 4 wl30) 5 w_)) ((Gsm.rf.u rfl).u rfl) ((Ksm.rf.u rfl).u rfl)
          refine rr_cv (as := [.int (nI k)]) (al0 := [some (.ref 146), some (.int (nI k)), none, none, none]) (r := []) d_226_76 mo_226 ml_257 mz_224 rfl rfl rfl (rr_wk (Nat.le_of_ble_eq_true rfl) (s_becomes (m := m) (c := c) hW1.1.1 hO.1 hk6 hm6 (by rfl) (fun q hq => by rw [rf_u_s]; exact pi q hq))) (fun v1 g1 A1 h1x => ?_)
          obtain ⟨q0_, q1_, f1, q2_, hH1, hf1⟩ := h1x
          obtain rfl := q0_
          obtain rfl := q1_
          obtain rfl := q2_
          show RR _ _ 79 [some (.ref 146), some (.int (nI k)), some (.int (nI j)), some (.int (nI (m * m)))] [] (upd (upd g 6 (nI m)) 8 (nI m)) (rf_u (rf_u (rf_u A 4 wl30) 5 w_) 1 f1) _
          refine rr_nx (pc' := 80) (al' := [some (.ref 146), some (.int (nI k)), some (.int (nI j)), some (.int (nI (m * m)))]) (st' := [.ref 146]) d_226_79 (fun _ => rfl) ?_
          refine rr_nx (pc' := 81) (al' := [some (.ref 146), some (.int (nI k)), some (.int (nI j)), some (.int (nI (m * m)))]) (st' := [.ref 146, .ref 146]) d_226_80 (fun _ => rfl) ?_
          refine rr_gf (v := .int (nI m)) d_226_81 mo_226 fl_134 rfl ?_
          refine rr_pv (as := [.int (nI m)]) (al0 := [some (.ref 146), some (.int (nI m))]) (r := []) d_226_84 mo_226 ml_114 mz_181 rfl rfl rfl (Nat.le_of_ble_eq_true rfl) (s_good _) ?_
          show RR _ _ 87 [some (.ref 146), some (.int (nI k)), some (.int (nI j)), some (.int (nI (m * m)))] [.int (nI m)] (upd (upd (upd (upd g 6 (nI m)) 8 (nI m)) 0 (nI 0)) 1 ((upd (upd g 6 (nI m)) 8 (nI m)) 1 + nI 1)) (rf_u (rf_u (rf_u A 4 wl30) 5 w_) 1 f1) _
          exact rr_ri d_226_87 mr_226 rfl ⟨rfl, hW1.ch (by omega) hH1 hf1 rfl hO⟩
        · omega
    · exact absurd hyes c18
  · exact absurd ((in_r (m := 5) (by decide)).mpr ((in_j (by omega)).mpr hk6)) c4
theorem p_copy_a {S : CS} {G : Nat → Nat → Value} {B : Nat → Nat → Int32} {J : Nat → Nat → Int64} {R : Nat → Nat → Option Nat} {n : Nat} {W : WS} (hW : WC n S G B R W) {t : Int32} (hp6 : ¬ inP t 6) {u : Int32} : CR 80 125 0 [some (.ref 2), some (.int t), some (.int u)] [] S G B J R (fun r S' G' B' J' R' => r = some (.int (-1)) ∧ WC (n + 1) S' G' B' R' (refW W (-1) 1)) := by
  have hS := hW.1.1
  have hF := hW.2.1
  have hO := hW.2.2.2.1
  obtain ⟨ta, ka, la, hH, hLk, hl2, hs3, hbd⟩ := hW.2.2.1
  refine cr_nx (pc' := 1) (al' := [some (.ref 2), some (.int t), some (.int u)]) (st' := [.int t]) d_125_0 (fun _ => rfl) ?_
  refine cr_ps (as := [.int t]) (al0 := [some (.int t)]) (r := []) d_125_1 cw_125 cm_11_100 (by decide) cz_118 rfl rfl rfl (Nat.le_of_ble_eq_true rfl) (k_isPlace) ?_
  show CR _ _ 4 [some (.ref 2), some (.int t), some (.int u)] [.int (bI (inP t 6))] S G B J R _
  refine cr_bne (t := 13) d_125_4 (by decide) (fun c4 => ?_) (fun c4 => ?_)
  · exact absurd c4 hp6
  · refine cr_nx (pc' := 8) (al' := [some (.ref 2), some (.int t), some (.int u)]) (st' := [.ref 2]) d_125_7 (fun _ => rfl) ?_
    refine cr_nx (pc' := 9) (al' := [some (.ref 2), some (.int t), some (.int u)]) (st' := [.int (-1), .ref 2]) d_125_8 (fun _ => rfl) ?_
    refine cr_pv (b := 2) (as := [.int (-1)]) (al0 := [some (.ref 2), some (.int (-1))]) (r := []) d_125_9 cw_125 cm_11_104 cz_119 rfl rfl (hS.i (a := 2) (by decide) (by decide)) (by rw [cw_119]; exact (hS.s (a := 2) (by decide) (by decide) rfl)) (by rw [cw_119]; decide) rfl (Nat.le_of_ble_eq_true rfl) (k_refuse (e := 1) hS hF (by decide) (by decide)) ?_
    show CR _ _ 12 [some (.ref 2), some (.int t), some (.int u)] [.int (-1)] S (up2 G 2 16 (.int (-1))) (upr B 145 (upd (B 145) 1 (B 145 1 + nI 1))) J R _
    exact cr_ri d_125_12 cx_125 rfl ⟨rfl, (hW.rf (by decide)).mo⟩
theorem r_copy_a {g : Nat → Int32} {A : Nat → Nat → Int32} {n : Nat} {W : WS} (hW : WR n g A W) (hO : CoOk (wK W)) {t : Int32} (hp6 : ¬ inP t 6) {u : Int32} : RR 80 226 0 [some (.ref 146), some (.int t), some (.int u), none] [] g A (fun r g' A' => r = some (.int (-1)) ∧ WR (n + 1) g' A' (refW W (-1) 1)) := by
  refine rr_nx (pc' := 1) (al' := [some (.ref 146), some (.int t), some (.int u), none]) (st' := [.int t]) d_226_0 (fun _ => rfl) ?_
  refine rr_ps (as := [.int t]) (al0 := [some (.int t)]) (r := []) d_226_1 mo_226 ml_117 mz_185 rfl rfl rfl (Nat.le_of_ble_eq_true rfl) (s_isSlot t) ?_
  show RR _ _ 4 [some (.ref 146), some (.int t), some (.int u), none] [.int (bI (nI 0 ≤ t ∧ t ≤ nI 5))] g A _
  refine rr_bne (t := 13) d_226_4 (by decide) (fun c4 => ?_) (fun c4 => ?_)
  · exact absurd c4 (fun e_ => hp6 ((in_r (m := 5) (by decide)).mp e_))
  · refine rr_nx (pc' := 8) (al' := [some (.ref 146), some (.int t), some (.int u), none]) (st' := [.ref 146]) d_226_7 (fun _ => rfl) ?_
    refine rr_nx (pc' := 9) (al' := [some (.ref 146), some (.int t), some (.int u), none]) (st' := [.int (-1), .ref 146]) d_226_8 (fun _ => rfl) ?_
    have hW1 := hW.q (g' := g) (A' := A) Gsm.rf Ksm.rf
    refine rr_pv (as := [.int (-1)]) (al0 := [some (.ref 146), some (.int (-1))]) (r := []) d_226_9 mo_226 ml_110 mz_180 rfl rfl rfl (Nat.le_of_ble_eq_true rfl) (s_refuses (e := 1) (by decide) (by decide)) ?_
    show RR _ _ 12 [some (.ref 146), some (.int t), some (.int u), none] [.int (-1)] (upd g 0 (-1)) (rf_u A 0 (upd (A 0) 1 (A 0 1 + nI 1))) _
    exact rr_ri d_226_12 mr_226 rfl ⟨rfl, (hW1.rf (by decide)).mo⟩
theorem p_copy_b {S : CS} {G : Nat → Nat → Value} {B : Nat → Nat → Int32} {J : Nat → Nat → Int64} {R : Nat → Nat → Option Nat} {n : Nat} {W : WS} (hW : WC n S G B R W) {k : Nat} (hk6 : k < 6) {t : Int32} (hh : ¬ hasP (wK W) t) : CR 80 125 0 [some (.ref 2), some (.int (nI k)), some (.int t)] [] S G B J R (fun r S' G' B' J' R' => r = some (.int (-2)) ∧ WC (n + 1) S' G' B' R' (refW W (-2) 2)) := by
  have hS := hW.1.1
  have hF := hW.2.1
  have hO := hW.2.2.2.1
  obtain ⟨ta, ka, la, hH, hLk, hl2, hs3, hbd⟩ := hW.2.2.1
  refine cr_nx (pc' := 1) (al' := [some (.ref 2), some (.int (nI k)), some (.int t)]) (st' := [.int (nI k)]) d_125_0 (fun _ => rfl) ?_
  refine cr_ps (as := [.int (nI k)]) (al0 := [some (.int (nI k))]) (r := []) d_125_1 cw_125 cm_11_100 (by decide) cz_118 rfl rfl rfl (Nat.le_of_ble_eq_true rfl) (k_isPlace) ?_
  show CR _ _ 4 [some (.ref 2), some (.int (nI k)), some (.int t)] [.int (bI (inP (nI k) 6))] S G B J R _
  refine cr_bne (t := 13) d_125_4 (by decide) (fun c4 => ?_) (fun c4 => ?_)
  · refine cr_nx (pc' := 14) (al' := [some (.ref 2), some (.int (nI k)), some (.int t)]) (st' := [.ref 2]) d_125_13 (fun _ => rfl) ?_
    refine cr_nx (pc' := 15) (al' := [some (.ref 2), some (.int (nI k)), some (.int t)]) (st' := [.int t, .ref 2]) d_125_14 (fun _ => rfl) ?_
    refine cr_pv (b := 2) (as := [.int t]) (al0 := [some (.ref 2), some (.int t)]) (r := []) d_125_15 cw_125 cm_11_137 cz_126 rfl rfl (hS.i (a := 2) (by decide) (by decide)) (by rw [cw_126]; exact (hS.s (a := 2) (by decide) (by decide) rfl)) (by rw [cw_126]; decide) rfl (Nat.le_of_ble_eq_true rfl) (k_has hS hF hH hO) ?_
    show CR _ _ 18 [some (.ref 2), some (.int (nI k)), some (.int t)] [.int (bI (hasP (wK W) t))] S G B J R _
    refine cr_bne (t := 28) d_125_18 (by decide) (fun c18 => ?_) (fun c18 => ?_)
    · exact absurd c18 hh
    · refine cr_nx (pc' := 22) (al' := [some (.ref 2), some (.int (nI k)), some (.int t)]) (st' := [.ref 2]) d_125_21 (fun _ => rfl) ?_
      refine cr_nx (pc' := 24) (al' := [some (.ref 2), some (.int (nI k)), some (.int t)]) (st' := [.int (-2), .ref 2]) d_125_22 (fun _ => rfl) ?_
      refine cr_pv (b := 2) (as := [.int (-2)]) (al0 := [some (.ref 2), some (.int (-2))]) (r := []) d_125_24 cw_125 cm_11_104 cz_119 rfl rfl (hS.i (a := 2) (by decide) (by decide)) (by rw [cw_119]; exact (hS.s (a := 2) (by decide) (by decide) rfl)) (by rw [cw_119]; decide) rfl (Nat.le_of_ble_eq_true rfl) (k_refuse (e := 2) hS hF (by decide) (by decide)) ?_
      show CR _ _ 27 [some (.ref 2), some (.int (nI k)), some (.int t)] [.int (-2)] S (up2 G 2 16 (.int (-2))) (upr B 145 (upd (B 145) 2 (B 145 2 + nI 1))) J R _
      exact cr_ri d_125_27 cx_125 rfl ⟨rfl, (hW.rf (by decide)).mo⟩
  · exact absurd ((in_j (by omega)).mpr hk6) c4
theorem r_copy_b {g : Nat → Int32} {A : Nat → Nat → Int32} {n : Nat} {W : WS} (hW : WR n g A W) (hO : CoOk (wK W)) {k : Nat} (hk6 : k < 6) {t : Int32} (hh : ¬ hasP (wK W) t) : RR 80 226 0 [some (.ref 146), some (.int (nI k)), some (.int t), none] [] g A (fun r g' A' => r = some (.int (-2)) ∧ WR (n + 1) g' A' (refW W (-2) 2)) := by
  refine rr_nx (pc' := 1) (al' := [some (.ref 146), some (.int (nI k)), some (.int t), none]) (st' := [.int (nI k)]) d_226_0 (fun _ => rfl) ?_
  refine rr_ps (as := [.int (nI k)]) (al0 := [some (.int (nI k))]) (r := []) d_226_1 mo_226 ml_117 mz_185 rfl rfl rfl (Nat.le_of_ble_eq_true rfl) (s_isSlot (nI k)) ?_
  show RR _ _ 4 [some (.ref 146), some (.int (nI k)), some (.int t), none] [.int (bI (nI 0 ≤ (nI k) ∧ (nI k) ≤ nI 5))] g A _
  refine rr_bne (t := 13) d_226_4 (by decide) (fun c4 => ?_) (fun c4 => ?_)
  · refine rr_nx (pc' := 14) (al' := [some (.ref 146), some (.int (nI k)), some (.int t), none]) (st' := [.ref 146]) d_226_13 (fun _ => rfl) ?_
    refine rr_nx (pc' := 15) (al' := [some (.ref 146), some (.int (nI k)), some (.int t), none]) (st' := [.int t, .ref 146]) d_226_14 (fun _ => rfl) ?_
    refine rr_pv (as := [.int t]) (al0 := [some (.ref 146), some (.int t)]) (r := []) d_226_15 mo_226 ml_124 mz_184 rfl rfl rfl (Nat.le_of_ble_eq_true rfl) (s_isTable t) ?_
    show RR _ _ 18 [some (.ref 146), some (.int (nI k)), some (.int t), none] [.int (bI (isT A t))] g A _
    refine rr_bne (t := 28) d_226_18 (by decide) (fun c18 => ?_) (fun c18 => ?_)
    · exact absurd c18 (fun e_ => hh ((has_r hW hO).mp e_))
    · refine rr_nx (pc' := 22) (al' := [some (.ref 146), some (.int (nI k)), some (.int t), none]) (st' := [.ref 146]) d_226_21 (fun _ => rfl) ?_
      refine rr_nx (pc' := 24) (al' := [some (.ref 146), some (.int (nI k)), some (.int t), none]) (st' := [.int (-2), .ref 146]) d_226_22 (fun _ => rfl) ?_
      have hW1 := hW.q (g' := g) (A' := A) Gsm.rf Ksm.rf
      refine rr_pv (as := [.int (-2)]) (al0 := [some (.ref 146), some (.int (-2))]) (r := []) d_226_24 mo_226 ml_110 mz_180 rfl rfl rfl (Nat.le_of_ble_eq_true rfl) (s_refuses (e := 2) (by decide) (by decide)) ?_
      show RR _ _ 27 [some (.ref 146), some (.int (nI k)), some (.int t), none] [.int (-2)] (upd g 0 (-2)) (rf_u A 0 (upd (A 0) 2 (A 0 2 + nI 1))) _
      exact rr_ri d_226_27 mr_226 rfl ⟨rfl, (hW1.rf (by decide)).mo⟩
  · exact absurd ((in_r (m := 5) (by decide)).mpr ((in_j (by omega)).mpr hk6)) c4
theorem T_copy {S : CS} {G : Nat → Nat → Value} {B : Nat → Nat → Int32} {J : Nat → Nat → Int64} {R : Nat → Nat → Option Nat} {g : Nat → Int32} {A : Nat → Nat → Int32} {n : Nat} {W : WS} (hC : WC n S G B R W) (hR : WR n g A W) (hn : n ≤ 10000) {u : Int32} {t : Int32} : Tie n 125 226 [some (.ref 2), some (.int u), some (.int t)] [some (.ref 146), some (.int u), some (.int t), none] S G B J R g A W := by
  have hO := hC.2.2.2.1
  by_cases hp6 : inP u 6
  · obtain ⟨k, hk6, e_⟩ := in_n hp6
    subst e_
    by_cases hh : hasP (wK W) t
    · obtain ⟨j, hj, e_, h1⟩ := has_n hh
      subst e_
      obtain ⟨⟨m, c⟩, htb⟩ : ∃ tb, tbK (wK W) j = tb := ⟨_, rfl⟩
      rw [htb] at h1
      exact ⟨_, _, p_copy_y hC hk6 hj htb h1, r_copy_y hR hO hk6 hj htb h1 hn⟩
    · exact ⟨_, _, p_copy_b hC hk6 hh, r_copy_b hR hO hk6 hh⟩
  · exact ⟨_, _, p_copy_a hC hp6, r_copy_a hR hO hp6⟩
theorem p_isotope_y {S : CS} {G : Nat → Nat → Value} {B : Nat → Nat → Int32} {J : Nat → Nat → Int64} {R : Nat → Nat → Option Nat} {n : Nat} {W : WS} (hW : WC n S G B R W) {j m : Nat} {c : Nat → Nat} (hj : j < 6) (htb : tbK (wK W) j = (m, c)) (h1 : 1 ≤ m) {p q : Nat} (hp : p < m) (hq : q < m) : CR 80 127 0 [some (.ref 2), some (.int (nI j)), some (.int (nI p)), some (.int (nI q)), none, none] [] S G B J R (fun r S' G' B' J' R' => r = some (.int (nI (c (m * p + q)))) ∧ WC (n + 1) S' G' B' R' (chW W j (m, isN m c p q))) := by
  have hS := hW.1.1
  have hF := hW.2.1
  have hO := hW.2.2.2.1
  obtain ⟨ta, ka, la, hH, hLk, hl2, hs3, hbd⟩ := hW.2.2.1
  obtain ⟨zt, hzt, ezt⟩ := (hH.2.1 j hj).2
  have ht := hH.ta hj
  have hsh := hH.2.2.2.2.2.2.1 j hj
  rw [show kH (wK W) (kD (wK W)) j = (m, c) from htb] at hsh
  have hok := tb_ok hO hj
  rw [htb] at hok
  have hn : G (ta j) 0 = .int (nI m) := hsh.1
  have hc : TabC B (ta j) m c := hsh.c hok
  have hl : Lat m c := hok.2
  have hm6 : m ≤ 6 := hok.1
  have hyes : hasP (wK W) (nI j) := (has_i hj).mpr (by rw [htb]; exact h1)
  refine cr_nx (pc' := 1) (al' := [some (.ref 2), some (.int (nI j)), some (.int (nI p)), some (.int (nI q)), none, none]) (st' := [.ref 2]) d_127_0 (fun _ => rfl) ?_
  refine cr_nx (pc' := 2) (al' := [some (.ref 2), some (.int (nI j)), some (.int (nI p)), some (.int (nI q)), none, none]) (st' := [.int (nI j), .ref 2]) d_127_1 (fun _ => rfl) ?_
  refine cr_pv (b := 2) (as := [.int (nI j)]) (al0 := [some (.ref 2), some (.int (nI j))]) (r := []) d_127_2 cw_127 cm_11_137 cz_126 rfl rfl (hS.i (a := 2) (by decide) (by decide)) (by rw [cw_126]; exact (hS.s (a := 2) (by decide) (by decide) rfl)) (by rw [cw_126]; decide) rfl (Nat.le_of_ble_eq_true rfl) (k_has hS hF hH hO) ?_
  show CR _ _ 5 [some (.ref 2), some (.int (nI j)), some (.int (nI p)), some (.int (nI q)), none, none] [.int (bI (hasP (wK W) (nI j)))] S G B J R _
  refine cr_bne (t := 15) d_127_5 (by decide) (fun c5 => ?_) (fun c5 => ?_)
  · refine cr_nx (pc' := 16) (al' := [some (.ref 2), some (.int (nI j)), some (.int (nI p)), some (.int (nI q)), none, none]) (st' := [.ref 2]) d_127_15 (fun _ => rfl) ?_
    refine cr_gf (v := .ref 3) d_127_16 cw_127 cf_11_10 (hS.i (a := 2) (by decide) (by decide)) (hS.s (a := 2) (by decide) (by decide) rfl) (by decide) (fx_2_0 hF) ?_
    refine cr_gf (v := .ref 4) d_127_19 cw_127 cf_11_140 (hS.i (a := 3) (by decide) (by decide)) (hS.s (a := 3) (by decide) (by decide) rfl) (by decide) (fx_3_0 hF) ?_
    refine cr_nx (pc' := 23) (al' := [some (.ref 2), some (.int (nI j)), some (.int (nI p)), some (.int (nI q)), none, none]) (st' := [.int (nI j), .ref 4]) d_127_22 (fun _ => rfl) ?_
    refine cr_aa (a := 4) (v := .ref (ta j)) d_127_23 (hS.i (a := 4) (by decide) (by decide)) (by decide) (hS.s (a := 4) (by decide) (by decide) rfl) (by decide) (show j < 6 by first | omega | assumption | exact cu_36 (by omega) (cu_lt (by omega) (by omega))) (show va_rf _ = _ by rw [(hH.2.1 j hj).1]; rfl) ?_
    refine cr_nx (pc' := 26) (al' := [some (.ref 2), some (.int (nI j)), some (.int (nI p)), some (.int (nI q)), some (.ref (ta j)), none]) (st' := []) d_127_24 (fun _ => rfl) ?_
    refine cr_nx (pc' := 28) (al' := [some (.ref 2), some (.int (nI j)), some (.int (nI p)), some (.int (nI q)), some (.ref (ta j)), none]) (st' := [.ref (ta j)]) d_127_26 (fun _ => rfl) ?_
    refine cr_nx (pc' := 29) (al' := [some (.ref 2), some (.int (nI j)), some (.int (nI p)), some (.int (nI q)), some (.ref (ta j)), none]) (st' := [.int (nI p), .ref (ta j)]) d_127_28 (fun _ => rfl) ?_
    refine cr_pv (b := (ta j)) (as := [.int (nI p)]) (al0 := [some (.ref (ta j)), some (.int (nI p))]) (r := []) d_127_29 cw_127 cm_11_148 cz_92 rfl rfl ht.1 (by rw [cw_92]; exact ht.2.2.1) (by rw [cw_92]; decide) rfl (Nat.le_of_ble_eq_true rfl) (k_hasElement ht hn (nI p)) ?_
    show CR _ _ 32 [some (.ref 2), some (.int (nI j)), some (.int (nI p)), some (.int (nI q)), some (.ref (ta j)), none] [.int (bI (0 ≤ (nI p) ∧ (nI p) < nI m))] S G B J R _
    refine cr_beq (t := 44) d_127_32 (by decide) (fun c32 => ?_) (fun c32 => ?_)
    · exact absurd ((el_i (by omega)).mpr ((in_j (by omega)).mpr hp)) c32
    · refine cr_nx (pc' := 37) (al' := [some (.ref 2), some (.int (nI j)), some (.int (nI p)), some (.int (nI q)), some (.ref (ta j)), none]) (st' := [.ref (ta j)]) d_127_35 (fun _ => rfl) ?_
      refine cr_nx (pc' := 38) (al' := [some (.ref 2), some (.int (nI j)), some (.int (nI p)), some (.int (nI q)), some (.ref (ta j)), none]) (st' := [.int (nI q), .ref (ta j)]) d_127_37 (fun _ => rfl) ?_
      refine cr_pv (b := (ta j)) (as := [.int (nI q)]) (al0 := [some (.ref (ta j)), some (.int (nI q))]) (r := []) d_127_38 cw_127 cm_11_148 cz_92 rfl rfl ht.1 (by rw [cw_92]; exact ht.2.2.1) (by rw [cw_92]; decide) rfl (Nat.le_of_ble_eq_true rfl) (k_hasElement ht hn (nI q)) ?_
      show CR _ _ 41 [some (.ref 2), some (.int (nI j)), some (.int (nI p)), some (.int (nI q)), some (.ref (ta j)), none] [.int (bI (0 ≤ (nI q) ∧ (nI q) < nI m))] S G B J R _
      refine cr_bne (t := 50) d_127_41 (by decide) (fun c41 => ?_) (fun c41 => ?_)
      · refine cr_nx (pc' := 52) (al' := [some (.ref 2), some (.int (nI j)), some (.int (nI p)), some (.int (nI q)), some (.ref (ta j)), none]) (st' := [.ref (ta j)]) d_127_50 (fun _ => rfl) ?_
        refine cr_nx (pc' := 53) (al' := [some (.ref 2), some (.int (nI j)), some (.int (nI p)), some (.int (nI q)), some (.ref (ta j)), none]) (st' := [.int (nI p), .ref (ta j)]) d_127_52 (fun _ => rfl) ?_
        refine cr_nx (pc' := 54) (al' := [some (.ref 2), some (.int (nI j)), some (.int (nI p)), some (.int (nI q)), some (.ref (ta j)), none]) (st' := [.int (nI q), .int (nI p), .ref (ta j)]) d_127_53 (fun _ => rfl) ?_
        refine cr_pv (b := (ta j)) (as := [.int (nI p), .int (nI q)]) (al0 := [some (.ref (ta j)), some (.int (nI p)), some (.int (nI q))]) (r := []) d_127_54 cw_127 cm_11_151 cz_91 rfl rfl ht.1 (by rw [cw_91]; exact ht.2.2.1) (by rw [cw_91]; decide) rfl (Nat.le_of_ble_eq_true rfl) (k_times ht hn hc (by omega) (by omega)) ?_
        show CR _ _ 57 [some (.ref 2), some (.int (nI j)), some (.int (nI p)), some (.int (nI q)), some (.ref (ta j)), none] [.int (nI (c (m * p + q)))] S G B J R _
        have b54 : c (m * p + q) < m := (hc.2 _ (cu_lt (by omega) (by omega))).2
        refine cr_nx (pc' := 59) (al' := [some (.ref 2), some (.int (nI j)), some (.int (nI p)), some (.int (nI q)), some (.ref (ta j)), some (.int (nI (c (m * p + q))))]) (st' := []) d_127_57 (fun _ => rfl) ?_
        refine cr_nx (pc' := 60) (al' := [some (.ref 2), some (.int (nI j)), some (.int (nI p)), some (.int (nI q)), some (.ref (ta j)), some (.int (nI (c (m * p + q))))]) (st' := [.ref 2]) d_127_59 (fun _ => rfl) ?_
        refine cr_gf (v := .ref 86) d_127_60 cw_127 cf_11_38 (hS.i (a := 2) (by decide) (by decide)) (hS.s (a := 2) (by decide) (by decide) rfl) (by decide) (fx_2_6 hF) ?_
        refine cr_nx (pc' := 65) (al' := [some (.ref 2), some (.int (nI j)), some (.int (nI p)), some (.int (nI q)), some (.ref (ta j)), some (.int (nI (c (m * p + q))))]) (st' := [.ref (ta j), .ref 86]) d_127_63 (fun _ => rfl) ?_
        refine cr_nx (pc' := 66) (al' := [some (.ref 2), some (.int (nI j)), some (.int (nI p)), some (.int (nI q)), some (.ref (ta j)), some (.int (nI (c (m * p + q))))]) (st' := [.int (nI p), .ref (ta j), .ref 86]) d_127_65 (fun _ => rfl) ?_
        refine cr_nx (pc' := 67) (al' := [some (.ref 2), some (.int (nI j)), some (.int (nI p)), some (.int (nI q)), some (.ref (ta j)), some (.int (nI (c (m * p + q))))]) (st' := [.int (nI q), .int (nI p), .ref (ta j), .ref 86]) d_127_66 (fun _ => rfl) ?_
        refine cr_cv (b := 86) (as := [.ref (ta j), .int (nI p), .int (nI q)]) (al0 := [some (.ref 86), some (.ref (ta j)), some (.int (nI p)), some (.int (nI q)), none, none, none]) (r := []) d_127_67 cw_127 cm_11_154 cz_96 rfl rfl (hS.i (a := 86) (by decide) (by decide)) (by rw [cw_96]; exact (hS.s (a := 86) (by decide) (by decide) rfl)) (by rw [cw_96]; decide) rfl (cr_wk (Nat.le_of_ble_eq_true rfl) (k_makeIsotope ht hn hc (tb_86 hS hF) (by omega) hl hp hq)) (fun v1 S1 G1 B1 J1 R1 h1x => ?_)
        obtain ⟨q0_, q1_, q2_, q3_, q4_, w86, q9_, hw86⟩ := h1x
        obtain rfl := q0_
        obtain rfl := q1_.symm
        obtain rfl := q2_
        obtain rfl := q3_.symm
        obtain rfl := q4_.symm
        obtain rfl := q9_
        show CR _ _ 70 [some (.ref 2), some (.int (nI j)), some (.int (nI p)), some (.int (nI q)), some (.ref (ta j)), some (.int (nI (c (m * p + q))))] [] S (up2 G 86 0 (.int (nI m))) (upr B 87 w86) J R _
        refine cr_nx (pc' := 71) (al' := [some (.ref 2), some (.int (nI j)), some (.int (nI p)), some (.int (nI q)), some (.ref (ta j)), some (.int (nI (c (m * p + q))))]) (st' := [.ref 2]) d_127_70 (fun _ => rfl) ?_
        refine cr_nx (pc' := 72) (al' := [some (.ref 2), some (.int (nI j)), some (.int (nI p)), some (.int (nI q)), some (.ref (ta j)), some (.int (nI (c (m * p + q))))]) (st' := [.int (nI j), .ref 2]) d_127_71 (fun _ => rfl) ?_
        refine cr_nx (pc' := 74) (al' := [some (.ref 2), some (.int (nI j)), some (.int (nI p)), some (.int (nI q)), some (.ref (ta j)), some (.int (nI (c (m * p + q))))]) (st' := [.int (nI (c (m * p + q))), .int (nI j), .ref 2]) d_127_72 (fun _ => rfl) ?_
        have hW1 : WC n S (up2 G 86 0 (.int (nI m))) (upr B 87 w86) R W := hW.q (FxG.ut hF) (Gfr.rf.u (by decide)) (Bfr.rf.u (by decide))
        refine cr_cv (b := 2) (as := [.int (nI j), .int (nI (c (m * p + q)))]) (al0 := [some (.ref 2), some (.int (nI j)), some (.int (nI (c (m * p + q))))]) (r := []) d_127_74 cw_127 cm_11_115 cz_122 rfl rfl (hS.i (a := 2) (by decide) (by decide)) (by rw [cw_122]; exact (hS.s (a := 2) (by decide) (by decide) rfl)) (by rw [cw_122]; decide) rfl (cr_wk (Nat.le_of_ble_eq_true rfl) (k_change (tb := (m, isN m c p q)) hW1 hj ⟨hm6, isN_lat hl hp hq⟩ up2_s (fun q hq => by rw [upr_s]; exact hw86 q hq))) (fun v1 S1 G1 B1 J1 R1 h1x => ?_)
        obtain ⟨q0_, hW2⟩ := h1x
        obtain rfl := q0_
        show CR _ _ 77 [some (.ref 2), some (.int (nI j)), some (.int (nI p)), some (.int (nI q)), some (.ref (ta j)), some (.int (nI (c (m * p + q))))] [.int (nI (c (m * p + q)))] S1 G1 B1 J1 R1 _
        exact cr_ri d_127_77 cx_127 rfl ⟨rfl, hW2.mo⟩
      · exact absurd ((el_i (by omega)).mpr ((in_j (by omega)).mpr hq)) c41
  · exact absurd hyes c5
theorem r_isotope_y {g : Nat → Int32} {A : Nat → Nat → Int32} {n : Nat} {W : WS} (hW : WR n g A W) (hO : CoOk (wK W)) {j m : Nat} {c : Nat → Nat} (hj : j < 6) (htb : tbK (wK W) j = (m, c)) (h1 : 1 ≤ m) {p q : Nat} (hp : p < m) (hq : q < m) (hn5 : n ≤ 10000) : RR 80 227 0 [some (.ref 146), some (.int (nI j)), some (.int (nI p)), some (.int (nI q))] [] g A (fun r g' A' => r = some (.int (nI (c (m * p + q)))) ∧ WR (n + 1) g' A' (chW W j (m, isN m c p q))) := by
  have hsh := hW.1.1.1 j hj
  rw [show kH (wK W) (kD (wK W)) j = (m, c) from htb] at hsh
  have hok := tb_ok hO hj
  rw [htb] at hok
  have hk : A 1 (37 * j) = nI m := hsh.1
  have hl : Lat m c := hok.2
  have hm6 : m ≤ 6 := hok.1
  have hyes : isT A (nI j) := (has_r hW hO).mpr ((has_i hj).mpr (by rw [htb]; exact h1))
  refine rr_nx (pc' := 1) (al' := [some (.ref 146), some (.int (nI j)), some (.int (nI p)), some (.int (nI q))]) (st' := [.ref 146]) d_227_0 (fun _ => rfl) ?_
  refine rr_nx (pc' := 2) (al' := [some (.ref 146), some (.int (nI j)), some (.int (nI p)), some (.int (nI q))]) (st' := [.int (nI j), .ref 146]) d_227_1 (fun _ => rfl) ?_
  refine rr_pv (as := [.int (nI j)]) (al0 := [some (.ref 146), some (.int (nI j))]) (r := []) d_227_2 mo_227 ml_124 mz_184 rfl rfl rfl (Nat.le_of_ble_eq_true rfl) (s_isTable (nI j)) ?_
  show RR _ _ 5 [some (.ref 146), some (.int (nI j)), some (.int (nI p)), some (.int (nI q))] [.int (bI (isT A (nI j)))] g A _
  refine rr_bne (t := 15) d_227_5 (by decide) (fun c5 => ?_) (fun c5 => ?_)
  · refine rr_nx (pc' := 16) (al' := [some (.ref 146), some (.int (nI j)), some (.int (nI p)), some (.int (nI q))]) (st' := [.ref 146]) d_227_15 (fun _ => rfl) ?_
    refine rr_nx (pc' := 17) (al' := [some (.ref 146), some (.int (nI j)), some (.int (nI p)), some (.int (nI q))]) (st' := [.int (nI j), .ref 146]) d_227_16 (fun _ => rfl) ?_
    refine rr_pv (as := [.int (nI j)]) (al0 := [some (.ref 146), some (.int (nI j)), none]) (r := []) d_227_17 mo_227 ml_248 mz_208 rfl rfl rfl (Nat.le_of_ble_eq_true rfl) (s_lays (n := m) hj hm6 hk) ?_
    obtain ⟨wl17, hwl17⟩ : ∃ w_, w_ = rf_f (fun q => A 1 (37 * j + 1 + q)) (A 4) (m * m) := ⟨_, rfl⟩
    rw [← hwl17]
    show RR _ _ 20 [some (.ref 146), some (.int (nI j)), some (.int (nI p)), some (.int (nI q))] [] (upd g 6 (nI m)) (rf_u A 4 wl17) _
    have hcu := cur_l (g := g) hsh hm6 hl hwl17
    refine rr_nx (pc' := 21) (al' := [some (.ref 146), some (.int (nI j)), some (.int (nI p)), some (.int (nI q))]) (st' := [.ref 146]) d_227_20 (fun _ => rfl) ?_
    refine rr_nx (pc' := 22) (al' := [some (.ref 146), some (.int (nI j)), some (.int (nI p)), some (.int (nI q))]) (st' := [.int (nI p), .ref 146]) d_227_21 (fun _ => rfl) ?_
    refine rr_pv (as := [.int (nI p)]) (al0 := [some (.ref 146), some (.int (nI p))]) (r := []) d_227_22 mo_227 ml_260 mz_228 rfl rfl rfl (Nat.le_of_ble_eq_true rfl) (s_isElement hcu (by omega) (nI p)) ?_
    show RR _ _ 25 [some (.ref 146), some (.int (nI j)), some (.int (nI p)), some (.int (nI q))] [.int (bI (nI 0 ≤ (nI p) ∧ (nI p) ≤ nI (m - 1)))] (upd g 6 (nI m)) (rf_u A 4 wl17) _
    refine rr_beq (t := 36) d_227_25 (by decide) (fun c25 => ?_) (fun c25 => ?_)
    · exact absurd ((el_r h1 (by omega)).mpr ((in_j (by omega)).mpr hp)) c25
    · refine rr_nx (pc' := 29) (al' := [some (.ref 146), some (.int (nI j)), some (.int (nI p)), some (.int (nI q))]) (st' := [.ref 146]) d_227_28 (fun _ => rfl) ?_
      refine rr_nx (pc' := 30) (al' := [some (.ref 146), some (.int (nI j)), some (.int (nI p)), some (.int (nI q))]) (st' := [.int (nI q), .ref 146]) d_227_29 (fun _ => rfl) ?_
      refine rr_pv (as := [.int (nI q)]) (al0 := [some (.ref 146), some (.int (nI q))]) (r := []) d_227_30 mo_227 ml_260 mz_228 rfl rfl rfl (Nat.le_of_ble_eq_true rfl) (s_isElement hcu (by omega) (nI q)) ?_
      show RR _ _ 33 [some (.ref 146), some (.int (nI j)), some (.int (nI p)), some (.int (nI q))] [.int (bI (nI 0 ≤ (nI q) ∧ (nI q) ≤ nI (m - 1)))] (upd g 6 (nI m)) (rf_u A 4 wl17) _
      refine rr_bne (t := 42) d_227_33 (by decide) (fun c33 => ?_) (fun c33 => ?_)
      · refine rr_nx (pc' := 43) (al' := [some (.ref 146), some (.int (nI j)), some (.int (nI p)), some (.int (nI q))]) (st' := [.ref 146]) d_227_42 (fun _ => rfl) ?_
        refine rr_nx (pc' := 44) (al' := [some (.ref 146), some (.int (nI j)), some (.int (nI p)), some (.int (nI q))]) (st' := [.int (nI p), .ref 146]) d_227_43 (fun _ => rfl) ?_
        refine rr_nx (pc' := 45) (al' := [some (.ref 146), some (.int (nI j)), some (.int (nI p)), some (.int (nI q))]) (st' := [.int (nI q), .int (nI p), .ref 146]) d_227_44 (fun _ => rfl) ?_
        refine rr_cv (as := [.int (nI p), .int (nI q)]) (al0 := [some (.ref 146), some (.int (nI p)), some (.int (nI q)), none, none]) (r := []) d_227_45 mo_227 ml_263 mz_229 rfl rfl rfl (rr_wk (Nat.le_of_ble_eq_true rfl) (s_isotopes hcu hl hp hq)) (fun v1 g1 A1 h1x => ?_)
        obtain ⟨q0_, q1_, w5, q2_, hw5⟩ := h1x
        obtain rfl := q0_
        obtain rfl := q1_
        obtain rfl := q2_
        show RR _ _ 48 [some (.ref 146), some (.int (nI j)), some (.int (nI p)), some (.int (nI q))] [] (upd (upd g 6 (nI m)) 8 (nI m)) (rf_u (rf_u A 4 wl17) 5 w5) _
        refine rr_nx (pc' := 49) (al' := [some (.ref 146), some (.int (nI j)), some (.int (nI p)), some (.int (nI q))]) (st' := [.ref 146]) d_227_48 (fun _ => rfl) ?_
        refine rr_nx (pc' := 50) (al' := [some (.ref 146), some (.int (nI j)), some (.int (nI p)), some (.int (nI q))]) (st' := [.int (nI j), .ref 146]) d_227_49 (fun _ => rfl) ?_
        have hW1 := hW.q (g' := (upd (upd g 6 (nI m)) 8 (nI m))) (A' := (rf_u (rf_u A 4 wl17) 5 w5)) ((Gsm.rf.u rfl).u rfl) ((Ksm.rf.u rfl).u rfl)
        refine rr_cv (as := [.int (nI j)]) (al0 := [some (.ref 146), some (.int (nI j)), none, none, none]) (r := []) d_227_50 mo_227 ml_257 mz_224 rfl rfl rfl (rr_wk (Nat.le_of_ble_eq_true rfl) (s_becomes (m := m) (c := isN m c p q) hW1.1.1 hO.1 hj hm6 (by rfl) (fun q hq => by rw [rf_u_s]; exact hw5 q hq))) (fun v1 g1 A1 h1x => ?_)
        obtain ⟨q0_, q1_, f1, q2_, hH1, hf1⟩ := h1x
        obtain rfl := q0_
        obtain rfl := q1_
        obtain rfl := q2_
        show RR _ _ 53 [some (.ref 146), some (.int (nI j)), some (.int (nI p)), some (.int (nI q))] [] (upd (upd g 6 (nI m)) 8 (nI m)) (rf_u (rf_u (rf_u A 4 wl17) 5 w5) 1 f1) _
        refine rr_nx (pc' := 54) (al' := [some (.ref 146), some (.int (nI j)), some (.int (nI p)), some (.int (nI q))]) (st' := [.ref 146]) d_227_53 (fun _ => rfl) ?_
        refine rr_nx (pc' := 55) (al' := [some (.ref 146), some (.int (nI j)), some (.int (nI p)), some (.int (nI q))]) (st' := [.ref 146, .ref 146]) d_227_54 (fun _ => rfl) ?_
        refine rr_nx (pc' := 56) (al' := [some (.ref 146), some (.int (nI j)), some (.int (nI p)), some (.int (nI q))]) (st' := [.int (nI p), .ref 146, .ref 146]) d_227_55 (fun _ => rfl) ?_
        refine rr_nx (pc' := 57) (al' := [some (.ref 146), some (.int (nI j)), some (.int (nI p)), some (.int (nI q))]) (st' := [.int (nI q), .int (nI p), .ref 146, .ref 146]) d_227_56 (fun _ => rfl) ?_
        refine rr_pv (as := [.int (nI p), .int (nI q)]) (al0 := [some (.ref 146), some (.int (nI p)), some (.int (nI q))]) (r := [.ref 146]) d_227_57 mo_227 ml_130 mz_213 rfl rfl rfl (Nat.le_of_ble_eq_true rfl) (s_times (((hcu.ug (by decide)).up (j := 5) (by decide)).up (j := 1) (by decide)) hp hq) ?_
        show RR _ _ 60 [some (.ref 146), some (.int (nI j)), some (.int (nI p)), some (.int (nI q))] [.int (nI (c (m * p + q))), .ref 146] (upd (upd g 6 (nI m)) 8 (nI m)) (rf_u (rf_u (rf_u A 4 wl17) 5 w5) 1 f1) _
        refine rr_pv (as := [.int (nI (c (m * p + q)))]) (al0 := [some (.ref 146), some (.int (nI (c (m * p + q))))]) (r := []) d_227_60 mo_227 ml_114 mz_181 rfl rfl rfl (Nat.le_of_ble_eq_true rfl) (s_good _) ?_
        show RR _ _ 63 [some (.ref 146), some (.int (nI j)), some (.int (nI p)), some (.int (nI q))] [.int (nI (c (m * p + q)))] (upd (upd (upd (upd g 6 (nI m)) 8 (nI m)) 0 (nI 0)) 1 ((upd (upd g 6 (nI m)) 8 (nI m)) 1 + nI 1)) (rf_u (rf_u (rf_u A 4 wl17) 5 w5) 1 f1) _
        exact rr_ri d_227_63 mr_227 rfl ⟨rfl, hW1.ch (by omega) hH1 hf1 rfl hO⟩
      · exact absurd ((el_r h1 (by omega)).mpr ((in_j (by omega)).mpr hq)) c33
  · exact absurd hyes c5
theorem p_isotope_n {S : CS} {G : Nat → Nat → Value} {B : Nat → Nat → Int32} {J : Nat → Nat → Int64} {R : Nat → Nat → Option Nat} {n : Nat} {W : WS} (hW : WC n S G B R W) {t : Int32} (hh : ¬ hasP (wK W) t) {x z : Int32} : CR 80 127 0 [some (.ref 2), some (.int t), some (.int x), some (.int z), none, none] [] S G B J R (fun r S' G' B' J' R' => r = some (.int (-2)) ∧ WC (n + 1) S' G' B' R' (refW W (-2) 2)) := by
  have hS := hW.1.1
  have hF := hW.2.1
  have hO := hW.2.2.2.1
  obtain ⟨ta, ka, la, hH, hLk, hl2, hs3, hbd⟩ := hW.2.2.1
  refine cr_nx (pc' := 1) (al' := [some (.ref 2), some (.int t), some (.int x), some (.int z), none, none]) (st' := [.ref 2]) d_127_0 (fun _ => rfl) ?_
  refine cr_nx (pc' := 2) (al' := [some (.ref 2), some (.int t), some (.int x), some (.int z), none, none]) (st' := [.int t, .ref 2]) d_127_1 (fun _ => rfl) ?_
  refine cr_pv (b := 2) (as := [.int t]) (al0 := [some (.ref 2), some (.int t)]) (r := []) d_127_2 cw_127 cm_11_137 cz_126 rfl rfl (hS.i (a := 2) (by decide) (by decide)) (by rw [cw_126]; exact (hS.s (a := 2) (by decide) (by decide) rfl)) (by rw [cw_126]; decide) rfl (Nat.le_of_ble_eq_true rfl) (k_has hS hF hH hO) ?_
  show CR _ _ 5 [some (.ref 2), some (.int t), some (.int x), some (.int z), none, none] [.int (bI (hasP (wK W) t))] S G B J R _
  refine cr_bne (t := 15) d_127_5 (by decide) (fun c5 => ?_) (fun c5 => ?_)
  · exact absurd c5 hh
  · refine cr_nx (pc' := 9) (al' := [some (.ref 2), some (.int t), some (.int x), some (.int z), none, none]) (st' := [.ref 2]) d_127_8 (fun _ => rfl) ?_
    refine cr_nx (pc' := 11) (al' := [some (.ref 2), some (.int t), some (.int x), some (.int z), none, none]) (st' := [.int (-2), .ref 2]) d_127_9 (fun _ => rfl) ?_
    refine cr_pv (b := 2) (as := [.int (-2)]) (al0 := [some (.ref 2), some (.int (-2))]) (r := []) d_127_11 cw_127 cm_11_104 cz_119 rfl rfl (hS.i (a := 2) (by decide) (by decide)) (by rw [cw_119]; exact (hS.s (a := 2) (by decide) (by decide) rfl)) (by rw [cw_119]; decide) rfl (Nat.le_of_ble_eq_true rfl) (k_refuse (e := 2) hS hF (by decide) (by decide)) ?_
    show CR _ _ 14 [some (.ref 2), some (.int t), some (.int x), some (.int z), none, none] [.int (-2)] S (up2 G 2 16 (.int (-2))) (upr B 145 (upd (B 145) 2 (B 145 2 + nI 1))) J R _
    exact cr_ri d_127_14 cx_127 rfl ⟨rfl, (hW.rf (by decide)).mo⟩
theorem r_isotope_n {g : Nat → Int32} {A : Nat → Nat → Int32} {n : Nat} {W : WS} (hW : WR n g A W) (hO : CoOk (wK W)) {t : Int32} (hh : ¬ hasP (wK W) t) {x z : Int32} : RR 80 227 0 [some (.ref 146), some (.int t), some (.int x), some (.int z)] [] g A (fun r g' A' => r = some (.int (-2)) ∧ WR (n + 1) g' A' (refW W (-2) 2)) := by
  refine rr_nx (pc' := 1) (al' := [some (.ref 146), some (.int t), some (.int x), some (.int z)]) (st' := [.ref 146]) d_227_0 (fun _ => rfl) ?_
  refine rr_nx (pc' := 2) (al' := [some (.ref 146), some (.int t), some (.int x), some (.int z)]) (st' := [.int t, .ref 146]) d_227_1 (fun _ => rfl) ?_
  refine rr_pv (as := [.int t]) (al0 := [some (.ref 146), some (.int t)]) (r := []) d_227_2 mo_227 ml_124 mz_184 rfl rfl rfl (Nat.le_of_ble_eq_true rfl) (s_isTable t) ?_
  show RR _ _ 5 [some (.ref 146), some (.int t), some (.int x), some (.int z)] [.int (bI (isT A t))] g A _
  refine rr_bne (t := 15) d_227_5 (by decide) (fun c5 => ?_) (fun c5 => ?_)
  · exact absurd c5 (fun e_ => hh ((has_r hW hO).mp e_))
  · refine rr_nx (pc' := 9) (al' := [some (.ref 146), some (.int t), some (.int x), some (.int z)]) (st' := [.ref 146]) d_227_8 (fun _ => rfl) ?_
    refine rr_nx (pc' := 11) (al' := [some (.ref 146), some (.int t), some (.int x), some (.int z)]) (st' := [.int (-2), .ref 146]) d_227_9 (fun _ => rfl) ?_
    have hW1 := hW.q (g' := g) (A' := A) Gsm.rf Ksm.rf
    refine rr_pv (as := [.int (-2)]) (al0 := [some (.ref 146), some (.int (-2))]) (r := []) d_227_11 mo_227 ml_110 mz_180 rfl rfl rfl (Nat.le_of_ble_eq_true rfl) (s_refuses (e := 2) (by decide) (by decide)) ?_
    show RR _ _ 14 [some (.ref 146), some (.int t), some (.int x), some (.int z)] [.int (-2)] (upd g 0 (-2)) (rf_u A 0 (upd (A 0) 2 (A 0 2 + nI 1))) _
    exact rr_ri d_227_14 mr_227 rfl ⟨rfl, (hW1.rf (by decide)).mo⟩
theorem p_isotope_b {S : CS} {G : Nat → Nat → Value} {B : Nat → Nat → Int32} {J : Nat → Nat → Int64} {R : Nat → Nat → Option Nat} {n : Nat} {W : WS} (hW : WC n S G B R W) {j m : Nat} {c : Nat → Nat} (hj : j < 6) (htb : tbK (wK W) j = (m, c)) (h1 : 1 ≤ m) {x z : Int32} (hx : ¬ (inP x m ∧ inP z m)) : CR 80 127 0 [some (.ref 2), some (.int (nI j)), some (.int x), some (.int z), none, none] [] S G B J R (fun r S' G' B' J' R' => r = some (.int (-1)) ∧ WC (n + 1) S' G' B' R' (refW W (-1) 1)) := by
  have hS := hW.1.1
  have hF := hW.2.1
  have hO := hW.2.2.2.1
  obtain ⟨ta, ka, la, hH, hLk, hl2, hs3, hbd⟩ := hW.2.2.1
  obtain ⟨zt, hzt, ezt⟩ := (hH.2.1 j hj).2
  have ht := hH.ta hj
  have hsh := hH.2.2.2.2.2.2.1 j hj
  rw [show kH (wK W) (kD (wK W)) j = (m, c) from htb] at hsh
  have hok := tb_ok hO hj
  rw [htb] at hok
  have hn : G (ta j) 0 = .int (nI m) := hsh.1
  have hc : TabC B (ta j) m c := hsh.c hok
  have hl : Lat m c := hok.2
  have hm6 : m ≤ 6 := hok.1
  have hyes : hasP (wK W) (nI j) := (has_i hj).mpr (by rw [htb]; exact h1)
  refine cr_nx (pc' := 1) (al' := [some (.ref 2), some (.int (nI j)), some (.int x), some (.int z), none, none]) (st' := [.ref 2]) d_127_0 (fun _ => rfl) ?_
  refine cr_nx (pc' := 2) (al' := [some (.ref 2), some (.int (nI j)), some (.int x), some (.int z), none, none]) (st' := [.int (nI j), .ref 2]) d_127_1 (fun _ => rfl) ?_
  refine cr_pv (b := 2) (as := [.int (nI j)]) (al0 := [some (.ref 2), some (.int (nI j))]) (r := []) d_127_2 cw_127 cm_11_137 cz_126 rfl rfl (hS.i (a := 2) (by decide) (by decide)) (by rw [cw_126]; exact (hS.s (a := 2) (by decide) (by decide) rfl)) (by rw [cw_126]; decide) rfl (Nat.le_of_ble_eq_true rfl) (k_has hS hF hH hO) ?_
  show CR _ _ 5 [some (.ref 2), some (.int (nI j)), some (.int x), some (.int z), none, none] [.int (bI (hasP (wK W) (nI j)))] S G B J R _
  refine cr_bne (t := 15) d_127_5 (by decide) (fun c5 => ?_) (fun c5 => ?_)
  · refine cr_nx (pc' := 16) (al' := [some (.ref 2), some (.int (nI j)), some (.int x), some (.int z), none, none]) (st' := [.ref 2]) d_127_15 (fun _ => rfl) ?_
    refine cr_gf (v := .ref 3) d_127_16 cw_127 cf_11_10 (hS.i (a := 2) (by decide) (by decide)) (hS.s (a := 2) (by decide) (by decide) rfl) (by decide) (fx_2_0 hF) ?_
    refine cr_gf (v := .ref 4) d_127_19 cw_127 cf_11_140 (hS.i (a := 3) (by decide) (by decide)) (hS.s (a := 3) (by decide) (by decide) rfl) (by decide) (fx_3_0 hF) ?_
    refine cr_nx (pc' := 23) (al' := [some (.ref 2), some (.int (nI j)), some (.int x), some (.int z), none, none]) (st' := [.int (nI j), .ref 4]) d_127_22 (fun _ => rfl) ?_
    refine cr_aa (a := 4) (v := .ref (ta j)) d_127_23 (hS.i (a := 4) (by decide) (by decide)) (by decide) (hS.s (a := 4) (by decide) (by decide) rfl) (by decide) (show j < 6 by first | omega | assumption | exact cu_36 (by omega) (cu_lt (by omega) (by omega))) (show va_rf _ = _ by rw [(hH.2.1 j hj).1]; rfl) ?_
    refine cr_nx (pc' := 26) (al' := [some (.ref 2), some (.int (nI j)), some (.int x), some (.int z), some (.ref (ta j)), none]) (st' := []) d_127_24 (fun _ => rfl) ?_
    refine cr_nx (pc' := 28) (al' := [some (.ref 2), some (.int (nI j)), some (.int x), some (.int z), some (.ref (ta j)), none]) (st' := [.ref (ta j)]) d_127_26 (fun _ => rfl) ?_
    refine cr_nx (pc' := 29) (al' := [some (.ref 2), some (.int (nI j)), some (.int x), some (.int z), some (.ref (ta j)), none]) (st' := [.int x, .ref (ta j)]) d_127_28 (fun _ => rfl) ?_
    refine cr_pv (b := (ta j)) (as := [.int x]) (al0 := [some (.ref (ta j)), some (.int x)]) (r := []) d_127_29 cw_127 cm_11_148 cz_92 rfl rfl ht.1 (by rw [cw_92]; exact ht.2.2.1) (by rw [cw_92]; decide) rfl (Nat.le_of_ble_eq_true rfl) (k_hasElement ht hn x) ?_
    show CR _ _ 32 [some (.ref 2), some (.int (nI j)), some (.int x), some (.int z), some (.ref (ta j)), none] [.int (bI (0 ≤ x ∧ x < nI m))] S G B J R _
    refine cr_beq (t := 44) d_127_32 (by decide) (fun c32 => ?_) (fun c32 => ?_)
    · refine cr_nx (pc' := 45) (al' := [some (.ref 2), some (.int (nI j)), some (.int x), some (.int z), some (.ref (ta j)), none]) (st' := [.ref 2]) d_127_44 (fun _ => rfl) ?_
      refine cr_nx (pc' := 46) (al' := [some (.ref 2), some (.int (nI j)), some (.int x), some (.int z), some (.ref (ta j)), none]) (st' := [.int (-1), .ref 2]) d_127_45 (fun _ => rfl) ?_
      refine cr_pv (b := 2) (as := [.int (-1)]) (al0 := [some (.ref 2), some (.int (-1))]) (r := []) d_127_46 cw_127 cm_11_104 cz_119 rfl rfl (hS.i (a := 2) (by decide) (by decide)) (by rw [cw_119]; exact (hS.s (a := 2) (by decide) (by decide) rfl)) (by rw [cw_119]; decide) rfl (Nat.le_of_ble_eq_true rfl) (k_refuse (e := 1) hS hF (by decide) (by decide)) ?_
      show CR _ _ 49 [some (.ref 2), some (.int (nI j)), some (.int x), some (.int z), some (.ref (ta j)), none] [.int (-1)] S (up2 G 2 16 (.int (-1))) (upr B 145 (upd (B 145) 1 (B 145 1 + nI 1))) J R _
      exact cr_ri d_127_49 cx_127 rfl ⟨rfl, (hW.rf (by decide)).mo⟩
    · refine cr_nx (pc' := 37) (al' := [some (.ref 2), some (.int (nI j)), some (.int x), some (.int z), some (.ref (ta j)), none]) (st' := [.ref (ta j)]) d_127_35 (fun _ => rfl) ?_
      refine cr_nx (pc' := 38) (al' := [some (.ref 2), some (.int (nI j)), some (.int x), some (.int z), some (.ref (ta j)), none]) (st' := [.int z, .ref (ta j)]) d_127_37 (fun _ => rfl) ?_
      refine cr_pv (b := (ta j)) (as := [.int z]) (al0 := [some (.ref (ta j)), some (.int z)]) (r := []) d_127_38 cw_127 cm_11_148 cz_92 rfl rfl ht.1 (by rw [cw_92]; exact ht.2.2.1) (by rw [cw_92]; decide) rfl (Nat.le_of_ble_eq_true rfl) (k_hasElement ht hn z) ?_
      show CR _ _ 41 [some (.ref 2), some (.int (nI j)), some (.int x), some (.int z), some (.ref (ta j)), none] [.int (bI (0 ≤ z ∧ z < nI m))] S G B J R _
      refine cr_bne (t := 50) d_127_41 (by decide) (fun c41 => ?_) (fun c41 => ?_)
      · exact absurd ⟨(el_i (by omega)).mp c32, (el_i (by omega)).mp c41⟩ hx
      · refine cr_nx (pc' := 45) (al' := [some (.ref 2), some (.int (nI j)), some (.int x), some (.int z), some (.ref (ta j)), none]) (st' := [.ref 2]) d_127_44 (fun _ => rfl) ?_
        refine cr_nx (pc' := 46) (al' := [some (.ref 2), some (.int (nI j)), some (.int x), some (.int z), some (.ref (ta j)), none]) (st' := [.int (-1), .ref 2]) d_127_45 (fun _ => rfl) ?_
        refine cr_pv (b := 2) (as := [.int (-1)]) (al0 := [some (.ref 2), some (.int (-1))]) (r := []) d_127_46 cw_127 cm_11_104 cz_119 rfl rfl (hS.i (a := 2) (by decide) (by decide)) (by rw [cw_119]; exact (hS.s (a := 2) (by decide) (by decide) rfl)) (by rw [cw_119]; decide) rfl (Nat.le_of_ble_eq_true rfl) (k_refuse (e := 1) hS hF (by decide) (by decide)) ?_
        show CR _ _ 49 [some (.ref 2), some (.int (nI j)), some (.int x), some (.int z), some (.ref (ta j)), none] [.int (-1)] S (up2 G 2 16 (.int (-1))) (upr B 145 (upd (B 145) 1 (B 145 1 + nI 1))) J R _
        exact cr_ri d_127_49 cx_127 rfl ⟨rfl, (hW.rf (by decide)).mo⟩
  · exact absurd hyes c5
theorem r_isotope_b {g : Nat → Int32} {A : Nat → Nat → Int32} {n : Nat} {W : WS} (hW : WR n g A W) (hO : CoOk (wK W)) {j m : Nat} {c : Nat → Nat} (hj : j < 6) (htb : tbK (wK W) j = (m, c)) (h1 : 1 ≤ m) {x z : Int32} (hx : ¬ (inP x m ∧ inP z m)) : RR 80 227 0 [some (.ref 146), some (.int (nI j)), some (.int x), some (.int z)] [] g A (fun r g' A' => r = some (.int (-1)) ∧ WR (n + 1) g' A' (refW W (-1) 1)) := by
  have hsh := hW.1.1.1 j hj
  rw [show kH (wK W) (kD (wK W)) j = (m, c) from htb] at hsh
  have hok := tb_ok hO hj
  rw [htb] at hok
  have hk : A 1 (37 * j) = nI m := hsh.1
  have hl : Lat m c := hok.2
  have hm6 : m ≤ 6 := hok.1
  have hyes : isT A (nI j) := (has_r hW hO).mpr ((has_i hj).mpr (by rw [htb]; exact h1))
  refine rr_nx (pc' := 1) (al' := [some (.ref 146), some (.int (nI j)), some (.int x), some (.int z)]) (st' := [.ref 146]) d_227_0 (fun _ => rfl) ?_
  refine rr_nx (pc' := 2) (al' := [some (.ref 146), some (.int (nI j)), some (.int x), some (.int z)]) (st' := [.int (nI j), .ref 146]) d_227_1 (fun _ => rfl) ?_
  refine rr_pv (as := [.int (nI j)]) (al0 := [some (.ref 146), some (.int (nI j))]) (r := []) d_227_2 mo_227 ml_124 mz_184 rfl rfl rfl (Nat.le_of_ble_eq_true rfl) (s_isTable (nI j)) ?_
  show RR _ _ 5 [some (.ref 146), some (.int (nI j)), some (.int x), some (.int z)] [.int (bI (isT A (nI j)))] g A _
  refine rr_bne (t := 15) d_227_5 (by decide) (fun c5 => ?_) (fun c5 => ?_)
  · refine rr_nx (pc' := 16) (al' := [some (.ref 146), some (.int (nI j)), some (.int x), some (.int z)]) (st' := [.ref 146]) d_227_15 (fun _ => rfl) ?_
    refine rr_nx (pc' := 17) (al' := [some (.ref 146), some (.int (nI j)), some (.int x), some (.int z)]) (st' := [.int (nI j), .ref 146]) d_227_16 (fun _ => rfl) ?_
    refine rr_pv (as := [.int (nI j)]) (al0 := [some (.ref 146), some (.int (nI j)), none]) (r := []) d_227_17 mo_227 ml_248 mz_208 rfl rfl rfl (Nat.le_of_ble_eq_true rfl) (s_lays (n := m) hj hm6 hk) ?_
    obtain ⟨wl17, hwl17⟩ : ∃ w_, w_ = rf_f (fun q => A 1 (37 * j + 1 + q)) (A 4) (m * m) := ⟨_, rfl⟩
    rw [← hwl17]
    show RR _ _ 20 [some (.ref 146), some (.int (nI j)), some (.int x), some (.int z)] [] (upd g 6 (nI m)) (rf_u A 4 wl17) _
    have hcu := cur_l (g := g) hsh hm6 hl hwl17
    refine rr_nx (pc' := 21) (al' := [some (.ref 146), some (.int (nI j)), some (.int x), some (.int z)]) (st' := [.ref 146]) d_227_20 (fun _ => rfl) ?_
    refine rr_nx (pc' := 22) (al' := [some (.ref 146), some (.int (nI j)), some (.int x), some (.int z)]) (st' := [.int x, .ref 146]) d_227_21 (fun _ => rfl) ?_
    refine rr_pv (as := [.int x]) (al0 := [some (.ref 146), some (.int x)]) (r := []) d_227_22 mo_227 ml_260 mz_228 rfl rfl rfl (Nat.le_of_ble_eq_true rfl) (s_isElement hcu (by omega) x) ?_
    show RR _ _ 25 [some (.ref 146), some (.int (nI j)), some (.int x), some (.int z)] [.int (bI (nI 0 ≤ x ∧ x ≤ nI (m - 1)))] (upd g 6 (nI m)) (rf_u A 4 wl17) _
    refine rr_beq (t := 36) d_227_25 (by decide) (fun c25 => ?_) (fun c25 => ?_)
    · refine rr_nx (pc' := 37) (al' := [some (.ref 146), some (.int (nI j)), some (.int x), some (.int z)]) (st' := [.ref 146]) d_227_36 (fun _ => rfl) ?_
      refine rr_nx (pc' := 38) (al' := [some (.ref 146), some (.int (nI j)), some (.int x), some (.int z)]) (st' := [.int (-1), .ref 146]) d_227_37 (fun _ => rfl) ?_
      have hW1 := hW.q (g' := (upd g 6 (nI m))) (A' := (rf_u A 4 wl17)) (Gsm.rf.u rfl) (Ksm.rf.u rfl)
      refine rr_pv (as := [.int (-1)]) (al0 := [some (.ref 146), some (.int (-1))]) (r := []) d_227_38 mo_227 ml_110 mz_180 rfl rfl rfl (Nat.le_of_ble_eq_true rfl) (s_refuses (e := 1) (by decide) (by decide)) ?_
      show RR _ _ 41 [some (.ref 146), some (.int (nI j)), some (.int x), some (.int z)] [.int (-1)] (upd (upd g 6 (nI m)) 0 (-1)) (rf_u (rf_u A 4 wl17) 0 (upd ((rf_u A 4 wl17) 0) 1 ((rf_u A 4 wl17) 0 1 + nI 1))) _
      exact rr_ri d_227_41 mr_227 rfl ⟨rfl, (hW1.rf (by decide)).mo⟩
    · refine rr_nx (pc' := 29) (al' := [some (.ref 146), some (.int (nI j)), some (.int x), some (.int z)]) (st' := [.ref 146]) d_227_28 (fun _ => rfl) ?_
      refine rr_nx (pc' := 30) (al' := [some (.ref 146), some (.int (nI j)), some (.int x), some (.int z)]) (st' := [.int z, .ref 146]) d_227_29 (fun _ => rfl) ?_
      refine rr_pv (as := [.int z]) (al0 := [some (.ref 146), some (.int z)]) (r := []) d_227_30 mo_227 ml_260 mz_228 rfl rfl rfl (Nat.le_of_ble_eq_true rfl) (s_isElement hcu (by omega) z) ?_
      show RR _ _ 33 [some (.ref 146), some (.int (nI j)), some (.int x), some (.int z)] [.int (bI (nI 0 ≤ z ∧ z ≤ nI (m - 1)))] (upd g 6 (nI m)) (rf_u A 4 wl17) _
      refine rr_bne (t := 42) d_227_33 (by decide) (fun c33 => ?_) (fun c33 => ?_)
      · exact absurd ⟨(el_r h1 (by omega)).mp c25, (el_r h1 (by omega)).mp c33⟩ hx
      · refine rr_nx (pc' := 37) (al' := [some (.ref 146), some (.int (nI j)), some (.int x), some (.int z)]) (st' := [.ref 146]) d_227_36 (fun _ => rfl) ?_
        refine rr_nx (pc' := 38) (al' := [some (.ref 146), some (.int (nI j)), some (.int x), some (.int z)]) (st' := [.int (-1), .ref 146]) d_227_37 (fun _ => rfl) ?_
        have hW1 := hW.q (g' := (upd g 6 (nI m))) (A' := (rf_u A 4 wl17)) (Gsm.rf.u rfl) (Ksm.rf.u rfl)
        refine rr_pv (as := [.int (-1)]) (al0 := [some (.ref 146), some (.int (-1))]) (r := []) d_227_38 mo_227 ml_110 mz_180 rfl rfl rfl (Nat.le_of_ble_eq_true rfl) (s_refuses (e := 1) (by decide) (by decide)) ?_
        show RR _ _ 41 [some (.ref 146), some (.int (nI j)), some (.int x), some (.int z)] [.int (-1)] (upd (upd g 6 (nI m)) 0 (-1)) (rf_u (rf_u A 4 wl17) 0 (upd ((rf_u A 4 wl17) 0) 1 ((rf_u A 4 wl17) 0 1 + nI 1))) _
        exact rr_ri d_227_41 mr_227 rfl ⟨rfl, (hW1.rf (by decide)).mo⟩
  · exact absurd hyes c5
theorem T_isotope {S : CS} {G : Nat → Nat → Value} {B : Nat → Nat → Int32} {J : Nat → Nat → Int64} {R : Nat → Nat → Option Nat} {g : Nat → Int32} {A : Nat → Nat → Int32} {n : Nat} {W : WS} (hC : WC n S G B R W) (hR : WR n g A W) (hn : n ≤ 10000) {t : Int32} {x : Int32} {z : Int32} : Tie n 127 227 [some (.ref 2), some (.int t), some (.int x), some (.int z), none, none] [some (.ref 146), some (.int t), some (.int x), some (.int z)] S G B J R g A W := by
  have hO := hC.2.2.2.1
  by_cases hh : hasP (wK W) t
  · obtain ⟨j, hj, e_, h1⟩ := has_n hh
    subst e_
    obtain ⟨⟨m, c⟩, htb⟩ : ∃ tb, tbK (wK W) j = tb := ⟨_, rfl⟩
    rw [htb] at h1
    by_cases hx : inP x m ∧ inP z m
    · obtain ⟨p, hp, e_⟩ := in_n hx.1
      subst e_
      obtain ⟨q, hq, e_⟩ := in_n hx.2
      subst e_
      exact ⟨_, _, p_isotope_y hC hj htb h1 hp hq, r_isotope_y hR hO hj htb h1 hp hq hn⟩
    · exact ⟨_, _, p_isotope_b hC hj htb h1 hx, r_isotope_b hR hO hj htb h1 hx⟩
  · exact ⟨_, _, p_isotope_n hC hh, r_isotope_n hR hO hh⟩
theorem p_conjugate_y {S : CS} {G : Nat → Nat → Value} {B : Nat → Nat → Int32} {J : Nat → Nat → Int64} {R : Nat → Nat → Option Nat} {n : Nat} {W : WS} (hW : WC n S G B R W) {j m : Nat} {c : Nat → Nat} (hj : j < 6) (htb : tbK (wK W) j = (m, c)) (h1 : 1 ≤ m) {k : Nat} (hk6 : k < 6) : CR 80 128 0 [some (.ref 2), some (.int (nI j)), some (.int (nI k))] [] S G B J R (fun r S' G' B' J' R' => r = some (.int (nI 0)) ∧ WC (n + 1) S' G' B' R' (chW W j (m, cjN k m c))) := by
  have hS := hW.1.1
  have hF := hW.2.1
  have hO := hW.2.2.2.1
  obtain ⟨ta, ka, la, hH, hLk, hl2, hs3, hbd⟩ := hW.2.2.1
  obtain ⟨zt, hzt, ezt⟩ := (hH.2.1 j hj).2
  have ht := hH.ta hj
  have hsh := hH.2.2.2.2.2.2.1 j hj
  rw [show kH (wK W) (kD (wK W)) j = (m, c) from htb] at hsh
  have hok := tb_ok hO hj
  rw [htb] at hok
  have hn : G (ta j) 0 = .int (nI m) := hsh.1
  have hc : TabC B (ta j) m c := hsh.c hok
  have hl : Lat m c := hok.2
  have hm6 : m ≤ 6 := hok.1
  have hyes : hasP (wK W) (nI j) := (has_i hj).mpr (by rw [htb]; exact h1)
  refine cr_nx (pc' := 1) (al' := [some (.ref 2), some (.int (nI j)), some (.int (nI k))]) (st' := [.ref 2]) d_128_0 (fun _ => rfl) ?_
  refine cr_nx (pc' := 2) (al' := [some (.ref 2), some (.int (nI j)), some (.int (nI k))]) (st' := [.int (nI j), .ref 2]) d_128_1 (fun _ => rfl) ?_
  refine cr_pv (b := 2) (as := [.int (nI j)]) (al0 := [some (.ref 2), some (.int (nI j))]) (r := []) d_128_2 cw_128 cm_11_137 cz_126 rfl rfl (hS.i (a := 2) (by decide) (by decide)) (by rw [cw_126]; exact (hS.s (a := 2) (by decide) (by decide) rfl)) (by rw [cw_126]; decide) rfl (Nat.le_of_ble_eq_true rfl) (k_has hS hF hH hO) ?_
  show CR _ _ 5 [some (.ref 2), some (.int (nI j)), some (.int (nI k))] [.int (bI (hasP (wK W) (nI j)))] S G B J R _
  refine cr_bne (t := 15) d_128_5 (by decide) (fun c5 => ?_) (fun c5 => ?_)
  · refine cr_nx (pc' := 16) (al' := [some (.ref 2), some (.int (nI j)), some (.int (nI k))]) (st' := [.int (nI k)]) d_128_15 (fun _ => rfl) ?_
    refine cn_zlt (t := 25) d_128_16 (by decide) (by first | omega | assumption | exact cu_36 (by omega) (cu_lt (by omega) (by omega))) (fun c16 => ?_) (fun c16 => ?_)
    · exact c16.elim
    · refine cr_nx (pc' := 20) (al' := [some (.ref 2), some (.int (nI j)), some (.int (nI k))]) (st' := [.int (nI k)]) d_128_19 (fun _ => rfl) ?_
      refine cn_bp (v := 6) d_128_20 (by decide) ?_
      refine cn_clt (t := 31) d_128_22 (by decide) (by first | omega | assumption | exact cu_36 (by omega) (cu_lt (by omega) (by omega))) (by first | omega | assumption | exact cu_36 (by omega) (cu_lt (by omega) (by omega))) (fun c22 => ?_) (fun c22 => ?_)
      · refine cr_nx (pc' := 32) (al' := [some (.ref 2), some (.int (nI j)), some (.int (nI k))]) (st' := [.ref 2]) d_128_31 (fun _ => rfl) ?_
        refine cr_gf (v := .ref 86) d_128_32 cw_128 cf_11_38 (hS.i (a := 2) (by decide) (by decide)) (hS.s (a := 2) (by decide) (by decide) rfl) (by decide) (fx_2_6 hF) ?_
        refine cr_nx (pc' := 36) (al' := [some (.ref 2), some (.int (nI j)), some (.int (nI k))]) (st' := [.ref 2, .ref 86]) d_128_35 (fun _ => rfl) ?_
        refine cr_gf (v := .ref 3) d_128_36 cw_128 cf_11_10 (hS.i (a := 2) (by decide) (by decide)) (hS.s (a := 2) (by decide) (by decide) rfl) (by decide) (fx_2_0 hF) ?_
        refine cr_gf (v := .ref 4) d_128_39 cw_128 cf_11_140 (hS.i (a := 3) (by decide) (by decide)) (hS.s (a := 3) (by decide) (by decide) rfl) (by decide) (fx_3_0 hF) ?_
        refine cr_nx (pc' := 43) (al' := [some (.ref 2), some (.int (nI j)), some (.int (nI k))]) (st' := [.int (nI j), .ref 4, .ref 86]) d_128_42 (fun _ => rfl) ?_
        refine cr_aa (a := 4) (v := .ref (ta j)) d_128_43 (hS.i (a := 4) (by decide) (by decide)) (by decide) (hS.s (a := 4) (by decide) (by decide) rfl) (by decide) (show j < 6 by first | omega | assumption | exact cu_36 (by omega) (cu_lt (by omega) (by omega))) (show va_rf _ = _ by rw [(hH.2.1 j hj).1]; rfl) ?_
        refine cr_nx (pc' := 45) (al' := [some (.ref 2), some (.int (nI j)), some (.int (nI k))]) (st' := [.int (nI k), .ref (ta j), .ref 86]) d_128_44 (fun _ => rfl) ?_
        refine cr_cv (b := 86) (as := [.ref (ta j), .int (nI k)]) (al0 := [some (.ref 86), some (.ref (ta j)), some (.int (nI k)), none, none]) (r := []) d_128_45 cw_128 cm_11_158 cz_98 rfl rfl (hS.i (a := 86) (by decide) (by decide)) (by rw [cw_98]; exact (hS.s (a := 86) (by decide) (by decide) rfl)) (by rw [cw_98]; decide) rfl (cr_wk (Nat.le_of_ble_eq_true rfl) (k_makeConjugate ht hn hc (tb_86 hS hF) (by omega) hl hk6)) (fun v1 S1 G1 B1 J1 R1 h1x => ?_)
        obtain ⟨q0_, q1_, q2_, q3_, q4_, w86, q9_, hw86⟩ := h1x
        obtain rfl := q0_
        obtain rfl := q1_.symm
        obtain rfl := q2_
        obtain rfl := q3_.symm
        obtain rfl := q4_.symm
        obtain rfl := q9_
        show CR _ _ 48 [some (.ref 2), some (.int (nI j)), some (.int (nI k))] [] S (up2 G 86 0 (.int (nI m))) (upr B 87 w86) J R _
        refine cr_nx (pc' := 49) (al' := [some (.ref 2), some (.int (nI j)), some (.int (nI k))]) (st' := [.ref 2]) d_128_48 (fun _ => rfl) ?_
        refine cr_nx (pc' := 50) (al' := [some (.ref 2), some (.int (nI j)), some (.int (nI k))]) (st' := [.int (nI j), .ref 2]) d_128_49 (fun _ => rfl) ?_
        refine cn_ic (v := 0) d_128_50 (by decide) ?_
        have hW1 : WC n S (up2 G 86 0 (.int (nI m))) (upr B 87 w86) R W := hW.q (FxG.ut hF) (Gfr.rf.u (by decide)) (Bfr.rf.u (by decide))
        refine cr_cv (b := 2) (as := [.int (nI j), .int (nI 0)]) (al0 := [some (.ref 2), some (.int (nI j)), some (.int (nI 0))]) (r := []) d_128_51 cw_128 cm_11_115 cz_122 rfl rfl (hS.i (a := 2) (by decide) (by decide)) (by rw [cw_122]; exact (hS.s (a := 2) (by decide) (by decide) rfl)) (by rw [cw_122]; decide) rfl (cr_wk (Nat.le_of_ble_eq_true rfl) (k_change (tb := (m, cjN k m c)) hW1 hj ⟨hm6, cj_lat hl⟩ up2_s (fun q hq => by rw [upr_s]; exact hw86 q hq))) (fun v1 S1 G1 B1 J1 R1 h1x => ?_)
        obtain ⟨q0_, hW2⟩ := h1x
        obtain rfl := q0_
        show CR _ _ 54 [some (.ref 2), some (.int (nI j)), some (.int (nI k))] [.int (nI 0)] S1 G1 B1 J1 R1 _
        exact cr_ri d_128_54 cx_128 rfl ⟨rfl, hW2.mo⟩
      · omega
  · exact absurd hyes c5
theorem r_conjugate_y {g : Nat → Int32} {A : Nat → Nat → Int32} {n : Nat} {W : WS} (hW : WR n g A W) (hO : CoOk (wK W)) {j m : Nat} {c : Nat → Nat} (hj : j < 6) (htb : tbK (wK W) j = (m, c)) (h1 : 1 ≤ m) {k : Nat} (hk6 : k < 6) (hn5 : n ≤ 10000) : RR 80 230 0 [some (.ref 146), some (.int (nI j)), some (.int (nI k))] [] g A (fun r g' A' => r = some (.int (nI 0)) ∧ WR (n + 1) g' A' (chW W j (m, cjN k m c))) := by
  have hsh := hW.1.1.1 j hj
  rw [show kH (wK W) (kD (wK W)) j = (m, c) from htb] at hsh
  have hok := tb_ok hO hj
  rw [htb] at hok
  have hk : A 1 (37 * j) = nI m := hsh.1
  have hl : Lat m c := hok.2
  have hm6 : m ≤ 6 := hok.1
  have hyes : isT A (nI j) := (has_r hW hO).mpr ((has_i hj).mpr (by rw [htb]; exact h1))
  refine rr_nx (pc' := 1) (al' := [some (.ref 146), some (.int (nI j)), some (.int (nI k))]) (st' := [.ref 146]) d_230_0 (fun _ => rfl) ?_
  refine rr_nx (pc' := 2) (al' := [some (.ref 146), some (.int (nI j)), some (.int (nI k))]) (st' := [.int (nI j), .ref 146]) d_230_1 (fun _ => rfl) ?_
  refine rr_pv (as := [.int (nI j)]) (al0 := [some (.ref 146), some (.int (nI j))]) (r := []) d_230_2 mo_230 ml_124 mz_184 rfl rfl rfl (Nat.le_of_ble_eq_true rfl) (s_isTable (nI j)) ?_
  show RR _ _ 5 [some (.ref 146), some (.int (nI j)), some (.int (nI k))] [.int (bI (isT A (nI j)))] g A _
  refine rr_bne (t := 15) d_230_5 (by decide) (fun c5 => ?_) (fun c5 => ?_)
  · refine rr_nx (pc' := 16) (al' := [some (.ref 146), some (.int (nI j)), some (.int (nI k))]) (st' := [.int (nI k)]) d_230_15 (fun _ => rfl) ?_
    refine rn_ic (v := 0) d_230_16 (by decide) ?_
    refine rn_ic (v := 5) d_230_17 (by decide) ?_
    refine rr_ps (as := [.int (nI k), .int (nI 0), .int (nI 5)]) (al0 := [some (.int (nI k)), some (.int (nI 0)), some (.int (nI 5))]) (r := []) d_230_18 mo_230 ml_106 mz_179 rfl rfl rfl (Nat.le_of_ble_eq_true rfl) (s_lies (nI k) (nI 0) (nI 5)) ?_
    show RR _ _ 21 [some (.ref 146), some (.int (nI j)), some (.int (nI k))] [.int (bI ((nI 0) ≤ (nI k) ∧ (nI k) ≤ (nI 5)))] g A _
    refine rr_bne (t := 30) d_230_21 (by decide) (fun c21 => ?_) (fun c21 => ?_)
    · refine rr_nx (pc' := 31) (al' := [some (.ref 146), some (.int (nI j)), some (.int (nI k))]) (st' := [.ref 146]) d_230_30 (fun _ => rfl) ?_
      refine rr_nx (pc' := 32) (al' := [some (.ref 146), some (.int (nI j)), some (.int (nI k))]) (st' := [.int (nI j), .ref 146]) d_230_31 (fun _ => rfl) ?_
      refine rr_pv (as := [.int (nI j)]) (al0 := [some (.ref 146), some (.int (nI j)), none]) (r := []) d_230_32 mo_230 ml_248 mz_208 rfl rfl rfl (Nat.le_of_ble_eq_true rfl) (s_lays (n := m) hj hm6 hk) ?_
      obtain ⟨wl32, hwl32⟩ : ∃ w_, w_ = rf_f (fun q => A 1 (37 * j + 1 + q)) (A 4) (m * m) := ⟨_, rfl⟩
      rw [← hwl32]
      show RR _ _ 35 [some (.ref 146), some (.int (nI j)), some (.int (nI k))] [] (upd g 6 (nI m)) (rf_u A 4 wl32) _
      have hcu := cur_l (g := g) hsh hm6 hl hwl32
      refine rr_nx (pc' := 36) (al' := [some (.ref 146), some (.int (nI j)), some (.int (nI k))]) (st' := [.ref 146]) d_230_35 (fun _ => rfl) ?_
      refine rr_nx (pc' := 37) (al' := [some (.ref 146), some (.int (nI j)), some (.int (nI k))]) (st' := [.int (nI k), .ref 146]) d_230_36 (fun _ => rfl) ?_
      refine rr_cv (as := [.int (nI k)]) (al0 := [some (.ref 146), some (.int (nI k)), none, none, none]) (r := []) d_230_37 mo_230 ml_267 mz_231 rfl rfl rfl (rr_wk (Nat.le_of_ble_eq_true rfl) (s_conjugates hcu hl hk6)) (fun v1 g1 A1 h1x => ?_)
      obtain ⟨q0_, q1_, w5, q2_, hw5⟩ := h1x
      obtain rfl := q0_
      obtain rfl := q1_
      obtain rfl := q2_
      show RR _ _ 40 [some (.ref 146), some (.int (nI j)), some (.int (nI k))] [] (upd (upd g 6 (nI m)) 8 (nI m)) (rf_u (rf_u A 4 wl32) 5 w5) _
      refine rr_nx (pc' := 41) (al' := [some (.ref 146), some (.int (nI j)), some (.int (nI k))]) (st' := [.ref 146]) d_230_40 (fun _ => rfl) ?_
      refine rr_nx (pc' := 42) (al' := [some (.ref 146), some (.int (nI j)), some (.int (nI k))]) (st' := [.int (nI j), .ref 146]) d_230_41 (fun _ => rfl) ?_
      have hW1 := hW.q (g' := (upd (upd g 6 (nI m)) 8 (nI m))) (A' := (rf_u (rf_u A 4 wl32) 5 w5)) ((Gsm.rf.u rfl).u rfl) ((Ksm.rf.u rfl).u rfl)
      refine rr_cv (as := [.int (nI j)]) (al0 := [some (.ref 146), some (.int (nI j)), none, none, none]) (r := []) d_230_42 mo_230 ml_257 mz_224 rfl rfl rfl (rr_wk (Nat.le_of_ble_eq_true rfl) (s_becomes (m := m) (c := cjN k m c) hW1.1.1 hO.1 hj hm6 (by rfl) (fun q hq => by rw [rf_u_s]; exact hw5 q hq))) (fun v1 g1 A1 h1x => ?_)
      obtain ⟨q0_, q1_, f1, q2_, hH1, hf1⟩ := h1x
      obtain rfl := q0_
      obtain rfl := q1_
      obtain rfl := q2_
      show RR _ _ 45 [some (.ref 146), some (.int (nI j)), some (.int (nI k))] [] (upd (upd g 6 (nI m)) 8 (nI m)) (rf_u (rf_u (rf_u A 4 wl32) 5 w5) 1 f1) _
      refine rr_nx (pc' := 46) (al' := [some (.ref 146), some (.int (nI j)), some (.int (nI k))]) (st' := [.ref 146]) d_230_45 (fun _ => rfl) ?_
      refine rn_ic (v := 0) d_230_46 (by decide) ?_
      refine rr_pv (as := [.int (nI 0)]) (al0 := [some (.ref 146), some (.int (nI 0))]) (r := []) d_230_47 mo_230 ml_114 mz_181 rfl rfl rfl (Nat.le_of_ble_eq_true rfl) (s_good _) ?_
      show RR _ _ 50 [some (.ref 146), some (.int (nI j)), some (.int (nI k))] [.int (nI 0)] (upd (upd (upd (upd g 6 (nI m)) 8 (nI m)) 0 (nI 0)) 1 ((upd (upd g 6 (nI m)) 8 (nI m)) 1 + nI 1)) (rf_u (rf_u (rf_u A 4 wl32) 5 w5) 1 f1) _
      exact rr_ri d_230_50 mr_230 rfl ⟨rfl, hW1.ch (by omega) hH1 hf1 rfl hO⟩
    · exact absurd (ia_natI (by decide) (show k ≤ 5 by omega)) c21
  · exact absurd hyes c5
theorem p_conjugate_n {S : CS} {G : Nat → Nat → Value} {B : Nat → Nat → Int32} {J : Nat → Nat → Int64} {R : Nat → Nat → Option Nat} {n : Nat} {W : WS} (hW : WC n S G B R W) {t : Int32} (hh : ¬ hasP (wK W) t) {w : Int32} : CR 80 128 0 [some (.ref 2), some (.int t), some (.int w)] [] S G B J R (fun r S' G' B' J' R' => r = some (.int (-2)) ∧ WC (n + 1) S' G' B' R' (refW W (-2) 2)) := by
  have hS := hW.1.1
  have hF := hW.2.1
  have hO := hW.2.2.2.1
  obtain ⟨ta, ka, la, hH, hLk, hl2, hs3, hbd⟩ := hW.2.2.1
  refine cr_nx (pc' := 1) (al' := [some (.ref 2), some (.int t), some (.int w)]) (st' := [.ref 2]) d_128_0 (fun _ => rfl) ?_
  refine cr_nx (pc' := 2) (al' := [some (.ref 2), some (.int t), some (.int w)]) (st' := [.int t, .ref 2]) d_128_1 (fun _ => rfl) ?_
  refine cr_pv (b := 2) (as := [.int t]) (al0 := [some (.ref 2), some (.int t)]) (r := []) d_128_2 cw_128 cm_11_137 cz_126 rfl rfl (hS.i (a := 2) (by decide) (by decide)) (by rw [cw_126]; exact (hS.s (a := 2) (by decide) (by decide) rfl)) (by rw [cw_126]; decide) rfl (Nat.le_of_ble_eq_true rfl) (k_has hS hF hH hO) ?_
  show CR _ _ 5 [some (.ref 2), some (.int t), some (.int w)] [.int (bI (hasP (wK W) t))] S G B J R _
  refine cr_bne (t := 15) d_128_5 (by decide) (fun c5 => ?_) (fun c5 => ?_)
  · exact absurd c5 hh
  · refine cr_nx (pc' := 9) (al' := [some (.ref 2), some (.int t), some (.int w)]) (st' := [.ref 2]) d_128_8 (fun _ => rfl) ?_
    refine cr_nx (pc' := 11) (al' := [some (.ref 2), some (.int t), some (.int w)]) (st' := [.int (-2), .ref 2]) d_128_9 (fun _ => rfl) ?_
    refine cr_pv (b := 2) (as := [.int (-2)]) (al0 := [some (.ref 2), some (.int (-2))]) (r := []) d_128_11 cw_128 cm_11_104 cz_119 rfl rfl (hS.i (a := 2) (by decide) (by decide)) (by rw [cw_119]; exact (hS.s (a := 2) (by decide) (by decide) rfl)) (by rw [cw_119]; decide) rfl (Nat.le_of_ble_eq_true rfl) (k_refuse (e := 2) hS hF (by decide) (by decide)) ?_
    show CR _ _ 14 [some (.ref 2), some (.int t), some (.int w)] [.int (-2)] S (up2 G 2 16 (.int (-2))) (upr B 145 (upd (B 145) 2 (B 145 2 + nI 1))) J R _
    exact cr_ri d_128_14 cx_128 rfl ⟨rfl, (hW.rf (by decide)).mo⟩
theorem r_conjugate_n {g : Nat → Int32} {A : Nat → Nat → Int32} {n : Nat} {W : WS} (hW : WR n g A W) (hO : CoOk (wK W)) {t : Int32} (hh : ¬ hasP (wK W) t) {w : Int32} : RR 80 230 0 [some (.ref 146), some (.int t), some (.int w)] [] g A (fun r g' A' => r = some (.int (-2)) ∧ WR (n + 1) g' A' (refW W (-2) 2)) := by
  refine rr_nx (pc' := 1) (al' := [some (.ref 146), some (.int t), some (.int w)]) (st' := [.ref 146]) d_230_0 (fun _ => rfl) ?_
  refine rr_nx (pc' := 2) (al' := [some (.ref 146), some (.int t), some (.int w)]) (st' := [.int t, .ref 146]) d_230_1 (fun _ => rfl) ?_
  refine rr_pv (as := [.int t]) (al0 := [some (.ref 146), some (.int t)]) (r := []) d_230_2 mo_230 ml_124 mz_184 rfl rfl rfl (Nat.le_of_ble_eq_true rfl) (s_isTable t) ?_
  show RR _ _ 5 [some (.ref 146), some (.int t), some (.int w)] [.int (bI (isT A t))] g A _
  refine rr_bne (t := 15) d_230_5 (by decide) (fun c5 => ?_) (fun c5 => ?_)
  · exact absurd c5 (fun e_ => hh ((has_r hW hO).mp e_))
  · refine rr_nx (pc' := 9) (al' := [some (.ref 146), some (.int t), some (.int w)]) (st' := [.ref 146]) d_230_8 (fun _ => rfl) ?_
    refine rr_nx (pc' := 11) (al' := [some (.ref 146), some (.int t), some (.int w)]) (st' := [.int (-2), .ref 146]) d_230_9 (fun _ => rfl) ?_
    have hW1 := hW.q (g' := g) (A' := A) Gsm.rf Ksm.rf
    refine rr_pv (as := [.int (-2)]) (al0 := [some (.ref 146), some (.int (-2))]) (r := []) d_230_11 mo_230 ml_110 mz_180 rfl rfl rfl (Nat.le_of_ble_eq_true rfl) (s_refuses (e := 2) (by decide) (by decide)) ?_
    show RR _ _ 14 [some (.ref 146), some (.int t), some (.int w)] [.int (-2)] (upd g 0 (-2)) (rf_u A 0 (upd (A 0) 2 (A 0 2 + nI 1))) _
    exact rr_ri d_230_14 mr_230 rfl ⟨rfl, (hW1.rf (by decide)).mo⟩
theorem p_conjugate_b {S : CS} {G : Nat → Nat → Value} {B : Nat → Nat → Int32} {J : Nat → Nat → Int64} {R : Nat → Nat → Option Nat} {n : Nat} {W : WS} (hW : WC n S G B R W) {j m : Nat} {c : Nat → Nat} (hj : j < 6) (htb : tbK (wK W) j = (m, c)) (h1 : 1 ≤ m) {w : Int32} (hw : ¬ inP w 6) : CR 80 128 0 [some (.ref 2), some (.int (nI j)), some (.int w)] [] S G B J R (fun r S' G' B' J' R' => r = some (.int (-1)) ∧ WC (n + 1) S' G' B' R' (refW W (-1) 1)) := by
  have hS := hW.1.1
  have hF := hW.2.1
  have hO := hW.2.2.2.1
  obtain ⟨ta, ka, la, hH, hLk, hl2, hs3, hbd⟩ := hW.2.2.1
  obtain ⟨zt, hzt, ezt⟩ := (hH.2.1 j hj).2
  have ht := hH.ta hj
  have hsh := hH.2.2.2.2.2.2.1 j hj
  rw [show kH (wK W) (kD (wK W)) j = (m, c) from htb] at hsh
  have hok := tb_ok hO hj
  rw [htb] at hok
  have hn : G (ta j) 0 = .int (nI m) := hsh.1
  have hc : TabC B (ta j) m c := hsh.c hok
  have hl : Lat m c := hok.2
  have hm6 : m ≤ 6 := hok.1
  have hyes : hasP (wK W) (nI j) := (has_i hj).mpr (by rw [htb]; exact h1)
  refine cr_nx (pc' := 1) (al' := [some (.ref 2), some (.int (nI j)), some (.int w)]) (st' := [.ref 2]) d_128_0 (fun _ => rfl) ?_
  refine cr_nx (pc' := 2) (al' := [some (.ref 2), some (.int (nI j)), some (.int w)]) (st' := [.int (nI j), .ref 2]) d_128_1 (fun _ => rfl) ?_
  refine cr_pv (b := 2) (as := [.int (nI j)]) (al0 := [some (.ref 2), some (.int (nI j))]) (r := []) d_128_2 cw_128 cm_11_137 cz_126 rfl rfl (hS.i (a := 2) (by decide) (by decide)) (by rw [cw_126]; exact (hS.s (a := 2) (by decide) (by decide) rfl)) (by rw [cw_126]; decide) rfl (Nat.le_of_ble_eq_true rfl) (k_has hS hF hH hO) ?_
  show CR _ _ 5 [some (.ref 2), some (.int (nI j)), some (.int w)] [.int (bI (hasP (wK W) (nI j)))] S G B J R _
  refine cr_bne (t := 15) d_128_5 (by decide) (fun c5 => ?_) (fun c5 => ?_)
  · refine cr_nx (pc' := 16) (al' := [some (.ref 2), some (.int (nI j)), some (.int w)]) (st' := [.int w]) d_128_15 (fun _ => rfl) ?_
    refine cr_ilt (t := 25) d_128_16 (by decide) (fun c16 => ?_) (fun c16 => ?_)
    · refine cr_nx (pc' := 26) (al' := [some (.ref 2), some (.int (nI j)), some (.int w)]) (st' := [.ref 2]) d_128_25 (fun _ => rfl) ?_
      refine cr_nx (pc' := 27) (al' := [some (.ref 2), some (.int (nI j)), some (.int w)]) (st' := [.int (-1), .ref 2]) d_128_26 (fun _ => rfl) ?_
      refine cr_pv (b := 2) (as := [.int (-1)]) (al0 := [some (.ref 2), some (.int (-1))]) (r := []) d_128_27 cw_128 cm_11_104 cz_119 rfl rfl (hS.i (a := 2) (by decide) (by decide)) (by rw [cw_119]; exact (hS.s (a := 2) (by decide) (by decide) rfl)) (by rw [cw_119]; decide) rfl (Nat.le_of_ble_eq_true rfl) (k_refuse (e := 1) hS hF (by decide) (by decide)) ?_
      show CR _ _ 30 [some (.ref 2), some (.int (nI j)), some (.int w)] [.int (-1)] S (up2 G 2 16 (.int (-1))) (upr B 145 (upd (B 145) 1 (B 145 1 + nI 1))) J R _
      exact cr_ri d_128_30 cx_128 rfl ⟨rfl, (hW.rf (by decide)).mo⟩
    · refine cr_nx (pc' := 20) (al' := [some (.ref 2), some (.int (nI j)), some (.int w)]) (st' := [.int w]) d_128_19 (fun _ => rfl) ?_
      refine cn_bp (v := 6) d_128_20 (by decide) ?_
      refine cr_clt (t := 31) d_128_22 (by decide) (fun c22 => ?_) (fun c22 => ?_)
      · exact absurd (show inP w 6 from ⟨by rw [i_lt0] at c16; omega, by rw [i_ltN (by decide)] at c22; exact c22⟩) hw
      · refine cr_nx (pc' := 26) (al' := [some (.ref 2), some (.int (nI j)), some (.int w)]) (st' := [.ref 2]) d_128_25 (fun _ => rfl) ?_
        refine cr_nx (pc' := 27) (al' := [some (.ref 2), some (.int (nI j)), some (.int w)]) (st' := [.int (-1), .ref 2]) d_128_26 (fun _ => rfl) ?_
        refine cr_pv (b := 2) (as := [.int (-1)]) (al0 := [some (.ref 2), some (.int (-1))]) (r := []) d_128_27 cw_128 cm_11_104 cz_119 rfl rfl (hS.i (a := 2) (by decide) (by decide)) (by rw [cw_119]; exact (hS.s (a := 2) (by decide) (by decide) rfl)) (by rw [cw_119]; decide) rfl (Nat.le_of_ble_eq_true rfl) (k_refuse (e := 1) hS hF (by decide) (by decide)) ?_
        show CR _ _ 30 [some (.ref 2), some (.int (nI j)), some (.int w)] [.int (-1)] S (up2 G 2 16 (.int (-1))) (upr B 145 (upd (B 145) 1 (B 145 1 + nI 1))) J R _
        exact cr_ri d_128_30 cx_128 rfl ⟨rfl, (hW.rf (by decide)).mo⟩
  · exact absurd hyes c5
theorem r_conjugate_b {g : Nat → Int32} {A : Nat → Nat → Int32} {n : Nat} {W : WS} (hW : WR n g A W) (hO : CoOk (wK W)) {j m : Nat} {c : Nat → Nat} (hj : j < 6) (htb : tbK (wK W) j = (m, c)) (h1 : 1 ≤ m) {w : Int32} (hw : ¬ inP w 6) : RR 80 230 0 [some (.ref 146), some (.int (nI j)), some (.int w)] [] g A (fun r g' A' => r = some (.int (-1)) ∧ WR (n + 1) g' A' (refW W (-1) 1)) := by
  have hsh := hW.1.1.1 j hj
  rw [show kH (wK W) (kD (wK W)) j = (m, c) from htb] at hsh
  have hok := tb_ok hO hj
  rw [htb] at hok
  have hk : A 1 (37 * j) = nI m := hsh.1
  have hl : Lat m c := hok.2
  have hm6 : m ≤ 6 := hok.1
  have hyes : isT A (nI j) := (has_r hW hO).mpr ((has_i hj).mpr (by rw [htb]; exact h1))
  refine rr_nx (pc' := 1) (al' := [some (.ref 146), some (.int (nI j)), some (.int w)]) (st' := [.ref 146]) d_230_0 (fun _ => rfl) ?_
  refine rr_nx (pc' := 2) (al' := [some (.ref 146), some (.int (nI j)), some (.int w)]) (st' := [.int (nI j), .ref 146]) d_230_1 (fun _ => rfl) ?_
  refine rr_pv (as := [.int (nI j)]) (al0 := [some (.ref 146), some (.int (nI j))]) (r := []) d_230_2 mo_230 ml_124 mz_184 rfl rfl rfl (Nat.le_of_ble_eq_true rfl) (s_isTable (nI j)) ?_
  show RR _ _ 5 [some (.ref 146), some (.int (nI j)), some (.int w)] [.int (bI (isT A (nI j)))] g A _
  refine rr_bne (t := 15) d_230_5 (by decide) (fun c5 => ?_) (fun c5 => ?_)
  · refine rr_nx (pc' := 16) (al' := [some (.ref 146), some (.int (nI j)), some (.int w)]) (st' := [.int w]) d_230_15 (fun _ => rfl) ?_
    refine rn_ic (v := 0) d_230_16 (by decide) ?_
    refine rn_ic (v := 5) d_230_17 (by decide) ?_
    refine rr_ps (as := [.int w, .int (nI 0), .int (nI 5)]) (al0 := [some (.int w), some (.int (nI 0)), some (.int (nI 5))]) (r := []) d_230_18 mo_230 ml_106 mz_179 rfl rfl rfl (Nat.le_of_ble_eq_true rfl) (s_lies w (nI 0) (nI 5)) ?_
    show RR _ _ 21 [some (.ref 146), some (.int (nI j)), some (.int w)] [.int (bI ((nI 0) ≤ w ∧ w ≤ (nI 5)))] g A _
    refine rr_bne (t := 30) d_230_21 (by decide) (fun c21 => ?_) (fun c21 => ?_)
    · exact absurd c21 (fun e_ => hw ((in_r (m := 5) (by decide)).mp e_))
    · refine rr_nx (pc' := 25) (al' := [some (.ref 146), some (.int (nI j)), some (.int w)]) (st' := [.ref 146]) d_230_24 (fun _ => rfl) ?_
      refine rr_nx (pc' := 26) (al' := [some (.ref 146), some (.int (nI j)), some (.int w)]) (st' := [.int (-1), .ref 146]) d_230_25 (fun _ => rfl) ?_
      have hW1 := hW.q (g' := g) (A' := A) Gsm.rf Ksm.rf
      refine rr_pv (as := [.int (-1)]) (al0 := [some (.ref 146), some (.int (-1))]) (r := []) d_230_26 mo_230 ml_110 mz_180 rfl rfl rfl (Nat.le_of_ble_eq_true rfl) (s_refuses (e := 1) (by decide) (by decide)) ?_
      show RR _ _ 29 [some (.ref 146), some (.int (nI j)), some (.int w)] [.int (-1)] (upd g 0 (-1)) (rf_u A 0 (upd (A 0) 1 (A 0 1 + nI 1))) _
      exact rr_ri d_230_29 mr_230 rfl ⟨rfl, (hW1.rf (by decide)).mo⟩
  · exact absurd hyes c5
theorem T_conjugate {S : CS} {G : Nat → Nat → Value} {B : Nat → Nat → Int32} {J : Nat → Nat → Int64} {R : Nat → Nat → Option Nat} {g : Nat → Int32} {A : Nat → Nat → Int32} {n : Nat} {W : WS} (hC : WC n S G B R W) (hR : WR n g A W) (hn : n ≤ 10000) {t : Int32} {w : Int32} : Tie n 128 230 [some (.ref 2), some (.int t), some (.int w)] [some (.ref 146), some (.int t), some (.int w)] S G B J R g A W := by
  have hO := hC.2.2.2.1
  by_cases hh : hasP (wK W) t
  · obtain ⟨j, hj, e_, h1⟩ := has_n hh
    subst e_
    obtain ⟨⟨m, c⟩, htb⟩ : ∃ tb, tbK (wK W) j = tb := ⟨_, rfl⟩
    rw [htb] at h1
    by_cases hw : inP w 6
    · obtain ⟨k, hk6, e_⟩ := in_n hw
      subst e_
      exact ⟨_, _, p_conjugate_y hC hj htb h1 hk6, r_conjugate_y hR hO hj htb h1 hk6 hn⟩
    · exact ⟨_, _, p_conjugate_b hC hj htb h1 hw, r_conjugate_b hR hO hj htb h1 hw⟩
  · exact ⟨_, _, p_conjugate_n hC hh, r_conjugate_n hR hO hh⟩
