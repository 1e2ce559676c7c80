/-! Calls: rename, product, extend, quotient; printed by wip/whole/gen_c33.py. -/
theorem p_rename_y {S : CS} {G : Nat → Nat → Value} {B : Nat → Nat → Int32} {J : Nat → Nat → Int64} {R : Nat → Nat → Option Nat} {n : Nat} {W : WS} (hW : WC n S G B R W) {j m : Nat} {c : Nat → Nat} (hj : j < 6) (htb : tbK (wK W) j = (m, c)) (h1 : 1 ≤ m) {r : Nat} (hr : r < FA m) : CR 80 129 0 [some (.ref 2), some (.int (nI j)), some (.int (nI r)), none] [] S G B J R (fun r__ S' G' B' J' R' => r__ = some (.int (nI 0)) ∧ WC (n + 1) S' G' B' R' (chW W j (m, rnN m c (pmE m r)))) := by
  have hS := hW.1.1
  have hF := hW.2.1
  have hO := hW.2.2.2.1
  obtain ⟨ta, ka, la, hH, hLk, hl2, hs3, hbd⟩ := hW.2.2.1
  obtain ⟨zt, hzt, ezt⟩ := (hH.2.1 j hj).2
  have ht := hH.ta hj
  have hsh := hH.2.2.2.2.2.2.1 j hj
  rw [show kH (wK W) (kD (wK W)) j = (m, c) from htb] at hsh
  have hok := tb_ok hO hj
  rw [htb] at hok
  have hn : G (ta j) 0 = .int (nI m) := hsh.1
  have hc : TabC B (ta j) m c := hsh.c hok
  have hl : Lat m c := hok.2
  have hm6 : m ≤ 6 := hok.1
  have hyes : hasP (wK W) (nI j) := (has_i hj).mpr (by rw [htb]; exact h1)
  have hfa := FA_720 hm6
  have hP := pm_per hm6 hr
  refine cr_nx (pc' := 1) (al' := [some (.ref 2), some (.int (nI j)), some (.int (nI r)), none]) (st' := [.ref 2]) d_129_0 (fun _ => rfl) ?_
  refine cr_nx (pc' := 2) (al' := [some (.ref 2), some (.int (nI j)), some (.int (nI r)), none]) (st' := [.int (nI j), .ref 2]) d_129_1 (fun _ => rfl) ?_
  refine cr_pv (b := 2) (as := [.int (nI j)]) (al0 := [some (.ref 2), some (.int (nI j))]) (r := []) d_129_2 cw_129 cm_11_137 cz_126 rfl rfl (hS.i (a := 2) (by decide) (by decide)) (by rw [cw_126]; exact (hS.s (a := 2) (by decide) (by decide) rfl)) (by rw [cw_126]; decide) rfl (Nat.le_of_ble_eq_true rfl) (k_has hS hF hH hO) ?_
  show CR _ _ 5 [some (.ref 2), some (.int (nI j)), some (.int (nI r)), none] [.int (bI (hasP (wK W) (nI j)))] S G B J R _
  refine cr_bne (t := 15) d_129_5 (by decide) (fun c5 => ?_) (fun c5 => ?_)
  · refine cr_nx (pc' := 16) (al' := [some (.ref 2), some (.int (nI j)), some (.int (nI r)), none]) (st' := [.ref 2]) d_129_15 (fun _ => rfl) ?_
    refine cr_gf (v := .ref 3) d_129_16 cw_129 cf_11_10 (hS.i (a := 2) (by decide) (by decide)) (hS.s (a := 2) (by decide) (by decide) rfl) (by decide) (fx_2_0 hF) ?_
    refine cr_gf (v := .ref 4) d_129_19 cw_129 cf_11_140 (hS.i (a := 3) (by decide) (by decide)) (hS.s (a := 3) (by decide) (by decide) rfl) (by decide) (fx_3_0 hF) ?_
    refine cr_nx (pc' := 23) (al' := [some (.ref 2), some (.int (nI j)), some (.int (nI r)), none]) (st' := [.int (nI j), .ref 4]) d_129_22 (fun _ => rfl) ?_
    refine cr_aa (a := 4) (v := .ref (ta j)) d_129_23 (hS.i (a := 4) (by decide) (by decide)) (by decide) (hS.s (a := 4) (by decide) (by decide) rfl) (by decide) (show j < 6 by first | omega | assumption | exact cu_36 (by omega) (cu_lt (by omega) (by omega))) (show va_rf _ = _ by rw [(hH.2.1 j hj).1]; rfl) ?_
    refine cr_nx (pc' := 25) (al' := [some (.ref 2), some (.int (nI j)), some (.int (nI r)), some (.ref (ta j))]) (st' := []) d_129_24 (fun _ => rfl) ?_
    refine cr_nx (pc' := 26) (al' := [some (.ref 2), some (.int (nI j)), some (.int (nI r)), some (.ref (ta j))]) (st' := [.int (nI r)]) d_129_25 (fun _ => rfl) ?_
    refine cn_zlt (t := 41) d_129_26 (by decide) (by first | omega | assumption | exact cu_36 (by omega) (cu_lt (by omega) (by omega))) (fun c26 => ?_) (fun c26 => ?_)
    · exact c26.elim
    · refine cr_nx (pc' := 30) (al' := [some (.ref 2), some (.int (nI j)), some (.int (nI r)), some (.ref (ta j))]) (st' := [.int (nI r)]) d_129_29 (fun _ => rfl) ?_
      refine cr_gs d_129_30 cw_129 cq_11_162 ?_
      refine cr_nx (pc' := 34) (al' := [some (.ref 2), some (.int (nI j)), some (.int (nI r)), some (.ref (ta j))]) (st' := [.ref (ta j), .ref 0, .int (nI r)]) d_129_33 (fun _ => rfl) ?_
      refine cr_gf (v := .int (nI m)) d_129_34 cw_129 cf_11_112 ht.1 ht.2.2.1 (by decide) hn ?_
      refine cr_fa (v := (nI (FA m))) d_129_37 (show m < 7 by first | omega | assumption | exact cu_36 (by omega) (cu_lt (by omega) (by omega))) (am_fcN (by first | omega | assumption | exact cu_36 (by omega) (cu_lt (by omega) (by omega)))) ?_
      refine cn_clt (t := 47) d_129_38 (by decide) (by first | omega | assumption | exact cu_36 (by omega) (cu_lt (by omega) (by omega))) (by first | omega | assumption | exact cu_36 (by omega) (cu_lt (by omega) (by omega))) (fun c38 => ?_) (fun c38 => ?_)
      · refine cr_nx (pc' := 48) (al' := [some (.ref 2), some (.int (nI j)), some (.int (nI r)), some (.ref (ta j))]) (st' := [.ref 2]) d_129_47 (fun _ => rfl) ?_
        refine cr_gf (v := .ref 133) d_129_48 cw_129 cf_11_79 (hS.i (a := 2) (by decide) (by decide)) (hS.s (a := 2) (by decide) (by decide) rfl) (by decide) (fx_2_13 hF) ?_
        refine cr_nx (pc' := 52) (al' := [some (.ref 2), some (.int (nI j)), some (.int (nI r)), some (.ref (ta j))]) (st' := [.ref 2, .ref 133]) d_129_51 (fun _ => rfl) ?_
        refine cr_gf (v := .ref 86) d_129_52 cw_129 cf_11_38 (hS.i (a := 2) (by decide) (by decide)) (hS.s (a := 2) (by decide) (by decide) rfl) (by decide) (fx_2_6 hF) ?_
        refine cr_nx (pc' := 56) (al' := [some (.ref 2), some (.int (nI j)), some (.int (nI r)), some (.ref (ta j))]) (st' := [.ref (ta j), .ref 86, .ref 133]) d_129_55 (fun _ => rfl) ?_
        refine cr_nx (pc' := 57) (al' := [some (.ref 2), some (.int (nI j)), some (.int (nI r)), some (.ref (ta j))]) (st' := [.int (nI r), .ref (ta j), .ref 86, .ref 133]) d_129_56 (fun _ => rfl) ?_
        refine cr_cv (b := 133) (as := [.ref 86, .ref (ta j), .int (nI r)]) (al0 := [some (.ref 133), some (.ref 86), some (.ref (ta j)), some (.int (nI r)), none, none, none]) (r := []) d_129_57 cw_129 cm_11_165 cz_67 rfl rfl (hS.i (a := 133) (by decide) (by decide)) (by rw [cw_67]; exact (hS.s (a := 133) (by decide) (by decide) rfl)) (by rw [cw_67]; decide) rfl (cr_wk (Nat.le_of_ble_eq_true rfl) (k_makeRenamed ht hn hc (tb_86 hS hF) (by omega) hS hF h1 hr (by omega) (by decide))) (fun v1 S1 G1 B1 J1 R1 h1x => ?_)
        obtain ⟨q0_, q1_, q2_, q3_, q4_, w136, w86, q9_, hw86⟩ := h1x
        obtain rfl := q0_
        obtain rfl := q1_.symm
        obtain rfl := q2_
        obtain rfl := q3_.symm
        obtain rfl := q4_.symm
        obtain rfl := q9_
        show CR _ _ 60 [some (.ref 2), some (.int (nI j)), some (.int (nI r)), some (.ref (ta j))] [] S (up2 G 86 0 (.int (nI m))) (upr (upr B 136 w136) 87 w86) J R _
        refine cr_nx (pc' := 61) (al' := [some (.ref 2), some (.int (nI j)), some (.int (nI r)), some (.ref (ta j))]) (st' := [.ref 2]) d_129_60 (fun _ => rfl) ?_
        refine cr_nx (pc' := 62) (al' := [some (.ref 2), some (.int (nI j)), some (.int (nI r)), some (.ref (ta j))]) (st' := [.int (nI j), .ref 2]) d_129_61 (fun _ => rfl) ?_
        refine cn_ic (v := 0) d_129_62 (by decide) ?_
        have hW1 : WC n S (up2 G 86 0 (.int (nI m))) (upr (upr B 136 w136) 87 w86) R W := hW.q (FxG.ut hF) (Gfr.rf.u (by decide)) ((Bfr.rf.u (by decide)).u (by decide))
        refine cr_cv (b := 2) (as := [.int (nI j), .int (nI 0)]) (al0 := [some (.ref 2), some (.int (nI j)), some (.int (nI 0))]) (r := []) d_129_63 cw_129 cm_11_115 cz_122 rfl rfl (hS.i (a := 2) (by decide) (by decide)) (by rw [cw_122]; exact (hS.s (a := 2) (by decide) (by decide) rfl)) (by rw [cw_122]; decide) rfl (cr_wk (Nat.le_of_ble_eq_true rfl) (k_change (tb := (m, rnN m c (pmE m r))) hW1 hj ⟨hm6, rn_lat hl hP⟩ up2_s (fun q hq => by rw [upr_s]; exact hw86 q hq))) (fun v1 S1 G1 B1 J1 R1 h1x => ?_)
        obtain ⟨q0_, hW2⟩ := h1x
        obtain rfl := q0_
        show CR _ _ 66 [some (.ref 2), some (.int (nI j)), some (.int (nI r)), some (.ref (ta j))] [.int (nI 0)] S1 G1 B1 J1 R1 _
        exact cr_ri d_129_66 cx_129 rfl ⟨rfl, hW2.mo⟩
      · omega
  · exact absurd hyes c5
theorem r_rename_y {g : Nat → Int32} {A : Nat → Nat → Int32} {n : Nat} {W : WS} (hW : WR n g A W) (hO : CoOk (wK W)) {j m : Nat} {c : Nat → Nat} (hj : j < 6) (htb : tbK (wK W) j = (m, c)) (h1 : 1 ≤ m) {r : Nat} (hr : r < FA m) (hn5 : n ≤ 10000) : RR 80 232 0 [some (.ref 146), some (.int (nI j)), some (.int (nI r))] [] g A (fun r__ g' A' => r__ = some (.int (nI 0)) ∧ WR (n + 1) g' A' (chW W j (m, rnN m c (pmE m r)))) := by
  have hsh := hW.1.1.1 j hj
  rw [show kH (wK W) (kD (wK W)) j = (m, c) from htb] at hsh
  have hok := tb_ok hO hj
  rw [htb] at hok
  have hk : A 1 (37 * j) = nI m := hsh.1
  have hl : Lat m c := hok.2
  have hm6 : m ≤ 6 := hok.1
  have hyes : isT A (nI j) := (has_r hW hO).mpr ((has_i hj).mpr (by rw [htb]; exact h1))
  have hfa := FA_720 hm6
  have hP := pm_per hm6 hr
  refine rr_nx (pc' := 1) (al' := [some (.ref 146), some (.int (nI j)), some (.int (nI r))]) (st' := [.ref 146]) d_232_0 (fun _ => rfl) ?_
  refine rr_nx (pc' := 2) (al' := [some (.ref 146), some (.int (nI j)), some (.int (nI r))]) (st' := [.int (nI j), .ref 146]) d_232_1 (fun _ => rfl) ?_
  refine rr_pv (as := [.int (nI j)]) (al0 := [some (.ref 146), some (.int (nI j))]) (r := []) d_232_2 mo_232 ml_124 mz_184 rfl rfl rfl (Nat.le_of_ble_eq_true rfl) (s_isTable (nI j)) ?_
  show RR _ _ 5 [some (.ref 146), some (.int (nI j)), some (.int (nI r))] [.int (bI (isT A (nI j)))] g A _
  refine rr_bne (t := 15) d_232_5 (by decide) (fun c5 => ?_) (fun c5 => ?_)
  · refine rr_nx (pc' := 16) (al' := [some (.ref 146), some (.int (nI j)), some (.int (nI r))]) (st' := [.ref 146]) d_232_15 (fun _ => rfl) ?_
    refine rr_nx (pc' := 17) (al' := [some (.ref 146), some (.int (nI j)), some (.int (nI r))]) (st' := [.int (nI j), .ref 146]) d_232_16 (fun _ => rfl) ?_
    refine rr_pv (as := [.int (nI j)]) (al0 := [some (.ref 146), some (.int (nI j)), none]) (r := []) d_232_17 mo_232 ml_248 mz_208 rfl rfl rfl (Nat.le_of_ble_eq_true rfl) (s_lays (n := m) hj hm6 hk) ?_
    obtain ⟨wl17, hwl17⟩ : ∃ w_, w_ = rf_f (fun q => A 1 (37 * j + 1 + q)) (A 4) (m * m) := ⟨_, rfl⟩
    rw [← hwl17]
    show RR _ _ 20 [some (.ref 146), some (.int (nI j)), some (.int (nI r))] [] (upd g 6 (nI m)) (rf_u A 4 wl17) _
    have hcu := cur_l (g := g) hsh hm6 hl hwl17
    refine rr_nx (pc' := 21) (al' := [some (.ref 146), some (.int (nI j)), some (.int (nI r))]) (st' := [.int (nI r)]) d_232_20 (fun _ => rfl) ?_
    refine rn_ic (v := 0) d_232_21 (by decide) ?_
    refine rr_nx (pc' := 23) (al' := [some (.ref 146), some (.int (nI j)), some (.int (nI r))]) (st' := [.ref 146, .int (nI 0), .int (nI r)]) d_232_22 (fun _ => rfl) ?_
    refine rr_gf (v := .int (nI m)) d_232_23 mo_232 fl_127 rfl ?_
    refine rr_ps (as := [.int (nI m)]) (al0 := [some (.int (nI m)), none, none]) (r := [.int (nI 0), .int (nI r)]) d_232_26 mo_232 ml_270 mz_233 rfl rfl rfl (Nat.le_of_ble_eq_true rfl) (s_factorial (by omega)) ?_
    show RR _ _ 29 [some (.ref 146), some (.int (nI j)), some (.int (nI r))] [.int (nI (FA m)), .int (nI 0), .int (nI r)] (upd g 6 (nI m)) (rf_u A 4 wl17) _
    refine rn_ic (v := 1) d_232_29 (by decide) ?_
    refine rn_sub d_232_30 (by first | omega | assumption | exact cu_36 (by omega) (cu_lt (by omega) (by omega))) ?_
    refine rr_ps (as := [.int (nI r), .int (nI 0), .int (nI ((FA m) - 1))]) (al0 := [some (.int (nI r)), some (.int (nI 0)), some (.int (nI ((FA m) - 1)))]) (r := []) d_232_31 mo_232 ml_106 mz_179 rfl rfl rfl (Nat.le_of_ble_eq_true rfl) (s_lies (nI r) (nI 0) (nI ((FA m) - 1))) ?_
    show RR _ _ 34 [some (.ref 146), some (.int (nI j)), some (.int (nI r))] [.int (bI ((nI 0) ≤ (nI r) ∧ (nI r) ≤ (nI ((FA m) - 1))))] (upd g 6 (nI m)) (rf_u A 4 wl17) _
    refine rr_bne (t := 43) d_232_34 (by decide) (fun c34 => ?_) (fun c34 => ?_)
    · refine rr_nx (pc' := 44) (al' := [some (.ref 146), some (.int (nI j)), some (.int (nI r))]) (st' := [.ref 146]) d_232_43 (fun _ => rfl) ?_
      refine rr_nx (pc' := 45) (al' := [some (.ref 146), some (.int (nI j)), some (.int (nI r))]) (st' := [.int (nI r), .ref 146]) d_232_44 (fun _ => rfl) ?_
      refine rr_nx (pc' := 46) (al' := [some (.ref 146), some (.int (nI j)), some (.int (nI r))]) (st' := [.ref 146, .int (nI r), .ref 146]) d_232_45 (fun _ => rfl) ?_
      refine rr_gf (v := .int (nI m)) d_232_46 mo_232 fl_127 rfl ?_
      refine rr_cv (as := [.int (nI r), .int (nI m)]) (al0 := [some (.ref 146), some (.int (nI r)), some (.int (nI m)), none, none, none, none, none, none]) (r := []) d_232_49 mo_232 ml_273 mz_234 rfl rfl rfl (rr_wk (Nat.le_of_ble_eq_true rfl) (s_permutes hm6 hr)) (fun v1 g1 A1 h1x => ?_)
      obtain ⟨q0_, q1_, w13, q2_, hw13⟩ := h1x
      obtain rfl := q0_
      obtain rfl := q1_
      obtain rfl := q2_
      show RR _ _ 52 [some (.ref 146), some (.int (nI j)), some (.int (nI r))] [] (upd g 6 (nI m)) (rf_u (rf_u A 4 wl17) 13 w13) _
      refine rr_nx (pc' := 53) (al' := [some (.ref 146), some (.int (nI j)), some (.int (nI r))]) (st' := [.ref 146]) d_232_52 (fun _ => rfl) ?_
      refine rr_cv (as := []) (al0 := [some (.ref 146), none, none]) (r := []) d_232_53 mo_232 ml_276 mz_235 rfl rfl rfl (rr_wk (Nat.le_of_ble_eq_true rfl) (s_renames (hcu.up (j := 13) (by decide)) (p := pmE m r) (fun k hk => by rw [rf_u_s]; exact hw13 k hk) hP)) (fun v1 g1 A1 h1x => ?_)
      obtain ⟨q0_, q1_, w5, q2_, hw5⟩ := h1x
      obtain rfl := q0_
      obtain rfl := q1_
      obtain rfl := q2_
      show RR _ _ 56 [some (.ref 146), some (.int (nI j)), some (.int (nI r))] [] (upd (upd g 6 (nI m)) 8 (nI m)) (rf_u (rf_u (rf_u A 4 wl17) 13 w13) 5 w5) _
      refine rr_nx (pc' := 57) (al' := [some (.ref 146), some (.int (nI j)), some (.int (nI r))]) (st' := [.ref 146]) d_232_56 (fun _ => rfl) ?_
      refine rr_nx (pc' := 58) (al' := [some (.ref 146), some (.int (nI j)), some (.int (nI r))]) (st' := [.int (nI j), .ref 146]) d_232_57 (fun _ => rfl) ?_
      have hW1 := hW.q (g' := (upd (upd g 6 (nI m)) 8 (nI m))) (A' := (rf_u (rf_u (rf_u A 4 wl17) 13 w13) 5 w5)) ((Gsm.rf.u rfl).u rfl) (((Ksm.rf.u rfl).u rfl).u rfl)
      refine rr_cv (as := [.int (nI j)]) (al0 := [some (.ref 146), some (.int (nI j)), none, none, none]) (r := []) d_232_58 mo_232 ml_257 mz_224 rfl rfl rfl (rr_wk (Nat.le_of_ble_eq_true rfl) (s_becomes (m := m) (c := rnN m c (pmE m r)) hW1.1.1 hO.1 hj hm6 (by rfl) (fun q hq => by rw [rf_u_s]; exact hw5 q hq))) (fun v1 g1 A1 h1x => ?_)
      obtain ⟨q0_, q1_, f1, q2_, hH1, hf1⟩ := h1x
      obtain rfl := q0_
      obtain rfl := q1_
      obtain rfl := q2_
      show RR _ _ 61 [some (.ref 146), some (.int (nI j)), some (.int (nI r))] [] (upd (upd g 6 (nI m)) 8 (nI m)) (rf_u (rf_u (rf_u (rf_u A 4 wl17) 13 w13) 5 w5) 1 f1) _
      refine rr_nx (pc' := 62) (al' := [some (.ref 146), some (.int (nI j)), some (.int (nI r))]) (st' := [.ref 146]) d_232_61 (fun _ => rfl) ?_
      refine rn_ic (v := 0) d_232_62 (by decide) ?_
      refine rr_pv (as := [.int (nI 0)]) (al0 := [some (.ref 146), some (.int (nI 0))]) (r := []) d_232_63 mo_232 ml_114 mz_181 rfl rfl rfl (Nat.le_of_ble_eq_true rfl) (s_good _) ?_
      show RR _ _ 66 [some (.ref 146), some (.int (nI j)), some (.int (nI r))] [.int (nI 0)] (upd (upd (upd (upd g 6 (nI m)) 8 (nI m)) 0 (nI 0)) 1 ((upd (upd g 6 (nI m)) 8 (nI m)) 1 + nI 1)) (rf_u (rf_u (rf_u (rf_u A 4 wl17) 13 w13) 5 w5) 1 f1) _
      exact rr_ri d_232_66 mr_232 rfl ⟨rfl, hW1.ch (by omega) hH1 hf1 rfl hO⟩
    · exact absurd (ia_natI (by omega) (show r ≤ FA m - 1 by omega)) c34
  · exact absurd hyes c5
theorem p_rename_n {S : CS} {G : Nat → Nat → Value} {B : Nat → Nat → Int32} {J : Nat → Nat → Int64} {R : Nat → Nat → Option Nat} {n : Nat} {W : WS} (hW : WC n S G B R W) {t : Int32} (hh : ¬ hasP (wK W) t) {w : Int32} : CR 80 129 0 [some (.ref 2), some (.int t), some (.int w), none] [] S G B J R (fun r__ S' G' B' J' R' => r__ = some (.int (-2)) ∧ WC (n + 1) S' G' B' R' (refW W (-2) 2)) := by
  have hS := hW.1.1
  have hF := hW.2.1
  have hO := hW.2.2.2.1
  obtain ⟨ta, ka, la, hH, hLk, hl2, hs3, hbd⟩ := hW.2.2.1
  refine cr_nx (pc' := 1) (al' := [some (.ref 2), some (.int t), some (.int w), none]) (st' := [.ref 2]) d_129_0 (fun _ => rfl) ?_
  refine cr_nx (pc' := 2) (al' := [some (.ref 2), some (.int t), some (.int w), none]) (st' := [.int t, .ref 2]) d_129_1 (fun _ => rfl) ?_
  refine cr_pv (b := 2) (as := [.int t]) (al0 := [some (.ref 2), some (.int t)]) (r := []) d_129_2 cw_129 cm_11_137 cz_126 rfl rfl (hS.i (a := 2) (by decide) (by decide)) (by rw [cw_126]; exact (hS.s (a := 2) (by decide) (by decide) rfl)) (by rw [cw_126]; decide) rfl (Nat.le_of_ble_eq_true rfl) (k_has hS hF hH hO) ?_
  show CR _ _ 5 [some (.ref 2), some (.int t), some (.int w), none] [.int (bI (hasP (wK W) t))] S G B J R _
  refine cr_bne (t := 15) d_129_5 (by decide) (fun c5 => ?_) (fun c5 => ?_)
  · exact absurd c5 hh
  · refine cr_nx (pc' := 9) (al' := [some (.ref 2), some (.int t), some (.int w), none]) (st' := [.ref 2]) d_129_8 (fun _ => rfl) ?_
    refine cr_nx (pc' := 11) (al' := [some (.ref 2), some (.int t), some (.int w), none]) (st' := [.int (-2), .ref 2]) d_129_9 (fun _ => rfl) ?_
    refine cr_pv (b := 2) (as := [.int (-2)]) (al0 := [some (.ref 2), some (.int (-2))]) (r := []) d_129_11 cw_129 cm_11_104 cz_119 rfl rfl (hS.i (a := 2) (by decide) (by decide)) (by rw [cw_119]; exact (hS.s (a := 2) (by decide) (by decide) rfl)) (by rw [cw_119]; decide) rfl (Nat.le_of_ble_eq_true rfl) (k_refuse (e := 2) hS hF (by decide) (by decide)) ?_
    show CR _ _ 14 [some (.ref 2), some (.int t), some (.int w), none] [.int (-2)] S (up2 G 2 16 (.int (-2))) (upr B 145 (upd (B 145) 2 (B 145 2 + nI 1))) J R _
    exact cr_ri d_129_14 cx_129 rfl ⟨rfl, (hW.rf (by decide)).mo⟩
theorem r_rename_n {g : Nat → Int32} {A : Nat → Nat → Int32} {n : Nat} {W : WS} (hW : WR n g A W) (hO : CoOk (wK W)) {t : Int32} (hh : ¬ hasP (wK W) t) {w : Int32} : RR 80 232 0 [some (.ref 146), some (.int t), some (.int w)] [] g A (fun r__ g' A' => r__ = some (.int (-2)) ∧ WR (n + 1) g' A' (refW W (-2) 2)) := by
  refine rr_nx (pc' := 1) (al' := [some (.ref 146), some (.int t), some (.int w)]) (st' := [.ref 146]) d_232_0 (fun _ => rfl) ?_
  refine rr_nx (pc' := 2) (al' := [some (.ref 146), some (.int t), some (.int w)]) (st' := [.int t, .ref 146]) d_232_1 (fun _ => rfl) ?_
  refine rr_pv (as := [.int t]) (al0 := [some (.ref 146), some (.int t)]) (r := []) d_232_2 mo_232 ml_124 mz_184 rfl rfl rfl (Nat.le_of_ble_eq_true rfl) (s_isTable t) ?_
  show RR _ _ 5 [some (.ref 146), some (.int t), some (.int w)] [.int (bI (isT A t))] g A _
  refine rr_bne (t := 15) d_232_5 (by decide) (fun c5 => ?_) (fun c5 => ?_)
  · exact absurd c5 (fun e_ => hh ((has_r hW hO).mp e_))
  · refine rr_nx (pc' := 9) (al' := [some (.ref 146), some (.int t), some (.int w)]) (st' := [.ref 146]) d_232_8 (fun _ => rfl) ?_
    refine rr_nx (pc' := 11) (al' := [some (.ref 146), some (.int t), some (.int w)]) (st' := [.int (-2), .ref 146]) d_232_9 (fun _ => rfl) ?_
    have hW1 := hW.q (g' := g) (A' := A) Gsm.rf Ksm.rf
    refine rr_pv (as := [.int (-2)]) (al0 := [some (.ref 146), some (.int (-2))]) (r := []) d_232_11 mo_232 ml_110 mz_180 rfl rfl rfl (Nat.le_of_ble_eq_true rfl) (s_refuses (e := 2) (by decide) (by decide)) ?_
    show RR _ _ 14 [some (.ref 146), some (.int t), some (.int w)] [.int (-2)] (upd g 0 (-2)) (rf_u A 0 (upd (A 0) 2 (A 0 2 + nI 1))) _
    exact rr_ri d_232_14 mr_232 rfl ⟨rfl, (hW1.rf (by decide)).mo⟩
theorem p_rename_b {S : CS} {G : Nat → Nat → Value} {B : Nat → Nat → Int32} {J : Nat → Nat → Int64} {R : Nat → Nat → Option Nat} {n : Nat} {W : WS} (hW : WC n S G B R W) {j m : Nat} {c : Nat → Nat} (hj : j < 6) (htb : tbK (wK W) j = (m, c)) (h1 : 1 ≤ m) {w : Int32} (hw : ¬ inP w (FA m)) : CR 80 129 0 [some (.ref 2), some (.int (nI j)), some (.int w), none] [] S G B J R (fun r__ S' G' B' J' R' => r__ = some (.int (-1)) ∧ WC (n + 1) S' G' B' R' (refW W (-1) 1)) := by
  have hS := hW.1.1
  have hF := hW.2.1
  have hO := hW.2.2.2.1
  obtain ⟨ta, ka, la, hH, hLk, hl2, hs3, hbd⟩ := hW.2.2.1
  obtain ⟨zt, hzt, ezt⟩ := (hH.2.1 j hj).2
  have ht := hH.ta hj
  have hsh := hH.2.2.2.2.2.2.1 j hj
  rw [show kH (wK W) (kD (wK W)) j = (m, c) from htb] at hsh
  have hok := tb_ok hO hj
  rw [htb] at hok
  have hn : G (ta j) 0 = .int (nI m) := hsh.1
  have hc : TabC B (ta j) m c := hsh.c hok
  have hl : Lat m c := hok.2
  have hm6 : m ≤ 6 := hok.1
  have hyes : hasP (wK W) (nI j) := (has_i hj).mpr (by rw [htb]; exact h1)
  have hfa := FA_720 hm6
  have hf0 := FA_pos m
  refine cr_nx (pc' := 1) (al' := [some (.ref 2), some (.int (nI j)), some (.int w), none]) (st' := [.ref 2]) d_129_0 (fun _ => rfl) ?_
  refine cr_nx (pc' := 2) (al' := [some (.ref 2), some (.int (nI j)), some (.int w), none]) (st' := [.int (nI j), .ref 2]) d_129_1 (fun _ => rfl) ?_
  refine cr_pv (b := 2) (as := [.int (nI j)]) (al0 := [some (.ref 2), some (.int (nI j))]) (r := []) d_129_2 cw_129 cm_11_137 cz_126 rfl rfl (hS.i (a := 2) (by decide) (by decide)) (by rw [cw_126]; exact (hS.s (a := 2) (by decide) (by decide) rfl)) (by rw [cw_126]; decide) rfl (Nat.le_of_ble_eq_true rfl) (k_has hS hF hH hO) ?_
  show CR _ _ 5 [some (.ref 2), some (.int (nI j)), some (.int w), none] [.int (bI (hasP (wK W) (nI j)))] S G B J R _
  refine cr_bne (t := 15) d_129_5 (by decide) (fun c5 => ?_) (fun c5 => ?_)
  · refine cr_nx (pc' := 16) (al' := [some (.ref 2), some (.int (nI j)), some (.int w), none]) (st' := [.ref 2]) d_129_15 (fun _ => rfl) ?_
    refine cr_gf (v := .ref 3) d_129_16 cw_129 cf_11_10 (hS.i (a := 2) (by decide) (by decide)) (hS.s (a := 2) (by decide) (by decide) rfl) (by decide) (fx_2_0 hF) ?_
    refine cr_gf (v := .ref 4) d_129_19 cw_129 cf_11_140 (hS.i (a := 3) (by decide) (by decide)) (hS.s (a := 3) (by decide) (by decide) rfl) (by decide) (fx_3_0 hF) ?_
    refine cr_nx (pc' := 23) (al' := [some (.ref 2), some (.int (nI j)), some (.int w), none]) (st' := [.int (nI j), .ref 4]) d_129_22 (fun _ => rfl) ?_
    refine cr_aa (a := 4) (v := .ref (ta j)) d_129_23 (hS.i (a := 4) (by decide) (by decide)) (by decide) (hS.s (a := 4) (by decide) (by decide) rfl) (by decide) (show j < 6 by first | omega | assumption | exact cu_36 (by omega) (cu_lt (by omega) (by omega))) (show va_rf _ = _ by rw [(hH.2.1 j hj).1]; rfl) ?_
    refine cr_nx (pc' := 25) (al' := [some (.ref 2), some (.int (nI j)), some (.int w), some (.ref (ta j))]) (st' := []) d_129_24 (fun _ => rfl) ?_
    refine cr_nx (pc' := 26) (al' := [some (.ref 2), some (.int (nI j)), some (.int w), some (.ref (ta j))]) (st' := [.int w]) d_129_25 (fun _ => rfl) ?_
    refine cr_ilt (t := 41) d_129_26 (by decide) (fun c26 => ?_) (fun c26 => ?_)
    · refine cr_nx (pc' := 42) (al' := [some (.ref 2), some (.int (nI j)), some (.int w), some (.ref (ta j))]) (st' := [.ref 2]) d_129_41 (fun _ => rfl) ?_
      refine cr_nx (pc' := 43) (al' := [some (.ref 2), some (.int (nI j)), some (.int w), some (.ref (ta j))]) (st' := [.int (-1), .ref 2]) d_129_42 (fun _ => rfl) ?_
      refine cr_pv (b := 2) (as := [.int (-1)]) (al0 := [some (.ref 2), some (.int (-1))]) (r := []) d_129_43 cw_129 cm_11_104 cz_119 rfl rfl (hS.i (a := 2) (by decide) (by decide)) (by rw [cw_119]; exact (hS.s (a := 2) (by decide) (by decide) rfl)) (by rw [cw_119]; decide) rfl (Nat.le_of_ble_eq_true rfl) (k_refuse (e := 1) hS hF (by decide) (by decide)) ?_
      show CR _ _ 46 [some (.ref 2), some (.int (nI j)), some (.int w), some (.ref (ta j))] [.int (-1)] S (up2 G 2 16 (.int (-1))) (upr B 145 (upd (B 145) 1 (B 145 1 + nI 1))) J R _
      exact cr_ri d_129_46 cx_129 rfl ⟨rfl, (hW.rf (by decide)).mo⟩
    · refine cr_nx (pc' := 30) (al' := [some (.ref 2), some (.int (nI j)), some (.int w), some (.ref (ta j))]) (st' := [.int w]) d_129_29 (fun _ => rfl) ?_
      refine cr_gs d_129_30 cw_129 cq_11_162 ?_
      refine cr_nx (pc' := 34) (al' := [some (.ref 2), some (.int (nI j)), some (.int w), some (.ref (ta j))]) (st' := [.ref (ta j), .ref 0, .int w]) d_129_33 (fun _ => rfl) ?_
      refine cr_gf (v := .int (nI m)) d_129_34 cw_129 cf_11_112 ht.1 ht.2.2.1 (by decide) hn ?_
      refine cr_fa (v := (nI (FA m))) d_129_37 (show m < 7 by first | omega | assumption | exact cu_36 (by omega) (cu_lt (by omega) (by omega))) (am_fcN (by first | omega | assumption | exact cu_36 (by omega) (cu_lt (by omega) (by omega)))) ?_
      refine cr_clt (t := 47) d_129_38 (by decide) (fun c38 => ?_) (fun c38 => ?_)
      · exact absurd (show inP w (FA m) from ⟨by rw [i_lt0] at c26; omega, by rw [i_ltN (by omega)] at c38; exact c38⟩) hw
      · refine cr_nx (pc' := 42) (al' := [some (.ref 2), some (.int (nI j)), some (.int w), some (.ref (ta j))]) (st' := [.ref 2]) d_129_41 (fun _ => rfl) ?_
        refine cr_nx (pc' := 43) (al' := [some (.ref 2), some (.int (nI j)), some (.int w), some (.ref (ta j))]) (st' := [.int (-1), .ref 2]) d_129_42 (fun _ => rfl) ?_
        refine cr_pv (b := 2) (as := [.int (-1)]) (al0 := [some (.ref 2), some (.int (-1))]) (r := []) d_129_43 cw_129 cm_11_104 cz_119 rfl rfl (hS.i (a := 2) (by decide) (by decide)) (by rw [cw_119]; exact (hS.s (a := 2) (by decide) (by decide) rfl)) (by rw [cw_119]; decide) rfl (Nat.le_of_ble_eq_true rfl) (k_refuse (e := 1) hS hF (by decide) (by decide)) ?_
        show CR _ _ 46 [some (.ref 2), some (.int (nI j)), some (.int w), some (.ref (ta j))] [.int (-1)] S (up2 G 2 16 (.int (-1))) (upr B 145 (upd (B 145) 1 (B 145 1 + nI 1))) J R _
        exact cr_ri d_129_46 cx_129 rfl ⟨rfl, (hW.rf (by decide)).mo⟩
  · exact absurd hyes c5
theorem r_rename_b {g : Nat → Int32} {A : Nat → Nat → Int32} {n : Nat} {W : WS} (hW : WR n g A W) (hO : CoOk (wK W)) {j m : Nat} {c : Nat → Nat} (hj : j < 6) (htb : tbK (wK W) j = (m, c)) (h1 : 1 ≤ m) {w : Int32} (hw : ¬ inP w (FA m)) : RR 80 232 0 [some (.ref 146), some (.int (nI j)), some (.int w)] [] g A (fun r__ g' A' => r__ = some (.int (-1)) ∧ WR (n + 1) g' A' (refW W (-1) 1)) := by
  have hsh := hW.1.1.1 j hj
  rw [show kH (wK W) (kD (wK W)) j = (m, c) from htb] at hsh
  have hok := tb_ok hO hj
  rw [htb] at hok
  have hk : A 1 (37 * j) = nI m := hsh.1
  have hl : Lat m c := hok.2
  have hm6 : m ≤ 6 := hok.1
  have hyes : isT A (nI j) := (has_r hW hO).mpr ((has_i hj).mpr (by rw [htb]; exact h1))
  have hfa := FA_720 hm6
  have hf0 := FA_pos m
  refine rr_nx (pc' := 1) (al' := [some (.ref 146), some (.int (nI j)), some (.int w)]) (st' := [.ref 146]) d_232_0 (fun _ => rfl) ?_
  refine rr_nx (pc' := 2) (al' := [some (.ref 146), some (.int (nI j)), some (.int w)]) (st' := [.int (nI j), .ref 146]) d_232_1 (fun _ => rfl) ?_
  refine rr_pv (as := [.int (nI j)]) (al0 := [some (.ref 146), some (.int (nI j))]) (r := []) d_232_2 mo_232 ml_124 mz_184 rfl rfl rfl (Nat.le_of_ble_eq_true rfl) (s_isTable (nI j)) ?_
  show RR _ _ 5 [some (.ref 146), some (.int (nI j)), some (.int w)] [.int (bI (isT A (nI j)))] g A _
  refine rr_bne (t := 15) d_232_5 (by decide) (fun c5 => ?_) (fun c5 => ?_)
  · refine rr_nx (pc' := 16) (al' := [some (.ref 146), some (.int (nI j)), some (.int w)]) (st' := [.ref 146]) d_232_15 (fun _ => rfl) ?_
    refine rr_nx (pc' := 17) (al' := [some (.ref 146), some (.int (nI j)), some (.int w)]) (st' := [.int (nI j), .ref 146]) d_232_16 (fun _ => rfl) ?_
    refine rr_pv (as := [.int (nI j)]) (al0 := [some (.ref 146), some (.int (nI j)), none]) (r := []) d_232_17 mo_232 ml_248 mz_208 rfl rfl rfl (Nat.le_of_ble_eq_true rfl) (s_lays (n := m) hj hm6 hk) ?_
    obtain ⟨wl17, hwl17⟩ : ∃ w_, w_ = rf_f (fun q => A 1 (37 * j + 1 + q)) (A 4) (m * m) := ⟨_, rfl⟩
    rw [← hwl17]
    show RR _ _ 20 [some (.ref 146), some (.int (nI j)), some (.int w)] [] (upd g 6 (nI m)) (rf_u A 4 wl17) _
    have hcu := cur_l (g := g) hsh hm6 hl hwl17
    refine rr_nx (pc' := 21) (al' := [some (.ref 146), some (.int (nI j)), some (.int w)]) (st' := [.int w]) d_232_20 (fun _ => rfl) ?_
    refine rn_ic (v := 0) d_232_21 (by decide) ?_
    refine rr_nx (pc' := 23) (al' := [some (.ref 146), some (.int (nI j)), some (.int w)]) (st' := [.ref 146, .int (nI 0), .int w]) d_232_22 (fun _ => rfl) ?_
    refine rr_gf (v := .int (nI m)) d_232_23 mo_232 fl_127 rfl ?_
    refine rr_ps (as := [.int (nI m)]) (al0 := [some (.int (nI m)), none, none]) (r := [.int (nI 0), .int w]) d_232_26 mo_232 ml_270 mz_233 rfl rfl rfl (Nat.le_of_ble_eq_true rfl) (s_factorial (by omega)) ?_
    show RR _ _ 29 [some (.ref 146), some (.int (nI j)), some (.int w)] [.int (nI (FA m)), .int (nI 0), .int w] (upd g 6 (nI m)) (rf_u A 4 wl17) _
    refine rn_ic (v := 1) d_232_29 (by decide) ?_
    refine rn_sub d_232_30 (by first | omega | assumption | exact cu_36 (by omega) (cu_lt (by omega) (by omega))) ?_
    refine rr_ps (as := [.int w, .int (nI 0), .int (nI ((FA m) - 1))]) (al0 := [some (.int w), some (.int (nI 0)), some (.int (nI ((FA m) - 1)))]) (r := []) d_232_31 mo_232 ml_106 mz_179 rfl rfl rfl (Nat.le_of_ble_eq_true rfl) (s_lies w (nI 0) (nI ((FA m) - 1))) ?_
    show RR _ _ 34 [some (.ref 146), some (.int (nI j)), some (.int w)] [.int (bI ((nI 0) ≤ w ∧ w ≤ (nI ((FA m) - 1))))] (upd g 6 (nI m)) (rf_u A 4 wl17) _
    refine rr_bne (t := 43) d_232_34 (by decide) (fun c34 => ?_) (fun c34 => ?_)
    · exact absurd c34 (fun e_ => hw ((el_r hf0 (by omega)).mp e_))
    · refine rr_nx (pc' := 38) (al' := [some (.ref 146), some (.int (nI j)), some (.int w)]) (st' := [.ref 146]) d_232_37 (fun _ => rfl) ?_
      refine rr_nx (pc' := 39) (al' := [some (.ref 146), some (.int (nI j)), some (.int w)]) (st' := [.int (-1), .ref 146]) d_232_38 (fun _ => rfl) ?_
      have hW1 := hW.q (g' := (upd g 6 (nI m))) (A' := (rf_u A 4 wl17)) (Gsm.rf.u rfl) (Ksm.rf.u rfl)
      refine rr_pv (as := [.int (-1)]) (al0 := [some (.ref 146), some (.int (-1))]) (r := []) d_232_39 mo_232 ml_110 mz_180 rfl rfl rfl (Nat.le_of_ble_eq_true rfl) (s_refuses (e := 1) (by decide) (by decide)) ?_
      show RR _ _ 42 [some (.ref 146), some (.int (nI j)), some (.int w)] [.int (-1)] (upd (upd g 6 (nI m)) 0 (-1)) (rf_u (rf_u A 4 wl17) 0 (upd ((rf_u A 4 wl17) 0) 1 ((rf_u A 4 wl17) 0 1 + nI 1))) _
      exact rr_ri d_232_42 mr_232 rfl ⟨rfl, (hW1.rf (by decide)).mo⟩
  · exact absurd hyes c5
theorem T_rename {S : CS} {G : Nat → Nat → Value} {B : Nat → Nat → Int32} {J : Nat → Nat → Int64} {R : Nat → Nat → Option Nat} {g : Nat → Int32} {A : Nat → Nat → Int32} {n : Nat} {W : WS} (hC : WC n S G B R W) (hR : WR n g A W) (hn : n ≤ 10000) {t : Int32} {w : Int32} : Tie n 129 232 [some (.ref 2), some (.int t), some (.int w), none] [some (.ref 146), some (.int t), some (.int w)] S G B J R g A W := by
  have hO := hC.2.2.2.1
  by_cases hh : hasP (wK W) t
  · obtain ⟨j, hj, e_, h1⟩ := has_n hh
    subst e_
    obtain ⟨⟨m, c⟩, htb⟩ : ∃ tb, tbK (wK W) j = tb := ⟨_, rfl⟩
    rw [htb] at h1
    by_cases hw : inP w (FA m)
    · obtain ⟨r, hr, e_⟩ := in_n hw
      subst e_
      exact ⟨_, _, p_rename_y hC hj htb h1 hr, r_rename_y hR hO hj htb h1 hr hn⟩
    · exact ⟨_, _, p_rename_b hC hj htb h1 hw, r_rename_b hR hO hj htb h1 hw⟩
  · exact ⟨_, _, p_rename_n hC hh, r_rename_n hR hO hh⟩
theorem p_product_y {S : CS} {G : Nat → Nat → Value} {B : Nat → Nat → Int32} {J : Nat → Nat → Int64} {R : Nat → Nat → Option Nat} {n : Nat} {W : WS} (hW : WC n S G B R W) {k : Nat} (hk6 : k < 6) {j m : Nat} {c : Nat → Nat} (hj : j < 6) (htb : tbK (wK W) j = (m, c)) (h1 : 1 ≤ m) {j2 m2 : Nat} {c2 : Nat → Nat} (hj2 : j2 < 6) (htb2 : tbK (wK W) j2 = (m2, c2)) (h12 : 1 ≤ m2) (hpm : m * m2 ≤ 6) : CR 80 132 0 [some (.ref 2), some (.int (nI k)), some (.int (nI j)), some (.int (nI j2))] [] S G B J R (fun r__ S' G' B' J' R' => r__ = some (.int (nI (m * m2))) ∧ WC (n + 1) S' G' B' R' (chW W k (m * m2, prN m m2 c c2))) := by
  have hS := hW.1.1
  have hF := hW.2.1
  have hO := hW.2.2.2.1
  obtain ⟨ta, ka, la, hH, hLk, hl2, hs3, hbd⟩ := hW.2.2.1
  obtain ⟨zt, hzt, ezt⟩ := (hH.2.1 j hj).2
  have ht := hH.ta hj
  have hsh := hH.2.2.2.2.2.2.1 j hj
  rw [show kH (wK W) (kD (wK W)) j = (m, c) from htb] at hsh
  have hok := tb_ok hO hj
  rw [htb] at hok
  have hn : G (ta j) 0 = .int (nI m) := hsh.1
  have hc : TabC B (ta j) m c := hsh.c hok
  have hl : Lat m c := hok.2
  have hm6 : m ≤ 6 := hok.1
  have hyes : hasP (wK W) (nI j) := (has_i hj).mpr (by rw [htb]; exact h1)
  obtain ⟨zt2, hzt2, ezt2⟩ := (hH.2.1 j2 hj2).2
  have ht2 := hH.ta hj2
  have hsh2 := hH.2.2.2.2.2.2.1 j2 hj2
  rw [show kH (wK W) (kD (wK W)) j2 = (m2, c2) from htb2] at hsh2
  have hok2 := tb_ok hO hj2
  rw [htb2] at hok2
  have hn2 : G (ta j2) 0 = .int (nI m2) := hsh2.1
  have hc2 : TabC B (ta j2) m2 c2 := hsh2.c hok2
  have hl2 : Lat m2 c2 := hok2.2
  have hm62 : m2 ≤ 6 := hok2.1
  have hyes2 : hasP (wK W) (nI j2) := (has_i hj2).mpr (by rw [htb2]; exact h12)
  refine cr_nx (pc' := 1) (al' := [some (.ref 2), some (.int (nI k)), some (.int (nI j)), some (.int (nI j2))]) (st' := [.int (nI k)]) d_132_0 (fun _ => rfl) ?_
  refine cr_ps (as := [.int (nI k)]) (al0 := [some (.int (nI k))]) (r := []) d_132_1 cw_132 cm_11_100 (by decide) cz_118 rfl rfl rfl (Nat.le_of_ble_eq_true rfl) (k_isPlace) ?_
  show CR _ _ 4 [some (.ref 2), some (.int (nI k)), some (.int (nI j)), some (.int (nI j2))] [.int (bI (inP (nI k) 6))] S G B J R _
  refine cr_bne (t := 13) d_132_4 (by decide) (fun c4 => ?_) (fun c4 => ?_)
  · refine cr_nx (pc' := 14) (al' := [some (.ref 2), some (.int (nI k)), some (.int (nI j)), some (.int (nI j2))]) (st' := [.ref 2]) d_132_13 (fun _ => rfl) ?_
    refine cr_nx (pc' := 15) (al' := [some (.ref 2), some (.int (nI k)), some (.int (nI j)), some (.int (nI j2))]) (st' := [.int (nI j), .ref 2]) d_132_14 (fun _ => rfl) ?_
    refine cr_pv (b := 2) (as := [.int (nI j)]) (al0 := [some (.ref 2), some (.int (nI j))]) (r := []) d_132_15 cw_132 cm_11_137 cz_126 rfl rfl (hS.i (a := 2) (by decide) (by decide)) (by rw [cw_126]; exact (hS.s (a := 2) (by decide) (by decide) rfl)) (by rw [cw_126]; decide) rfl (Nat.le_of_ble_eq_true rfl) (k_has hS hF hH hO) ?_
    show CR _ _ 18 [some (.ref 2), some (.int (nI k)), some (.int (nI j)), some (.int (nI j2))] [.int (bI (hasP (wK W) (nI j)))] S G B J R _
    refine cr_beq (t := 29) d_132_18 (by decide) (fun c18 => ?_) (fun c18 => ?_)
    · exact absurd hyes c18
    · refine cr_nx (pc' := 22) (al' := [some (.ref 2), some (.int (nI k)), some (.int (nI j)), some (.int (nI j2))]) (st' := [.ref 2]) d_132_21 (fun _ => rfl) ?_
      refine cr_nx (pc' := 23) (al' := [some (.ref 2), some (.int (nI k)), some (.int (nI j)), some (.int (nI j2))]) (st' := [.int (nI j2), .ref 2]) d_132_22 (fun _ => rfl) ?_
      refine cr_pv (b := 2) (as := [.int (nI j2)]) (al0 := [some (.ref 2), some (.int (nI j2))]) (r := []) d_132_23 cw_132 cm_11_137 cz_126 rfl rfl (hS.i (a := 2) (by decide) (by decide)) (by rw [cw_126]; exact (hS.s (a := 2) (by decide) (by decide) rfl)) (by rw [cw_126]; decide) rfl (Nat.le_of_ble_eq_true rfl) (k_has hS hF hH hO) ?_
      show CR _ _ 26 [some (.ref 2), some (.int (nI k)), some (.int (nI j)), some (.int (nI j2))] [.int (bI (hasP (wK W) (nI j2)))] S G B J R _
      refine cr_bne (t := 36) d_132_26 (by decide) (fun c26 => ?_) (fun c26 => ?_)
      · refine cr_nx (pc' := 37) (al' := [some (.ref 2), some (.int (nI k)), some (.int (nI j)), some (.int (nI j2))]) (st' := [.ref 2]) d_132_36 (fun _ => rfl) ?_
        refine cr_gf (v := .ref 3) d_132_37 cw_132 cf_11_10 (hS.i (a := 2) (by decide) (by decide)) (hS.s (a := 2) (by decide) (by decide) rfl) (by decide) (fx_2_0 hF) ?_
        refine cr_gf (v := .ref 4) d_132_40 cw_132 cf_11_140 (hS.i (a := 3) (by decide) (by decide)) (hS.s (a := 3) (by decide) (by decide) rfl) (by decide) (fx_3_0 hF) ?_
        refine cr_nx (pc' := 44) (al' := [some (.ref 2), some (.int (nI k)), some (.int (nI j)), some (.int (nI j2))]) (st' := [.int (nI j), .ref 4]) d_132_43 (fun _ => rfl) ?_
        refine cr_aa (a := 4) (v := .ref (ta j)) d_132_44 (hS.i (a := 4) (by decide) (by decide)) (by decide) (hS.s (a := 4) (by decide) (by decide) rfl) (by decide) (show j < 6 by first | omega | assumption | exact cu_36 (by omega) (cu_lt (by omega) (by omega))) (show va_rf _ = _ by rw [(hH.2.1 j hj).1]; rfl) ?_
        refine cr_gf (v := .int (nI m)) d_132_45 cw_132 cf_11_112 ht.1 ht.2.2.1 (by decide) hn ?_
        refine cr_nx (pc' := 49) (al' := [some (.ref 2), some (.int (nI k)), some (.int (nI j)), some (.int (nI j2))]) (st' := [.ref 2, .int (nI m)]) d_132_48 (fun _ => rfl) ?_
        refine cr_gf (v := .ref 3) d_132_49 cw_132 cf_11_10 (hS.i (a := 2) (by decide) (by decide)) (hS.s (a := 2) (by decide) (by decide) rfl) (by decide) (fx_2_0 hF) ?_
        refine cr_gf (v := .ref 4) d_132_52 cw_132 cf_11_140 (hS.i (a := 3) (by decide) (by decide)) (hS.s (a := 3) (by decide) (by decide) rfl) (by decide) (fx_3_0 hF) ?_
        refine cr_nx (pc' := 56) (al' := [some (.ref 2), some (.int (nI k)), some (.int (nI j)), some (.int (nI j2))]) (st' := [.int (nI j2), .ref 4, .int (nI m)]) d_132_55 (fun _ => rfl) ?_
        refine cr_aa (a := 4) (v := .ref (ta j2)) d_132_56 (hS.i (a := 4) (by decide) (by decide)) (by decide) (hS.s (a := 4) (by decide) (by decide) rfl) (by decide) (show j2 < 6 by first | omega | assumption | exact cu_36 (by omega) (cu_lt (by omega) (by omega))) (show va_rf _ = _ by rw [(hH.2.1 j2 hj2).1]; rfl) ?_
        refine cr_gf (v := .int (nI m2)) d_132_57 cw_132 cf_11_112 ht2.1 ht2.2.2.1 (by decide) hn2 ?_
        refine cn_mul d_132_60  ?_
        refine cn_bp (v := 6) d_132_61 (by decide) ?_
        refine cn_cle (t := 73) d_132_63 (by decide) (by first | omega | assumption | exact cu_36 (by omega) (cu_lt (by omega) (by omega))) (by first | omega | assumption | exact cu_36 (by omega) (cu_lt (by omega) (by omega))) (fun c63 => ?_) (fun c63 => ?_)
        · refine cr_nx (pc' := 74) (al' := [some (.ref 2), some (.int (nI k)), some (.int (nI j)), some (.int (nI j2))]) (st' := [.ref 2]) d_132_73 (fun _ => rfl) ?_
          refine cr_gf (v := .ref 86) d_132_74 cw_132 cf_11_38 (hS.i (a := 2) (by decide) (by decide)) (hS.s (a := 2) (by decide) (by decide) rfl) (by decide) (fx_2_6 hF) ?_
          refine cr_nx (pc' := 78) (al' := [some (.ref 2), some (.int (nI k)), some (.int (nI j)), some (.int (nI j2))]) (st' := [.ref 2, .ref 86]) d_132_77 (fun _ => rfl) ?_
          refine cr_gf (v := .ref 3) d_132_78 cw_132 cf_11_10 (hS.i (a := 2) (by decide) (by decide)) (hS.s (a := 2) (by decide) (by decide) rfl) (by decide) (fx_2_0 hF) ?_
          refine cr_gf (v := .ref 4) d_132_81 cw_132 cf_11_140 (hS.i (a := 3) (by decide) (by decide)) (hS.s (a := 3) (by decide) (by decide) rfl) (by decide) (fx_3_0 hF) ?_
          refine cr_nx (pc' := 85) (al' := [some (.ref 2), some (.int (nI k)), some (.int (nI j)), some (.int (nI j2))]) (st' := [.int (nI j), .ref 4, .ref 86]) d_132_84 (fun _ => rfl) ?_
          refine cr_aa (a := 4) (v := .ref (ta j)) d_132_85 (hS.i (a := 4) (by decide) (by decide)) (by decide) (hS.s (a := 4) (by decide) (by decide) rfl) (by decide) (show j < 6 by first | omega | assumption | exact cu_36 (by omega) (cu_lt (by omega) (by omega))) (show va_rf _ = _ by rw [(hH.2.1 j hj).1]; rfl) ?_
          refine cr_nx (pc' := 87) (al' := [some (.ref 2), some (.int (nI k)), some (.int (nI j)), some (.int (nI j2))]) (st' := [.ref 2, .ref (ta j), .ref 86]) d_132_86 (fun _ => rfl) ?_
          refine cr_gf (v := .ref 3) d_132_87 cw_132 cf_11_10 (hS.i (a := 2) (by decide) (by decide)) (hS.s (a := 2) (by decide) (by decide) rfl) (by decide) (fx_2_0 hF) ?_
          refine cr_gf (v := .ref 4) d_132_90 cw_132 cf_11_140 (hS.i (a := 3) (by decide) (by decide)) (hS.s (a := 3) (by decide) (by decide) rfl) (by decide) (fx_3_0 hF) ?_
          refine cr_nx (pc' := 94) (al' := [some (.ref 2), some (.int (nI k)), some (.int (nI j)), some (.int (nI j2))]) (st' := [.int (nI j2), .ref 4, .ref (ta j), .ref 86]) d_132_93 (fun _ => rfl) ?_
          refine cr_aa (a := 4) (v := .ref (ta j2)) d_132_94 (hS.i (a := 4) (by decide) (by decide)) (by decide) (hS.s (a := 4) (by decide) (by decide) rfl) (by decide) (show j2 < 6 by first | omega | assumption | exact cu_36 (by omega) (cu_lt (by omega) (by omega))) (show va_rf _ = _ by rw [(hH.2.1 j2 hj2).1]; rfl) ?_
          refine cr_cv (b := 86) (as := [.ref (ta j), .ref (ta j2)]) (al0 := [some (.ref 86), some (.ref (ta j)), some (.ref (ta j2)), none, none, none, none, none]) (r := []) d_132_95 cw_132 cm_11_186 cz_104 rfl rfl (hS.i (a := 86) (by decide) (by decide)) (by rw [cw_104]; exact (hS.s (a := 86) (by decide) (by decide) rfl)) (by rw [cw_104]; decide) rfl (cr_wk (Nat.le_of_ble_eq_true rfl) (k_makeProduct ht hn hc ht2 hn2 hc2 (tb_86 hS hF) (by omega) (by omega) hpm)) (fun v1 S1 G1 B1 J1 R1 h1x => ?_)
          obtain ⟨q0_, q1_, q2_, q3_, q4_, w86, q9_, hw86⟩ := h1x
          obtain rfl := q0_
          obtain rfl := q1_.symm
          obtain rfl := q2_
          obtain rfl := q3_.symm
          obtain rfl := q4_.symm
          obtain rfl := q9_
          show CR _ _ 98 [some (.ref 2), some (.int (nI k)), some (.int (nI j)), some (.int (nI j2))] [] S (up2 G 86 0 (.int (nI (m * m2)))) (upr B 87 w86) J R _
          refine cr_nx (pc' := 99) (al' := [some (.ref 2), some (.int (nI k)), some (.int (nI j)), some (.int (nI j2))]) (st' := [.ref 2]) d_132_98 (fun _ => rfl) ?_
          refine cr_nx (pc' := 100) (al' := [some (.ref 2), some (.int (nI k)), some (.int (nI j)), some (.int (nI j2))]) (st' := [.int (nI k), .ref 2]) d_132_99 (fun _ => rfl) ?_
          refine cr_nx (pc' := 101) (al' := [some (.ref 2), some (.int (nI k)), some (.int (nI j)), some (.int (nI j2))]) (st' := [.ref 2, .int (nI k), .ref 2]) d_132_100 (fun _ => rfl) ?_
          refine cr_gf (v := .ref 86) d_132_101 cw_132 cf_11_38 (hS.i (a := 2) (by decide) (by decide)) (hS.s (a := 2) (by decide) (by decide) rfl) (by decide) (by simp [up2]; exact (fx_2_6 hF)) ?_
          refine cr_gf (v := .int (nI (m * m2))) d_132_104 cw_132 cf_11_112 (hS.i (a := 86) (by decide) (by decide)) (hS.s (a := 86) (by decide) (by decide) rfl) (by decide) (by simp [up2]) ?_
          have hW1 : WC n S (up2 G 86 0 (.int (nI (m * m2)))) (upr B 87 w86) R W := hW.q (FxG.ut hF) (Gfr.rf.u (by decide)) (Bfr.rf.u (by decide))
          refine cr_cv (b := 2) (as := [.int (nI k), .int (nI (m * m2))]) (al0 := [some (.ref 2), some (.int (nI k)), some (.int (nI (m * m2)))]) (r := []) d_132_107 cw_132 cm_11_115 cz_122 rfl rfl (hS.i (a := 2) (by decide) (by decide)) (by rw [cw_122]; exact (hS.s (a := 2) (by decide) (by decide) rfl)) (by rw [cw_122]; decide) rfl (cr_wk (Nat.le_of_ble_eq_true rfl) (k_change (tb := (m * m2, prN m m2 c c2)) hW1 hk6 ⟨hpm, pr_lat hl hl2⟩ up2_s (fun q hq => by rw [upr_s]; exact hw86 q hq))) (fun v1 S1 G1 B1 J1 R1 h1x => ?_)
          obtain ⟨q0_, hW2⟩ := h1x
          obtain rfl := q0_
          show CR _ _ 110 [some (.ref 2), some (.int (nI k)), some (.int (nI j)), some (.int (nI j2))] [.int (nI (m * m2))] S1 G1 B1 J1 R1 _
          exact cr_ri d_132_110 cx_132 rfl ⟨rfl, hW2.mo⟩
        · omega
      · exact absurd hyes2 c26
  · exact absurd ((in_j (by omega)).mpr hk6) c4
theorem r_product_y {g : Nat → Int32} {A : Nat → Nat → Int32} {n : Nat} {W : WS} (hW : WR n g A W) (hO : CoOk (wK W)) {k : Nat} (hk6 : k < 6) {j m : Nat} {c : Nat → Nat} (hj : j < 6) (htb : tbK (wK W) j = (m, c)) (h1 : 1 ≤ m) {j2 m2 : Nat} {c2 : Nat → Nat} (hj2 : j2 < 6) (htb2 : tbK (wK W) j2 = (m2, c2)) (h12 : 1 ≤ m2) (hpm : m * m2 ≤ 6) (hn5 : n ≤ 10000) : RR 80 238 0 [some (.ref 146), some (.int (nI k)), some (.int (nI j)), some (.int (nI j2)), none, none, none, none] [] g A (fun r__ g' A' => r__ = some (.int (nI (m * m2))) ∧ WR (n + 1) g' A' (chW W k (m * m2, prN m m2 c c2))) := by
  have hsh := hW.1.1.1 j hj
  rw [show kH (wK W) (kD (wK W)) j = (m, c) from htb] at hsh
  have hok := tb_ok hO hj
  rw [htb] at hok
  have hk : A 1 (37 * j) = nI m := hsh.1
  have hl : Lat m c := hok.2
  have hm6 : m ≤ 6 := hok.1
  have hyes : isT A (nI j) := (has_r hW hO).mpr ((has_i hj).mpr (by rw [htb]; exact h1))
  have hsh2 := hW.1.1.1 j2 hj2
  rw [show kH (wK W) (kD (wK W)) j2 = (m2, c2) from htb2] at hsh2
  have hok2 := tb_ok hO hj2
  rw [htb2] at hok2
  have hk2 : A 1 (37 * j2) = nI m2 := hsh2.1
  have hl2 : Lat m2 c2 := hok2.2
  have hm62 : m2 ≤ 6 := hok2.1
  have hyes2 : isT A (nI j2) := (has_r hW hO).mpr ((has_i hj2).mpr (by rw [htb2]; exact h12))
  refine rr_nx (pc' := 1) (al' := [some (.ref 146), some (.int (nI k)), some (.int (nI j)), some (.int (nI j2)), none, none, none, none]) (st' := [.int (nI k)]) d_238_0 (fun _ => rfl) ?_
  refine rr_ps (as := [.int (nI k)]) (al0 := [some (.int (nI k))]) (r := []) d_238_1 mo_238 ml_117 mz_185 rfl rfl rfl (Nat.le_of_ble_eq_true rfl) (s_isSlot (nI k)) ?_
  show RR _ _ 4 [some (.ref 146), some (.int (nI k)), some (.int (nI j)), some (.int (nI j2)), none, none, none, none] [.int (bI (nI 0 ≤ (nI k) ∧ (nI k) ≤ nI 5))] g A _
  refine rr_bne (t := 13) d_238_4 (by decide) (fun c4 => ?_) (fun c4 => ?_)
  · refine rr_nx (pc' := 14) (al' := [some (.ref 146), some (.int (nI k)), some (.int (nI j)), some (.int (nI j2)), none, none, none, none]) (st' := [.ref 146]) d_238_13 (fun _ => rfl) ?_
    refine rr_nx (pc' := 15) (al' := [some (.ref 146), some (.int (nI k)), some (.int (nI j)), some (.int (nI j2)), none, none, none, none]) (st' := [.int (nI j), .ref 146]) d_238_14 (fun _ => rfl) ?_
    refine rr_pv (as := [.int (nI j)]) (al0 := [some (.ref 146), some (.int (nI j))]) (r := []) d_238_15 mo_238 ml_124 mz_184 rfl rfl rfl (Nat.le_of_ble_eq_true rfl) (s_isTable (nI j)) ?_
    show RR _ _ 18 [some (.ref 146), some (.int (nI k)), some (.int (nI j)), some (.int (nI j2)), none, none, none, none] [.int (bI (isT A (nI j)))] g A _
    refine rr_beq (t := 29) d_238_18 (by decide) (fun c18 => ?_) (fun c18 => ?_)
    · exact absurd hyes c18
    · refine rr_nx (pc' := 22) (al' := [some (.ref 146), some (.int (nI k)), some (.int (nI j)), some (.int (nI j2)), none, none, none, none]) (st' := [.ref 146]) d_238_21 (fun _ => rfl) ?_
      refine rr_nx (pc' := 23) (al' := [some (.ref 146), some (.int (nI k)), some (.int (nI j)), some (.int (nI j2)), none, none, none, none]) (st' := [.int (nI j2), .ref 146]) d_238_22 (fun _ => rfl) ?_
      refine rr_pv (as := [.int (nI j2)]) (al0 := [some (.ref 146), some (.int (nI j2))]) (r := []) d_238_23 mo_238 ml_124 mz_184 rfl rfl rfl (Nat.le_of_ble_eq_true rfl) (s_isTable (nI j2)) ?_
      show RR _ _ 26 [some (.ref 146), some (.int (nI k)), some (.int (nI j)), some (.int (nI j2)), none, none, none, none] [.int (bI (isT A (nI j2)))] g A _
      refine rr_bne (t := 36) d_238_26 (by decide) (fun c26 => ?_) (fun c26 => ?_)
      · refine rr_nx (pc' := 37) (al' := [some (.ref 146), some (.int (nI k)), some (.int (nI j)), some (.int (nI j2)), none, none, none, none]) (st' := [.ref 146]) d_238_36 (fun _ => rfl) ?_
        refine rr_nx (pc' := 38) (al' := [some (.ref 146), some (.int (nI k)), some (.int (nI j)), some (.int (nI j2)), none, none, none, none]) (st' := [.int (nI j), .ref 146]) d_238_37 (fun _ => rfl) ?_
        refine rr_pv (as := [.int (nI j)]) (al0 := [some (.ref 146), some (.int (nI j))]) (r := []) d_238_38 mo_238 ml_121 mz_186 rfl rfl rfl (Nat.le_of_ble_eq_true rfl) (s_ordN hj hk) ?_
        show RR _ _ 41 [some (.ref 146), some (.int (nI k)), some (.int (nI j)), some (.int (nI j2)), none, none, none, none] [.int (nI m)] g A _
        refine rr_nx (pc' := 43) (al' := [some (.ref 146), some (.int (nI k)), some (.int (nI j)), some (.int (nI j2)), some (.int (nI m)), none, none, none]) (st' := []) d_238_41 (fun _ => rfl) ?_
        refine rr_nx (pc' := 44) (al' := [some (.ref 146), some (.int (nI k)), some (.int (nI j)), some (.int (nI j2)), some (.int (nI m)), none, none, none]) (st' := [.ref 146]) d_238_43 (fun _ => rfl) ?_
        refine rr_nx (pc' := 45) (al' := [some (.ref 146), some (.int (nI k)), some (.int (nI j)), some (.int (nI j2)), some (.int (nI m)), none, none, none]) (st' := [.int (nI j2), .ref 146]) d_238_44 (fun _ => rfl) ?_
        refine rr_pv (as := [.int (nI j2)]) (al0 := [some (.ref 146), some (.int (nI j2))]) (r := []) d_238_45 mo_238 ml_121 mz_186 rfl rfl rfl (Nat.le_of_ble_eq_true rfl) (s_ordN hj2 hk2) ?_
        show RR _ _ 48 [some (.ref 146), some (.int (nI k)), some (.int (nI j)), some (.int (nI j2)), some (.int (nI m)), none, none, none] [.int (nI m2)] g A _
        refine rr_nx (pc' := 50) (al' := [some (.ref 146), some (.int (nI k)), some (.int (nI j)), some (.int (nI j2)), some (.int (nI m)), some (.int (nI m2)), none, none]) (st' := []) d_238_48 (fun _ => rfl) ?_
        refine rr_nx (pc' := 52) (al' := [some (.ref 146), some (.int (nI k)), some (.int (nI j)), some (.int (nI j2)), some (.int (nI m)), some (.int (nI m2)), none, none]) (st' := [.int (nI m)]) d_238_50 (fun _ => rfl) ?_
        refine rr_nx (pc' := 54) (al' := [some (.ref 146), some (.int (nI k)), some (.int (nI j)), some (.int (nI j2)), some (.int (nI m)), some (.int (nI m2)), none, none]) (st' := [.int (nI m2), .int (nI m)]) d_238_52 (fun _ => rfl) ?_
        refine rn_mul d_238_54  ?_
        refine rn_bp (v := 6) d_238_55 (by decide) ?_
        refine rn_cle (t := 67) d_238_57 (by decide) (by first | omega | assumption | exact cu_36 (by omega) (cu_lt (by omega) (by omega))) (by first | omega | assumption | exact cu_36 (by omega) (cu_lt (by omega) (by omega))) (fun c57 => ?_) (fun c57 => ?_)
        · refine rr_nx (pc' := 68) (al' := [some (.ref 146), some (.int (nI k)), some (.int (nI j)), some (.int (nI j2)), some (.int (nI m)), some (.int (nI m2)), none, none]) (st' := [.ref 146]) d_238_67 (fun _ => rfl) ?_
          refine rr_nx (pc' := 70) (al' := [some (.ref 146), some (.int (nI k)), some (.int (nI j)), some (.int (nI j2)), some (.int (nI m)), some (.int (nI m2)), none, none]) (st' := [.int (nI m), .ref 146]) d_238_68 (fun _ => rfl) ?_
          refine rr_nx (pc' := 72) (al' := [some (.ref 146), some (.int (nI k)), some (.int (nI j)), some (.int (nI j2)), some (.int (nI m)), some (.int (nI m2)), none, none]) (st' := [.int (nI m2), .int (nI m), .ref 146]) d_238_70 (fun _ => rfl) ?_
          refine rn_mul d_238_72  ?_
          refine rp_8 d_238_73 mo_238 fl_134  ?_
          refine rn_ic (v := 0) d_238_76 (by decide) ?_
          refine rr_nx (pc' := 79) (al' := [some (.ref 146), some (.int (nI k)), some (.int (nI j)), some (.int (nI j2)), some (.int (nI m)), some (.int (nI m2)), some (.int (nI 0)), none]) (st' := []) d_238_77 (fun _ => rfl) ?_
          refine rr_dr (al1 := [some (.ref 146), some (.int (nI k)), some (.int (nI j)), some (.int (nI j2)), some (.int (nI m)), some (.int (nI m2)), some (.int (nI 0)), none]) (le_s (le_s (le_s (le_s (le_s (le_s (le_s (le_s (le_n))))))))) ?_
          refine rr_wk (by decide) (s_product_79 hj hj2 h1 h12 hpm pk_us hsh.2 hsh2.2 (fun w5 hw5 => ?_))
          show RR _ _ 183 [some (.ref 146), some (.int (nI k)), some (.int (nI j)), some (.int (nI j2)), some (.int (nI m)), some (.int (nI m2)), some (.int (nI (m * m2))), none] [] (upd g 8 (nI (m * m2))) (rf_u A 5 w5) _
          refine rr_nx (pc' := 184) (al' := [some (.ref 146), some (.int (nI k)), some (.int (nI j)), some (.int (nI j2)), some (.int (nI m)), some (.int (nI m2)), some (.int (nI (m * m2))), none]) (st' := [.ref 146]) d_238_183 (fun _ => rfl) ?_
          refine rr_nx (pc' := 185) (al' := [some (.ref 146), some (.int (nI k)), some (.int (nI j)), some (.int (nI j2)), some (.int (nI m)), some (.int (nI m2)), some (.int (nI (m * m2))), none]) (st' := [.int (nI k), .ref 146]) d_238_184 (fun _ => rfl) ?_
          have hW1 := hW.q (g' := (upd g 8 (nI (m * m2)))) (A' := (rf_u A 5 w5)) (Gsm.rf.u rfl) (Ksm.rf.u rfl)
          refine rr_cv (as := [.int (nI k)]) (al0 := [some (.ref 146), some (.int (nI k)), none, none, none]) (r := []) d_238_185 mo_238 ml_257 mz_224 rfl rfl rfl (rr_wk (Nat.le_of_ble_eq_true rfl) (s_becomes (m := m * m2) (c := prN m m2 c c2) hW1.1.1 hO.1 hk6 hpm (by rfl) (fun q hq => by rw [rf_u_s]; exact hw5 q hq))) (fun v1 g1 A1 h1x => ?_)
          obtain ⟨q0_, q1_, f1, q2_, hH1, hf1⟩ := h1x
          obtain rfl := q0_
          obtain rfl := q1_
          obtain rfl := q2_
          show RR _ _ 188 [some (.ref 146), some (.int (nI k)), some (.int (nI j)), some (.int (nI j2)), some (.int (nI m)), some (.int (nI m2)), some (.int (nI (m * m2))), none] [] (upd g 8 (nI (m * m2))) (rf_u (rf_u A 5 w5) 1 f1) _
          refine rr_nx (pc' := 189) (al' := [some (.ref 146), some (.int (nI k)), some (.int (nI j)), some (.int (nI j2)), some (.int (nI m)), some (.int (nI m2)), some (.int (nI (m * m2))), none]) (st' := [.ref 146]) d_238_188 (fun _ => rfl) ?_
          refine rr_nx (pc' := 190) (al' := [some (.ref 146), some (.int (nI k)), some (.int (nI j)), some (.int (nI j2)), some (.int (nI m)), some (.int (nI m2)), some (.int (nI (m * m2))), none]) (st' := [.ref 146, .ref 146]) d_238_189 (fun _ => rfl) ?_
          refine rr_gf (v := .int (nI (m * m2))) d_238_190 mo_238 fl_134 rfl ?_
          refine rr_pv (as := [.int (nI (m * m2))]) (al0 := [some (.ref 146), some (.int (nI (m * m2)))]) (r := []) d_238_193 mo_238 ml_114 mz_181 rfl rfl rfl (Nat.le_of_ble_eq_true rfl) (s_good _) ?_
          show RR _ _ 196 [some (.ref 146), some (.int (nI k)), some (.int (nI j)), some (.int (nI j2)), some (.int (nI m)), some (.int (nI m2)), some (.int (nI (m * m2))), none] [.int (nI (m * m2))] (upd (upd (upd g 8 (nI (m * m2))) 0 (nI 0)) 1 ((upd g 8 (nI (m * m2))) 1 + nI 1)) (rf_u (rf_u A 5 w5) 1 f1) _
          exact rr_ri d_238_196 mr_238 rfl ⟨rfl, hW1.ch (by omega) hH1 hf1 rfl hO⟩
        · omega
      · exact absurd hyes2 c26
  · exact absurd ((in_r (m := 5) (by decide)).mpr ((in_j (by omega)).mpr hk6)) c4
theorem p_product_a {S : CS} {G : Nat → Nat → Value} {B : Nat → Nat → Int32} {J : Nat → Nat → Int64} {R : Nat → Nat → Option Nat} {n : Nat} {W : WS} (hW : WC n S G B R W) {t : Int32} (hp6 : ¬ inP t 6) {u v : Int32} : CR 80 132 0 [some (.ref 2), some (.int t), some (.int u), some (.int v)] [] S G B J R (fun r__ S' G' B' J' R' => r__ = some (.int (-1)) ∧ WC (n + 1) S' G' B' R' (refW W (-1) 1)) := by
  have hS := hW.1.1
  have hF := hW.2.1
  have hO := hW.2.2.2.1
  obtain ⟨ta, ka, la, hH, hLk, hl2, hs3, hbd⟩ := hW.2.2.1
  refine cr_nx (pc' := 1) (al' := [some (.ref 2), some (.int t), some (.int u), some (.int v)]) (st' := [.int t]) d_132_0 (fun _ => rfl) ?_
  refine cr_ps (as := [.int t]) (al0 := [some (.int t)]) (r := []) d_132_1 cw_132 cm_11_100 (by decide) cz_118 rfl rfl rfl (Nat.le_of_ble_eq_true rfl) (k_isPlace) ?_
  show CR _ _ 4 [some (.ref 2), some (.int t), some (.int u), some (.int v)] [.int (bI (inP t 6))] S G B J R _
  refine cr_bne (t := 13) d_132_4 (by decide) (fun c4 => ?_) (fun c4 => ?_)
  · exact absurd c4 hp6
  · refine cr_nx (pc' := 8) (al' := [some (.ref 2), some (.int t), some (.int u), some (.int v)]) (st' := [.ref 2]) d_132_7 (fun _ => rfl) ?_
    refine cr_nx (pc' := 9) (al' := [some (.ref 2), some (.int t), some (.int u), some (.int v)]) (st' := [.int (-1), .ref 2]) d_132_8 (fun _ => rfl) ?_
    refine cr_pv (b := 2) (as := [.int (-1)]) (al0 := [some (.ref 2), some (.int (-1))]) (r := []) d_132_9 cw_132 cm_11_104 cz_119 rfl rfl (hS.i (a := 2) (by decide) (by decide)) (by rw [cw_119]; exact (hS.s (a := 2) (by decide) (by decide) rfl)) (by rw [cw_119]; decide) rfl (Nat.le_of_ble_eq_true rfl) (k_refuse (e := 1) hS hF (by decide) (by decide)) ?_
    show CR _ _ 12 [some (.ref 2), some (.int t), some (.int u), some (.int v)] [.int (-1)] S (up2 G 2 16 (.int (-1))) (upr B 145 (upd (B 145) 1 (B 145 1 + nI 1))) J R _
    exact cr_ri d_132_12 cx_132 rfl ⟨rfl, (hW.rf (by decide)).mo⟩
theorem r_product_a {g : Nat → Int32} {A : Nat → Nat → Int32} {n : Nat} {W : WS} (hW : WR n g A W) (hO : CoOk (wK W)) {t : Int32} (hp6 : ¬ inP t 6) {u v : Int32} : RR 80 238 0 [some (.ref 146), some (.int t), some (.int u), some (.int v), none, none, none, none] [] g A (fun r__ g' A' => r__ = some (.int (-1)) ∧ WR (n + 1) g' A' (refW W (-1) 1)) := by
  refine rr_nx (pc' := 1) (al' := [some (.ref 146), some (.int t), some (.int u), some (.int v), none, none, none, none]) (st' := [.int t]) d_238_0 (fun _ => rfl) ?_
  refine rr_ps (as := [.int t]) (al0 := [some (.int t)]) (r := []) d_238_1 mo_238 ml_117 mz_185 rfl rfl rfl (Nat.le_of_ble_eq_true rfl) (s_isSlot t) ?_
  show RR _ _ 4 [some (.ref 146), some (.int t), some (.int u), some (.int v), none, none, none, none] [.int (bI (nI 0 ≤ t ∧ t ≤ nI 5))] g A _
  refine rr_bne (t := 13) d_238_4 (by decide) (fun c4 => ?_) (fun c4 => ?_)
  · exact absurd c4 (fun e_ => hp6 ((in_r (m := 5) (by decide)).mp e_))
  · refine rr_nx (pc' := 8) (al' := [some (.ref 146), some (.int t), some (.int u), some (.int v), none, none, none, none]) (st' := [.ref 146]) d_238_7 (fun _ => rfl) ?_
    refine rr_nx (pc' := 9) (al' := [some (.ref 146), some (.int t), some (.int u), some (.int v), none, none, none, none]) (st' := [.int (-1), .ref 146]) d_238_8 (fun _ => rfl) ?_
    have hW1 := hW.q (g' := g) (A' := A) Gsm.rf Ksm.rf
    refine rr_pv (as := [.int (-1)]) (al0 := [some (.ref 146), some (.int (-1))]) (r := []) d_238_9 mo_238 ml_110 mz_180 rfl rfl rfl (Nat.le_of_ble_eq_true rfl) (s_refuses (e := 1) (by decide) (by decide)) ?_
    show RR _ _ 12 [some (.ref 146), some (.int t), some (.int u), some (.int v), none, none, none, none] [.int (-1)] (upd g 0 (-1)) (rf_u A 0 (upd (A 0) 1 (A 0 1 + nI 1))) _
    exact rr_ri d_238_12 mr_238 rfl ⟨rfl, (hW1.rf (by decide)).mo⟩
theorem p_product_b {S : CS} {G : Nat → Nat → Value} {B : Nat → Nat → Int32} {J : Nat → Nat → Int64} {R : Nat → Nat → Option Nat} {n : Nat} {W : WS} (hW : WC n S G B R W) {k : Nat} (hk6 : k < 6) {u v : Int32} (hh : ¬ (hasP (wK W) u ∧ hasP (wK W) v)) : CR 80 132 0 [some (.ref 2), some (.int (nI k)), some (.int u), some (.int v)] [] S G B J R (fun r__ S' G' B' J' R' => r__ = some (.int (-2)) ∧ WC (n + 1) S' G' B' R' (refW W (-2) 2)) := by
  have hS := hW.1.1
  have hF := hW.2.1
  have hO := hW.2.2.2.1
  obtain ⟨ta, ka, la, hH, hLk, hl2, hs3, hbd⟩ := hW.2.2.1
  refine cr_nx (pc' := 1) (al' := [some (.ref 2), some (.int (nI k)), some (.int u), some (.int v)]) (st' := [.int (nI k)]) d_132_0 (fun _ => rfl) ?_
  refine cr_ps (as := [.int (nI k)]) (al0 := [some (.int (nI k))]) (r := []) d_132_1 cw_132 cm_11_100 (by decide) cz_118 rfl rfl rfl (Nat.le_of_ble_eq_true rfl) (k_isPlace) ?_
  show CR _ _ 4 [some (.ref 2), some (.int (nI k)), some (.int u), some (.int v)] [.int (bI (inP (nI k) 6))] S G B J R _
  refine cr_bne (t := 13) d_132_4 (by decide) (fun c4 => ?_) (fun c4 => ?_)
  · refine cr_nx (pc' := 14) (al' := [some (.ref 2), some (.int (nI k)), some (.int u), some (.int v)]) (st' := [.ref 2]) d_132_13 (fun _ => rfl) ?_
    refine cr_nx (pc' := 15) (al' := [some (.ref 2), some (.int (nI k)), some (.int u), some (.int v)]) (st' := [.int u, .ref 2]) d_132_14 (fun _ => rfl) ?_
    refine cr_pv (b := 2) (as := [.int u]) (al0 := [some (.ref 2), some (.int u)]) (r := []) d_132_15 cw_132 cm_11_137 cz_126 rfl rfl (hS.i (a := 2) (by decide) (by decide)) (by rw [cw_126]; exact (hS.s (a := 2) (by decide) (by decide) rfl)) (by rw [cw_126]; decide) rfl (Nat.le_of_ble_eq_true rfl) (k_has hS hF hH hO) ?_
    show CR _ _ 18 [some (.ref 2), some (.int (nI k)), some (.int u), some (.int v)] [.int (bI (hasP (wK W) u))] S G B J R _
    refine cr_beq (t := 29) d_132_18 (by decide) (fun c18 => ?_) (fun c18 => ?_)
    · refine cr_nx (pc' := 30) (al' := [some (.ref 2), some (.int (nI k)), some (.int u), some (.int v)]) (st' := [.ref 2]) d_132_29 (fun _ => rfl) ?_
      refine cr_nx (pc' := 32) (al' := [some (.ref 2), some (.int (nI k)), some (.int u), some (.int v)]) (st' := [.int (-2), .ref 2]) d_132_30 (fun _ => rfl) ?_
      refine cr_pv (b := 2) (as := [.int (-2)]) (al0 := [some (.ref 2), some (.int (-2))]) (r := []) d_132_32 cw_132 cm_11_104 cz_119 rfl rfl (hS.i (a := 2) (by decide) (by decide)) (by rw [cw_119]; exact (hS.s (a := 2) (by decide) (by decide) rfl)) (by rw [cw_119]; decide) rfl (Nat.le_of_ble_eq_true rfl) (k_refuse (e := 2) hS hF (by decide) (by decide)) ?_
      show CR _ _ 35 [some (.ref 2), some (.int (nI k)), some (.int u), some (.int v)] [.int (-2)] S (up2 G 2 16 (.int (-2))) (upr B 145 (upd (B 145) 2 (B 145 2 + nI 1))) J R _
      exact cr_ri d_132_35 cx_132 rfl ⟨rfl, (hW.rf (by decide)).mo⟩
    · refine cr_nx (pc' := 22) (al' := [some (.ref 2), some (.int (nI k)), some (.int u), some (.int v)]) (st' := [.ref 2]) d_132_21 (fun _ => rfl) ?_
      refine cr_nx (pc' := 23) (al' := [some (.ref 2), some (.int (nI k)), some (.int u), some (.int v)]) (st' := [.int v, .ref 2]) d_132_22 (fun _ => rfl) ?_
      refine cr_pv (b := 2) (as := [.int v]) (al0 := [some (.ref 2), some (.int v)]) (r := []) d_132_23 cw_132 cm_11_137 cz_126 rfl rfl (hS.i (a := 2) (by decide) (by decide)) (by rw [cw_126]; exact (hS.s (a := 2) (by decide) (by decide) rfl)) (by rw [cw_126]; decide) rfl (Nat.le_of_ble_eq_true rfl) (k_has hS hF hH hO) ?_
      show CR _ _ 26 [some (.ref 2), some (.int (nI k)), some (.int u), some (.int v)] [.int (bI (hasP (wK W) v))] S G B J R _
      refine cr_bne (t := 36) d_132_26 (by decide) (fun c26 => ?_) (fun c26 => ?_)
      · exact absurd ⟨c18, c26⟩ hh
      · refine cr_nx (pc' := 30) (al' := [some (.ref 2), some (.int (nI k)), some (.int u), some (.int v)]) (st' := [.ref 2]) d_132_29 (fun _ => rfl) ?_
        refine cr_nx (pc' := 32) (al' := [some (.ref 2), some (.int (nI k)), some (.int u), some (.int v)]) (st' := [.int (-2), .ref 2]) d_132_30 (fun _ => rfl) ?_
        refine cr_pv (b := 2) (as := [.int (-2)]) (al0 := [some (.ref 2), some (.int (-2))]) (r := []) d_132_32 cw_132 cm_11_104 cz_119 rfl rfl (hS.i (a := 2) (by decide) (by decide)) (by rw [cw_119]; exact (hS.s (a := 2) (by decide) (by decide) rfl)) (by rw [cw_119]; decide) rfl (Nat.le_of_ble_eq_true rfl) (k_refuse (e := 2) hS hF (by decide) (by decide)) ?_
        show CR _ _ 35 [some (.ref 2), some (.int (nI k)), some (.int u), some (.int v)] [.int (-2)] S (up2 G 2 16 (.int (-2))) (upr B 145 (upd (B 145) 2 (B 145 2 + nI 1))) J R _
        exact cr_ri d_132_35 cx_132 rfl ⟨rfl, (hW.rf (by decide)).mo⟩
  · exact absurd ((in_j (by omega)).mpr hk6) c4
theorem r_product_b {g : Nat → Int32} {A : Nat → Nat → Int32} {n : Nat} {W : WS} (hW : WR n g A W) (hO : CoOk (wK W)) {k : Nat} (hk6 : k < 6) {u v : Int32} (hh : ¬ (hasP (wK W) u ∧ hasP (wK W) v)) : RR 80 238 0 [some (.ref 146), some (.int (nI k)), some (.int u), some (.int v), none, none, none, none] [] g A (fun r__ g' A' => r__ = some (.int (-2)) ∧ WR (n + 1) g' A' (refW W (-2) 2)) := by
  refine rr_nx (pc' := 1) (al' := [some (.ref 146), some (.int (nI k)), some (.int u), some (.int v), none, none, none, none]) (st' := [.int (nI k)]) d_238_0 (fun _ => rfl) ?_
  refine rr_ps (as := [.int (nI k)]) (al0 := [some (.int (nI k))]) (r := []) d_238_1 mo_238 ml_117 mz_185 rfl rfl rfl (Nat.le_of_ble_eq_true rfl) (s_isSlot (nI k)) ?_
  show RR _ _ 4 [some (.ref 146), some (.int (nI k)), some (.int u), some (.int v), none, none, none, none] [.int (bI (nI 0 ≤ (nI k) ∧ (nI k) ≤ nI 5))] g A _
  refine rr_bne (t := 13) d_238_4 (by decide) (fun c4 => ?_) (fun c4 => ?_)
  · refine rr_nx (pc' := 14) (al' := [some (.ref 146), some (.int (nI k)), some (.int u), some (.int v), none, none, none, none]) (st' := [.ref 146]) d_238_13 (fun _ => rfl) ?_
    refine rr_nx (pc' := 15) (al' := [some (.ref 146), some (.int (nI k)), some (.int u), some (.int v), none, none, none, none]) (st' := [.int u, .ref 146]) d_238_14 (fun _ => rfl) ?_
    refine rr_pv (as := [.int u]) (al0 := [some (.ref 146), some (.int u)]) (r := []) d_238_15 mo_238 ml_124 mz_184 rfl rfl rfl (Nat.le_of_ble_eq_true rfl) (s_isTable u) ?_
    show RR _ _ 18 [some (.ref 146), some (.int (nI k)), some (.int u), some (.int v), none, none, none, none] [.int (bI (isT A u))] g A _
    refine rr_beq (t := 29) d_238_18 (by decide) (fun c18 => ?_) (fun c18 => ?_)
    · refine rr_nx (pc' := 30) (al' := [some (.ref 146), some (.int (nI k)), some (.int u), some (.int v), none, none, none, none]) (st' := [.ref 146]) d_238_29 (fun _ => rfl) ?_
      refine rr_nx (pc' := 32) (al' := [some (.ref 146), some (.int (nI k)), some (.int u), some (.int v), none, none, none, none]) (st' := [.int (-2), .ref 146]) d_238_30 (fun _ => rfl) ?_
      have hW1 := hW.q (g' := g) (A' := A) Gsm.rf Ksm.rf
      refine rr_pv (as := [.int (-2)]) (al0 := [some (.ref 146), some (.int (-2))]) (r := []) d_238_32 mo_238 ml_110 mz_180 rfl rfl rfl (Nat.le_of_ble_eq_true rfl) (s_refuses (e := 2) (by decide) (by decide)) ?_
      show RR _ _ 35 [some (.ref 146), some (.int (nI k)), some (.int u), some (.int v), none, none, none, none] [.int (-2)] (upd g 0 (-2)) (rf_u A 0 (upd (A 0) 2 (A 0 2 + nI 1))) _
      exact rr_ri d_238_35 mr_238 rfl ⟨rfl, (hW1.rf (by decide)).mo⟩
    · refine rr_nx (pc' := 22) (al' := [some (.ref 146), some (.int (nI k)), some (.int u), some (.int v), none, none, none, none]) (st' := [.ref 146]) d_238_21 (fun _ => rfl) ?_
      refine rr_nx (pc' := 23) (al' := [some (.ref 146), some (.int (nI k)), some (.int u), some (.int v), none, none, none, none]) (st' := [.int v, .ref 146]) d_238_22 (fun _ => rfl) ?_
      refine rr_pv (as := [.int v]) (al0 := [some (.ref 146), some (.int v)]) (r := []) d_238_23 mo_238 ml_124 mz_184 rfl rfl rfl (Nat.le_of_ble_eq_true rfl) (s_isTable v) ?_
      show RR _ _ 26 [some (.ref 146), some (.int (nI k)), some (.int u), some (.int v), none, none, none, none] [.int (bI (isT A v))] g A _
      refine rr_bne (t := 36) d_238_26 (by decide) (fun c26 => ?_) (fun c26 => ?_)
      · exact absurd ⟨(has_r hW hO).mp c18, (has_r hW hO).mp c26⟩ hh
      · refine rr_nx (pc' := 30) (al' := [some (.ref 146), some (.int (nI k)), some (.int u), some (.int v), none, none, none, none]) (st' := [.ref 146]) d_238_29 (fun _ => rfl) ?_
        refine rr_nx (pc' := 32) (al' := [some (.ref 146), some (.int (nI k)), some (.int u), some (.int v), none, none, none, none]) (st' := [.int (-2), .ref 146]) d_238_30 (fun _ => rfl) ?_
        have hW1 := hW.q (g' := g) (A' := A) Gsm.rf Ksm.rf
        refine rr_pv (as := [.int (-2)]) (al0 := [some (.ref 146), some (.int (-2))]) (r := []) d_238_32 mo_238 ml_110 mz_180 rfl rfl rfl (Nat.le_of_ble_eq_true rfl) (s_refuses (e := 2) (by decide) (by decide)) ?_
        show RR _ _ 35 [some (.ref 146), some (.int (nI k)), some (.int u), some (.int v), none, none, none, none] [.int (-2)] (upd g 0 (-2)) (rf_u A 0 (upd (A 0) 2 (A 0 2 + nI 1))) _
        exact rr_ri d_238_35 mr_238 rfl ⟨rfl, (hW1.rf (by decide)).mo⟩
  · exact absurd ((in_r (m := 5) (by decide)).mpr ((in_j (by omega)).mpr hk6)) c4
theorem p_product_c {S : CS} {G : Nat → Nat → Value} {B : Nat → Nat → Int32} {J : Nat → Nat → Int64} {R : Nat → Nat → Option Nat} {n : Nat} {W : WS} (hW : WC n S G B R W) {k : Nat} (hk6 : k < 6) {j m : Nat} {c : Nat → Nat} (hj : j < 6) (htb : tbK (wK W) j = (m, c)) (h1 : 1 ≤ m) {j2 m2 : Nat} {c2 : Nat → Nat} (hj2 : j2 < 6) (htb2 : tbK (wK W) j2 = (m2, c2)) (h12 : 1 ≤ m2) (hpm : ¬ m * m2 ≤ 6) : CR 80 132 0 [some (.ref 2), some (.int (nI k)), some (.int (nI j)), some (.int (nI j2))] [] S G B J R (fun r__ S' G' B' J' R' => r__ = some (.int (-3)) ∧ WC (n + 1) S' G' B' R' (refW W (-3) 3)) := by
  have hS := hW.1.1
  have hF := hW.2.1
  have hO := hW.2.2.2.1
  obtain ⟨ta, ka, la, hH, hLk, hl2, hs3, hbd⟩ := hW.2.2.1
  obtain ⟨zt, hzt, ezt⟩ := (hH.2.1 j hj).2
  have ht := hH.ta hj
  have hsh := hH.2.2.2.2.2.2.1 j hj
  rw [show kH (wK W) (kD (wK W)) j = (m, c) from htb] at hsh
  have hok := tb_ok hO hj
  rw [htb] at hok
  have hn : G (ta j) 0 = .int (nI m) := hsh.1
  have hc : TabC B (ta j) m c := hsh.c hok
  have hl : Lat m c := hok.2
  have hm6 : m ≤ 6 := hok.1
  have hyes : hasP (wK W) (nI j) := (has_i hj).mpr (by rw [htb]; exact h1)
  obtain ⟨zt2, hzt2, ezt2⟩ := (hH.2.1 j2 hj2).2
  have ht2 := hH.ta hj2
  have hsh2 := hH.2.2.2.2.2.2.1 j2 hj2
  rw [show kH (wK W) (kD (wK W)) j2 = (m2, c2) from htb2] at hsh2
  have hok2 := tb_ok hO hj2
  rw [htb2] at hok2
  have hn2 : G (ta j2) 0 = .int (nI m2) := hsh2.1
  have hc2 : TabC B (ta j2) m2 c2 := hsh2.c hok2
  have hl2 : Lat m2 c2 := hok2.2
  have hm62 : m2 ≤ 6 := hok2.1
  have hyes2 : hasP (wK W) (nI j2) := (has_i hj2).mpr (by rw [htb2]; exact h12)
  have h36 := Nat.mul_le_mul hm6 hm62
  refine cr_nx (pc' := 1) (al' := [some (.ref 2), some (.int (nI k)), some (.int (nI j)), some (.int (nI j2))]) (st' := [.int (nI k)]) d_132_0 (fun _ => rfl) ?_
  refine cr_ps (as := [.int (nI k)]) (al0 := [some (.int (nI k))]) (r := []) d_132_1 cw_132 cm_11_100 (by decide) cz_118 rfl rfl rfl (Nat.le_of_ble_eq_true rfl) (k_isPlace) ?_
  show CR _ _ 4 [some (.ref 2), some (.int (nI k)), some (.int (nI j)), some (.int (nI j2))] [.int (bI (inP (nI k) 6))] S G B J R _
  refine cr_bne (t := 13) d_132_4 (by decide) (fun c4 => ?_) (fun c4 => ?_)
  · refine cr_nx (pc' := 14) (al' := [some (.ref 2), some (.int (nI k)), some (.int (nI j)), some (.int (nI j2))]) (st' := [.ref 2]) d_132_13 (fun _ => rfl) ?_
    refine cr_nx (pc' := 15) (al' := [some (.ref 2), some (.int (nI k)), some (.int (nI j)), some (.int (nI j2))]) (st' := [.int (nI j), .ref 2]) d_132_14 (fun _ => rfl) ?_
    refine cr_pv (b := 2) (as := [.int (nI j)]) (al0 := [some (.ref 2), some (.int (nI j))]) (r := []) d_132_15 cw_132 cm_11_137 cz_126 rfl rfl (hS.i (a := 2) (by decide) (by decide)) (by rw [cw_126]; exact (hS.s (a := 2) (by decide) (by decide) rfl)) (by rw [cw_126]; decide) rfl (Nat.le_of_ble_eq_true rfl) (k_has hS hF hH hO) ?_
    show CR _ _ 18 [some (.ref 2), some (.int (nI k)), some (.int (nI j)), some (.int (nI j2))] [.int (bI (hasP (wK W) (nI j)))] S G B J R _
    refine cr_beq (t := 29) d_132_18 (by decide) (fun c18 => ?_) (fun c18 => ?_)
    · exact absurd hyes c18
    · refine cr_nx (pc' := 22) (al' := [some (.ref 2), some (.int (nI k)), some (.int (nI j)), some (.int (nI j2))]) (st' := [.ref 2]) d_132_21 (fun _ => rfl) ?_
      refine cr_nx (pc' := 23) (al' := [some (.ref 2), some (.int (nI k)), some (.int (nI j)), some (.int (nI j2))]) (st' := [.int (nI j2), .ref 2]) d_132_22 (fun _ => rfl) ?_
      refine cr_pv (b := 2) (as := [.int (nI j2)]) (al0 := [some (.ref 2), some (.int (nI j2))]) (r := []) d_132_23 cw_132 cm_11_137 cz_126 rfl rfl (hS.i (a := 2) (by decide) (by decide)) (by rw [cw_126]; exact (hS.s (a := 2) (by decide) (by decide) rfl)) (by rw [cw_126]; decide) rfl (Nat.le_of_ble_eq_true rfl) (k_has hS hF hH hO) ?_
      show CR _ _ 26 [some (.ref 2), some (.int (nI k)), some (.int (nI j)), some (.int (nI j2))] [.int (bI (hasP (wK W) (nI j2)))] S G B J R _
      refine cr_bne (t := 36) d_132_26 (by decide) (fun c26 => ?_) (fun c26 => ?_)
      · refine cr_nx (pc' := 37) (al' := [some (.ref 2), some (.int (nI k)), some (.int (nI j)), some (.int (nI j2))]) (st' := [.ref 2]) d_132_36 (fun _ => rfl) ?_
        refine cr_gf (v := .ref 3) d_132_37 cw_132 cf_11_10 (hS.i (a := 2) (by decide) (by decide)) (hS.s (a := 2) (by decide) (by decide) rfl) (by decide) (fx_2_0 hF) ?_
        refine cr_gf (v := .ref 4) d_132_40 cw_132 cf_11_140 (hS.i (a := 3) (by decide) (by decide)) (hS.s (a := 3) (by decide) (by decide) rfl) (by decide) (fx_3_0 hF) ?_
        refine cr_nx (pc' := 44) (al' := [some (.ref 2), some (.int (nI k)), some (.int (nI j)), some (.int (nI j2))]) (st' := [.int (nI j), .ref 4]) d_132_43 (fun _ => rfl) ?_
        refine cr_aa (a := 4) (v := .ref (ta j)) d_132_44 (hS.i (a := 4) (by decide) (by decide)) (by decide) (hS.s (a := 4) (by decide) (by decide) rfl) (by decide) (show j < 6 by first | omega | assumption | exact cu_36 (by omega) (cu_lt (by omega) (by omega))) (show va_rf _ = _ by rw [(hH.2.1 j hj).1]; rfl) ?_
        refine cr_gf (v := .int (nI m)) d_132_45 cw_132 cf_11_112 ht.1 ht.2.2.1 (by decide) hn ?_
        refine cr_nx (pc' := 49) (al' := [some (.ref 2), some (.int (nI k)), some (.int (nI j)), some (.int (nI j2))]) (st' := [.ref 2, .int (nI m)]) d_132_48 (fun _ => rfl) ?_
        refine cr_gf (v := .ref 3) d_132_49 cw_132 cf_11_10 (hS.i (a := 2) (by decide) (by decide)) (hS.s (a := 2) (by decide) (by decide) rfl) (by decide) (fx_2_0 hF) ?_
        refine cr_gf (v := .ref 4) d_132_52 cw_132 cf_11_140 (hS.i (a := 3) (by decide) (by decide)) (hS.s (a := 3) (by decide) (by decide) rfl) (by decide) (fx_3_0 hF) ?_
        refine cr_nx (pc' := 56) (al' := [some (.ref 2), some (.int (nI k)), some (.int (nI j)), some (.int (nI j2))]) (st' := [.int (nI j2), .ref 4, .int (nI m)]) d_132_55 (fun _ => rfl) ?_
        refine cr_aa (a := 4) (v := .ref (ta j2)) d_132_56 (hS.i (a := 4) (by decide) (by decide)) (by decide) (hS.s (a := 4) (by decide) (by decide) rfl) (by decide) (show j2 < 6 by first | omega | assumption | exact cu_36 (by omega) (cu_lt (by omega) (by omega))) (show va_rf _ = _ by rw [(hH.2.1 j2 hj2).1]; rfl) ?_
        refine cr_gf (v := .int (nI m2)) d_132_57 cw_132 cf_11_112 ht2.1 ht2.2.2.1 (by decide) hn2 ?_
        refine cn_mul d_132_60  ?_
        refine cn_bp (v := 6) d_132_61 (by decide) ?_
        refine cn_cle (t := 73) d_132_63 (by decide) (by first | omega | assumption | exact cu_36 (by omega) (cu_lt (by omega) (by omega))) (by first | omega | assumption | exact cu_36 (by omega) (cu_lt (by omega) (by omega))) (fun c63 => ?_) (fun c63 => ?_)
        · exact absurd c63 hpm
        · refine cr_nx (pc' := 67) (al' := [some (.ref 2), some (.int (nI k)), some (.int (nI j)), some (.int (nI j2))]) (st' := [.ref 2]) d_132_66 (fun _ => rfl) ?_
          refine cr_nx (pc' := 69) (al' := [some (.ref 2), some (.int (nI k)), some (.int (nI j)), some (.int (nI j2))]) (st' := [.int (-3), .ref 2]) d_132_67 (fun _ => rfl) ?_
          refine cr_pv (b := 2) (as := [.int (-3)]) (al0 := [some (.ref 2), some (.int (-3))]) (r := []) d_132_69 cw_132 cm_11_104 cz_119 rfl rfl (hS.i (a := 2) (by decide) (by decide)) (by rw [cw_119]; exact (hS.s (a := 2) (by decide) (by decide) rfl)) (by rw [cw_119]; decide) rfl (Nat.le_of_ble_eq_true rfl) (k_refuse (e := 3) hS hF (by decide) (by decide)) ?_
          show CR _ _ 72 [some (.ref 2), some (.int (nI k)), some (.int (nI j)), some (.int (nI j2))] [.int (-3)] S (up2 G 2 16 (.int (-3))) (upr B 145 (upd (B 145) 3 (B 145 3 + nI 1))) J R _
          exact cr_ri d_132_72 cx_132 rfl ⟨rfl, (hW.rf (by decide)).mo⟩
      · exact absurd hyes2 c26
  · exact absurd ((in_j (by omega)).mpr hk6) c4
theorem r_product_c {g : Nat → Int32} {A : Nat → Nat → Int32} {n : Nat} {W : WS} (hW : WR n g A W) (hO : CoOk (wK W)) {k : Nat} (hk6 : k < 6) {j m : Nat} {c : Nat → Nat} (hj : j < 6) (htb : tbK (wK W) j = (m, c)) (h1 : 1 ≤ m) {j2 m2 : Nat} {c2 : Nat → Nat} (hj2 : j2 < 6) (htb2 : tbK (wK W) j2 = (m2, c2)) (h12 : 1 ≤ m2) (hpm : ¬ m * m2 ≤ 6) : RR 80 238 0 [some (.ref 146), some (.int (nI k)), some (.int (nI j)), some (.int (nI j2)), none, none, none, none] [] g A (fun r__ g' A' => r__ = some (.int (-3)) ∧ WR (n + 1) g' A' (refW W (-3) 3)) := by
  have hsh := hW.1.1.1 j hj
  rw [show kH (wK W) (kD (wK W)) j = (m, c) from htb] at hsh
  have hok := tb_ok hO hj
  rw [htb] at hok
  have hk : A 1 (37 * j) = nI m := hsh.1
  have hl : Lat m c := hok.2
  have hm6 : m ≤ 6 := hok.1
  have hyes : isT A (nI j) := (has_r hW hO).mpr ((has_i hj).mpr (by rw [htb]; exact h1))
  have hsh2 := hW.1.1.1 j2 hj2
  rw [show kH (wK W) (kD (wK W)) j2 = (m2, c2) from htb2] at hsh2
  have hok2 := tb_ok hO hj2
  rw [htb2] at hok2
  have hk2 : A 1 (37 * j2) = nI m2 := hsh2.1
  have hl2 : Lat m2 c2 := hok2.2
  have hm62 : m2 ≤ 6 := hok2.1
  have hyes2 : isT A (nI j2) := (has_r hW hO).mpr ((has_i hj2).mpr (by rw [htb2]; exact h12))
  have h36 := Nat.mul_le_mul hm6 hm62
  refine rr_nx (pc' := 1) (al' := [some (.ref 146), some (.int (nI k)), some (.int (nI j)), some (.int (nI j2)), none, none, none, none]) (st' := [.int (nI k)]) d_238_0 (fun _ => rfl) ?_
  refine rr_ps (as := [.int (nI k)]) (al0 := [some (.int (nI k))]) (r := []) d_238_1 mo_238 ml_117 mz_185 rfl rfl rfl (Nat.le_of_ble_eq_true rfl) (s_isSlot (nI k)) ?_
  show RR _ _ 4 [some (.ref 146), some (.int (nI k)), some (.int (nI j)), some (.int (nI j2)), none, none, none, none] [.int (bI (nI 0 ≤ (nI k) ∧ (nI k) ≤ nI 5))] g A _
  refine rr_bne (t := 13) d_238_4 (by decide) (fun c4 => ?_) (fun c4 => ?_)
  · refine rr_nx (pc' := 14) (al' := [some (.ref 146), some (.int (nI k)), some (.int (nI j)), some (.int (nI j2)), none, none, none, none]) (st' := [.ref 146]) d_238_13 (fun _ => rfl) ?_
    refine rr_nx (pc' := 15) (al' := [some (.ref 146), some (.int (nI k)), some (.int (nI j)), some (.int (nI j2)), none, none, none, none]) (st' := [.int (nI j), .ref 146]) d_238_14 (fun _ => rfl) ?_
    refine rr_pv (as := [.int (nI j)]) (al0 := [some (.ref 146), some (.int (nI j))]) (r := []) d_238_15 mo_238 ml_124 mz_184 rfl rfl rfl (Nat.le_of_ble_eq_true rfl) (s_isTable (nI j)) ?_
    show RR _ _ 18 [some (.ref 146), some (.int (nI k)), some (.int (nI j)), some (.int (nI j2)), none, none, none, none] [.int (bI (isT A (nI j)))] g A _
    refine rr_beq (t := 29) d_238_18 (by decide) (fun c18 => ?_) (fun c18 => ?_)
    · exact absurd hyes c18
    · refine rr_nx (pc' := 22) (al' := [some (.ref 146), some (.int (nI k)), some (.int (nI j)), some (.int (nI j2)), none, none, none, none]) (st' := [.ref 146]) d_238_21 (fun _ => rfl) ?_
      refine rr_nx (pc' := 23) (al' := [some (.ref 146), some (.int (nI k)), some (.int (nI j)), some (.int (nI j2)), none, none, none, none]) (st' := [.int (nI j2), .ref 146]) d_238_22 (fun _ => rfl) ?_
      refine rr_pv (as := [.int (nI j2)]) (al0 := [some (.ref 146), some (.int (nI j2))]) (r := []) d_238_23 mo_238 ml_124 mz_184 rfl rfl rfl (Nat.le_of_ble_eq_true rfl) (s_isTable (nI j2)) ?_
      show RR _ _ 26 [some (.ref 146), some (.int (nI k)), some (.int (nI j)), some (.int (nI j2)), none, none, none, none] [.int (bI (isT A (nI j2)))] g A _
      refine rr_bne (t := 36) d_238_26 (by decide) (fun c26 => ?_) (fun c26 => ?_)
      · refine rr_nx (pc' := 37) (al' := [some (.ref 146), some (.int (nI k)), some (.int (nI j)), some (.int (nI j2)), none, none, none, none]) (st' := [.ref 146]) d_238_36 (fun _ => rfl) ?_
        refine rr_nx (pc' := 38) (al' := [some (.ref 146), some (.int (nI k)), some (.int (nI j)), some (.int (nI j2)), none, none, none, none]) (st' := [.int (nI j), .ref 146]) d_238_37 (fun _ => rfl) ?_
        refine rr_pv (as := [.int (nI j)]) (al0 := [some (.ref 146), some (.int (nI j))]) (r := []) d_238_38 mo_238 ml_121 mz_186 rfl rfl rfl (Nat.le_of_ble_eq_true rfl) (s_ordN hj hk) ?_
        show RR _ _ 41 [some (.ref 146), some (.int (nI k)), some (.int (nI j)), some (.int (nI j2)), none, none, none, none] [.int (nI m)] g A _
        refine rr_nx (pc' := 43) (al' := [some (.ref 146), some (.int (nI k)), some (.int (nI j)), some (.int (nI j2)), some (.int (nI m)), none, none, none]) (st' := []) d_238_41 (fun _ => rfl) ?_
        refine rr_nx (pc' := 44) (al' := [some (.ref 146), some (.int (nI k)), some (.int (nI j)), some (.int (nI j2)), some (.int (nI m)), none, none, none]) (st' := [.ref 146]) d_238_43 (fun _ => rfl) ?_
        refine rr_nx (pc' := 45) (al' := [some (.ref 146), some (.int (nI k)), some (.int (nI j)), some (.int (nI j2)), some (.int (nI m)), none, none, none]) (st' := [.int (nI j2), .ref 146]) d_238_44 (fun _ => rfl) ?_
        refine rr_pv (as := [.int (nI j2)]) (al0 := [some (.ref 146), some (.int (nI j2))]) (r := []) d_238_45 mo_238 ml_121 mz_186 rfl rfl rfl (Nat.le_of_ble_eq_true rfl) (s_ordN hj2 hk2) ?_
        show RR _ _ 48 [some (.ref 146), some (.int (nI k)), some (.int (nI j)), some (.int (nI j2)), some (.int (nI m)), none, none, none] [.int (nI m2)] g A _
        refine rr_nx (pc' := 50) (al' := [some (.ref 146), some (.int (nI k)), some (.int (nI j)), some (.int (nI j2)), some (.int (nI m)), some (.int (nI m2)), none, none]) (st' := []) d_238_48 (fun _ => rfl) ?_
        refine rr_nx (pc' := 52) (al' := [some (.ref 146), some (.int (nI k)), some (.int (nI j)), some (.int (nI j2)), some (.int (nI m)), some (.int (nI m2)), none, none]) (st' := [.int (nI m)]) d_238_50 (fun _ => rfl) ?_
        refine rr_nx (pc' := 54) (al' := [some (.ref 146), some (.int (nI k)), some (.int (nI j)), some (.int (nI j2)), some (.int (nI m)), some (.int (nI m2)), none, none]) (st' := [.int (nI m2), .int (nI m)]) d_238_52 (fun _ => rfl) ?_
        refine rn_mul d_238_54  ?_
        refine rn_bp (v := 6) d_238_55 (by decide) ?_
        refine rn_cle (t := 67) d_238_57 (by decide) (by first | omega | assumption | exact cu_36 (by omega) (cu_lt (by omega) (by omega))) (by first | omega | assumption | exact cu_36 (by omega) (cu_lt (by omega) (by omega))) (fun c57 => ?_) (fun c57 => ?_)
        · exact absurd c57 hpm
        · refine rr_nx (pc' := 61) (al' := [some (.ref 146), some (.int (nI k)), some (.int (nI j)), some (.int (nI j2)), some (.int (nI m)), some (.int (nI m2)), none, none]) (st' := [.ref 146]) d_238_60 (fun _ => rfl) ?_
          refine rr_nx (pc' := 63) (al' := [some (.ref 146), some (.int (nI k)), some (.int (nI j)), some (.int (nI j2)), some (.int (nI m)), some (.int (nI m2)), none, none]) (st' := [.int (-3), .ref 146]) d_238_61 (fun _ => rfl) ?_
          have hW1 := hW.q (g' := g) (A' := A) Gsm.rf Ksm.rf
          refine rr_pv (as := [.int (-3)]) (al0 := [some (.ref 146), some (.int (-3))]) (r := []) d_238_63 mo_238 ml_110 mz_180 rfl rfl rfl (Nat.le_of_ble_eq_true rfl) (s_refuses (e := 3) (by decide) (by decide)) ?_
          show RR _ _ 66 [some (.ref 146), some (.int (nI k)), some (.int (nI j)), some (.int (nI j2)), some (.int (nI m)), some (.int (nI m2)), none, none] [.int (-3)] (upd g 0 (-3)) (rf_u A 0 (upd (A 0) 3 (A 0 3 + nI 1))) _
          exact rr_ri d_238_66 mr_238 rfl ⟨rfl, (hW1.rf (by decide)).mo⟩
      · exact absurd hyes2 c26
  · exact absurd ((in_r (m := 5) (by decide)).mpr ((in_j (by omega)).mpr hk6)) c4
theorem T_product {S : CS} {G : Nat → Nat → Value} {B : Nat → Nat → Int32} {J : Nat → Nat → Int64} {R : Nat → Nat → Option Nat} {g : Nat → Int32} {A : Nat → Nat → Int32} {n : Nat} {W : WS} (hC : WC n S G B R W) (hR : WR n g A W) (hn : n ≤ 10000) {t : Int32} {u : Int32} {v : Int32} : Tie n 132 238 [some (.ref 2), some (.int t), some (.int u), some (.int v)] [some (.ref 146), some (.int t), some (.int u), some (.int v), none, none, none, none] S G B J R g A W := by
  have hO := hC.2.2.2.1
  by_cases hp6 : inP t 6
  · obtain ⟨k, hk6, e_⟩ := in_n hp6
    subst e_
    by_cases hh : hasP (wK W) u ∧ hasP (wK W) v
    · obtain ⟨j, hj, e_, h1⟩ := has_n hh.1
      subst e_
      obtain ⟨j2, hj2, e_, h12⟩ := has_n hh.2
      subst e_
      obtain ⟨⟨m, c⟩, htb⟩ : ∃ tb, tbK (wK W) j = tb := ⟨_, rfl⟩
      rw [htb] at h1
      obtain ⟨⟨m2, c2⟩, htb2⟩ : ∃ tb, tbK (wK W) j2 = tb := ⟨_, rfl⟩
      rw [htb2] at h12
      by_cases hpm : m * m2 ≤ 6
      · exact ⟨_, _, p_product_y hC hk6 hj htb h1 hj2 htb2 h12 hpm, r_product_y hR hO hk6 hj htb h1 hj2 htb2 h12 hpm hn⟩
      · exact ⟨_, _, p_product_c hC hk6 hj htb h1 hj2 htb2 h12 hpm, r_product_c hR hO hk6 hj htb h1 hj2 htb2 h12 hpm⟩
    · exact ⟨_, _, p_product_b hC hk6 hh, r_product_b hR hO hk6 hh⟩
  · exact ⟨_, _, p_product_a hC hp6, r_product_a hR hO hp6⟩
theorem p_extend_y {S : CS} {G : Nat → Nat → Value} {B : Nat → Nat → Int32} {J : Nat → Nat → Int64} {R : Nat → Nat → Option Nat} {n : Nat} {W : WS} (hW : WC n S G B R W) {k : Nat} (hk6 : k < 6) {j m : Nat} {c : Nat → Nat} (hj : j < 6) (htb : tbK (wK W) j = (m, c)) (h1 : 1 ≤ m) {b : Nat} (hb : b < 512) (hm3 : m ≤ 3) : CR 80 133 0 [some (.ref 2), some (.int (nI k)), some (.int (nI j)), some (.int (nI b))] [] S G B J R (fun r__ S' G' B' J' R' => r__ = some (.int (nI (2 * m))) ∧ WC (n + 1) S' G' B' R' (chW W k (2 * m, exN m c b))) := by
  have hS := hW.1.1
  have hF := hW.2.1
  have hO := hW.2.2.2.1
  obtain ⟨ta, ka, la, hH, hLk, hl2, hs3, hbd⟩ := hW.2.2.1
  obtain ⟨zt, hzt, ezt⟩ := (hH.2.1 j hj).2
  have ht := hH.ta hj
  have hsh := hH.2.2.2.2.2.2.1 j hj
  rw [show kH (wK W) (kD (wK W)) j = (m, c) from htb] at hsh
  have hok := tb_ok hO hj
  rw [htb] at hok
  have hn : G (ta j) 0 = .int (nI m) := hsh.1
  have hc : TabC B (ta j) m c := hsh.c hok
  have hl : Lat m c := hok.2
  have hm6 : m ≤ 6 := hok.1
  have hyes : hasP (wK W) (nI j) := (has_i hj).mpr (by rw [htb]; exact h1)
  refine cr_nx (pc' := 1) (al' := [some (.ref 2), some (.int (nI k)), some (.int (nI j)), some (.int (nI b))]) (st' := [.int (nI k)]) d_133_0 (fun _ => rfl) ?_
  refine cr_ps (as := [.int (nI k)]) (al0 := [some (.int (nI k))]) (r := []) d_133_1 cw_133 cm_11_100 (by decide) cz_118 rfl rfl rfl (Nat.le_of_ble_eq_true rfl) (k_isPlace) ?_
  show CR _ _ 4 [some (.ref 2), some (.int (nI k)), some (.int (nI j)), some (.int (nI b))] [.int (bI (inP (nI k) 6))] S G B J R _
  refine cr_beq (t := 18) d_133_4 (by decide) (fun c4 => ?_) (fun c4 => ?_)
  · exact absurd ((in_j (by omega)).mpr hk6) c4
  · refine cr_nx (pc' := 8) (al' := [some (.ref 2), some (.int (nI k)), some (.int (nI j)), some (.int (nI b))]) (st' := [.int (nI b)]) d_133_7 (fun _ => rfl) ?_
    refine cn_zlt (t := 18) d_133_8 (by decide) (by first | omega | assumption | exact cu_36 (by omega) (cu_lt (by omega) (by omega))) (fun c8 => ?_) (fun c8 => ?_)
    · exact c8.elim
    · refine cr_nx (pc' := 12) (al' := [some (.ref 2), some (.int (nI k)), some (.int (nI j)), some (.int (nI b))]) (st' := [.int (nI b)]) d_133_11 (fun _ => rfl) ?_
      refine cn_sp (v := 511) d_133_12 (by decide) ?_
      refine cn_cle (t := 24) d_133_15 (by decide) (by first | omega | assumption | exact cu_36 (by omega) (cu_lt (by omega) (by omega))) (by first | omega | assumption | exact cu_36 (by omega) (cu_lt (by omega) (by omega))) (fun c15 => ?_) (fun c15 => ?_)
      · refine cr_nx (pc' := 25) (al' := [some (.ref 2), some (.int (nI k)), some (.int (nI j)), some (.int (nI b))]) (st' := [.ref 2]) d_133_24 (fun _ => rfl) ?_
        refine cr_nx (pc' := 26) (al' := [some (.ref 2), some (.int (nI k)), some (.int (nI j)), some (.int (nI b))]) (st' := [.int (nI j), .ref 2]) d_133_25 (fun _ => rfl) ?_
        refine cr_pv (b := 2) (as := [.int (nI j)]) (al0 := [some (.ref 2), some (.int (nI j))]) (r := []) d_133_26 cw_133 cm_11_137 cz_126 rfl rfl (hS.i (a := 2) (by decide) (by decide)) (by rw [cw_126]; exact (hS.s (a := 2) (by decide) (by decide) rfl)) (by rw [cw_126]; decide) rfl (Nat.le_of_ble_eq_true rfl) (k_has hS hF hH hO) ?_
        show CR _ _ 29 [some (.ref 2), some (.int (nI k)), some (.int (nI j)), some (.int (nI b))] [.int (bI (hasP (wK W) (nI j)))] S G B J R _
        refine cr_bne (t := 39) d_133_29 (by decide) (fun c29 => ?_) (fun c29 => ?_)
        · refine cn_ic (v := 2) d_133_39 (by decide) ?_
          refine cr_nx (pc' := 41) (al' := [some (.ref 2), some (.int (nI k)), some (.int (nI j)), some (.int (nI b))]) (st' := [.ref 2, .int (nI 2)]) d_133_40 (fun _ => rfl) ?_
          refine cr_gf (v := .ref 3) d_133_41 cw_133 cf_11_10 (hS.i (a := 2) (by decide) (by decide)) (hS.s (a := 2) (by decide) (by decide) rfl) (by decide) (fx_2_0 hF) ?_
          refine cr_gf (v := .ref 4) d_133_44 cw_133 cf_11_140 (hS.i (a := 3) (by decide) (by decide)) (hS.s (a := 3) (by decide) (by decide) rfl) (by decide) (fx_3_0 hF) ?_
          refine cr_nx (pc' := 48) (al' := [some (.ref 2), some (.int (nI k)), some (.int (nI j)), some (.int (nI b))]) (st' := [.int (nI j), .ref 4, .int (nI 2)]) d_133_47 (fun _ => rfl) ?_
          refine cr_aa (a := 4) (v := .ref (ta j)) d_133_48 (hS.i (a := 4) (by decide) (by decide)) (by decide) (hS.s (a := 4) (by decide) (by decide) rfl) (by decide) (show j < 6 by first | omega | assumption | exact cu_36 (by omega) (cu_lt (by omega) (by omega))) (show va_rf _ = _ by rw [(hH.2.1 j hj).1]; rfl) ?_
          refine cr_gf (v := .int (nI m)) d_133_49 cw_133 cf_11_112 ht.1 ht.2.2.1 (by decide) hn ?_
          refine cn_mul d_133_52  ?_
          refine cn_bp (v := 6) d_133_53 (by decide) ?_
          refine cn_cle (t := 65) d_133_55 (by decide) (by first | omega | assumption | exact cu_36 (by omega) (cu_lt (by omega) (by omega))) (by first | omega | assumption | exact cu_36 (by omega) (cu_lt (by omega) (by omega))) (fun c55 => ?_) (fun c55 => ?_)
          · refine cr_nx (pc' := 66) (al' := [some (.ref 2), some (.int (nI k)), some (.int (nI j)), some (.int (nI b))]) (st' := [.ref 2]) d_133_65 (fun _ => rfl) ?_
            refine cr_gf (v := .ref 86) d_133_66 cw_133 cf_11_38 (hS.i (a := 2) (by decide) (by decide)) (hS.s (a := 2) (by decide) (by decide) rfl) (by decide) (fx_2_6 hF) ?_
            refine cr_nx (pc' := 70) (al' := [some (.ref 2), some (.int (nI k)), some (.int (nI j)), some (.int (nI b))]) (st' := [.ref 2, .ref 86]) d_133_69 (fun _ => rfl) ?_
            refine cr_gf (v := .ref 3) d_133_70 cw_133 cf_11_10 (hS.i (a := 2) (by decide) (by decide)) (hS.s (a := 2) (by decide) (by decide) rfl) (by decide) (fx_2_0 hF) ?_
            refine cr_gf (v := .ref 4) d_133_73 cw_133 cf_11_140 (hS.i (a := 3) (by decide) (by decide)) (hS.s (a := 3) (by decide) (by decide) rfl) (by decide) (fx_3_0 hF) ?_
            refine cr_nx (pc' := 77) (al' := [some (.ref 2), some (.int (nI k)), some (.int (nI j)), some (.int (nI b))]) (st' := [.int (nI j), .ref 4, .ref 86]) d_133_76 (fun _ => rfl) ?_
            refine cr_aa (a := 4) (v := .ref (ta j)) d_133_77 (hS.i (a := 4) (by decide) (by decide)) (by decide) (hS.s (a := 4) (by decide) (by decide) rfl) (by decide) (show j < 6 by first | omega | assumption | exact cu_36 (by omega) (cu_lt (by omega) (by omega))) (show va_rf _ = _ by rw [(hH.2.1 j hj).1]; rfl) ?_
            refine cr_nx (pc' := 79) (al' := [some (.ref 2), some (.int (nI k)), some (.int (nI j)), some (.int (nI b))]) (st' := [.int (nI b), .ref (ta j), .ref 86]) d_133_78 (fun _ => rfl) ?_
            refine cr_cv (b := 86) (as := [.ref (ta j), .int (nI b)]) (al0 := [some (.ref 86), some (.ref (ta j)), some (.int (nI b)), none, none, none, none, none]) (r := []) d_133_79 cw_133 cm_11_190 cz_105 rfl rfl (hS.i (a := 86) (by decide) (by decide)) (by rw [cw_105]; exact (hS.s (a := 86) (by decide) (by decide) rfl)) (by rw [cw_105]; decide) rfl (cr_wk (Nat.le_of_ble_eq_true rfl) (k_makeExtended ht hn hc (tb_86 hS hF) (by omega) hm3 hb)) (fun v1 S1 G1 B1 J1 R1 h1x => ?_)
            obtain ⟨q0_, q1_, q2_, q3_, q4_, w86, q9_, hw86⟩ := h1x
            obtain rfl := q0_
            obtain rfl := q1_.symm
            obtain rfl := q2_
            obtain rfl := q3_.symm
            obtain rfl := q4_.symm
            obtain rfl := q9_
            show CR _ _ 82 [some (.ref 2), some (.int (nI k)), some (.int (nI j)), some (.int (nI b))] [] S (up2 G 86 0 (.int (nI (2 * m)))) (upr B 87 w86) J R _
            refine cr_nx (pc' := 83) (al' := [some (.ref 2), some (.int (nI k)), some (.int (nI j)), some (.int (nI b))]) (st' := [.ref 2]) d_133_82 (fun _ => rfl) ?_
            refine cr_nx (pc' := 84) (al' := [some (.ref 2), some (.int (nI k)), some (.int (nI j)), some (.int (nI b))]) (st' := [.int (nI k), .ref 2]) d_133_83 (fun _ => rfl) ?_
            refine cr_nx (pc' := 85) (al' := [some (.ref 2), some (.int (nI k)), some (.int (nI j)), some (.int (nI b))]) (st' := [.ref 2, .int (nI k), .ref 2]) d_133_84 (fun _ => rfl) ?_
            refine cr_gf (v := .ref 86) d_133_85 cw_133 cf_11_38 (hS.i (a := 2) (by decide) (by decide)) (hS.s (a := 2) (by decide) (by decide) rfl) (by decide) (by simp [up2]; exact (fx_2_6 hF)) ?_
            refine cr_gf (v := .int (nI (2 * m))) d_133_88 cw_133 cf_11_112 (hS.i (a := 86) (by decide) (by decide)) (hS.s (a := 86) (by decide) (by decide) rfl) (by decide) (by simp [up2]) ?_
            have hW1 : WC n S (up2 G 86 0 (.int (nI (2 * m)))) (upr B 87 w86) R W := hW.q (FxG.ut hF) (Gfr.rf.u (by decide)) (Bfr.rf.u (by decide))
            refine cr_cv (b := 2) (as := [.int (nI k), .int (nI (2 * m))]) (al0 := [some (.ref 2), some (.int (nI k)), some (.int (nI (2 * m)))]) (r := []) d_133_91 cw_133 cm_11_115 cz_122 rfl rfl (hS.i (a := 2) (by decide) (by decide)) (by rw [cw_122]; exact (hS.s (a := 2) (by decide) (by decide) rfl)) (by rw [cw_122]; decide) rfl (cr_wk (Nat.le_of_ble_eq_true rfl) (k_change (tb := (2 * m, exN m c b)) hW1 hk6 ⟨by dsimp only; omega, ex_lat hl⟩ up2_s (fun q hq => by rw [upr_s]; exact hw86 q hq))) (fun v1 S1 G1 B1 J1 R1 h1x => ?_)
            obtain ⟨q0_, hW2⟩ := h1x
            obtain rfl := q0_
            show CR _ _ 94 [some (.ref 2), some (.int (nI k)), some (.int (nI j)), some (.int (nI b))] [.int (nI (2 * m))] S1 G1 B1 J1 R1 _
            exact cr_ri d_133_94 cx_133 rfl ⟨rfl, hW2.mo⟩
          · omega
        · exact absurd hyes c29
      · omega
theorem r_extend_y {g : Nat → Int32} {A : Nat → Nat → Int32} {n : Nat} {W : WS} (hW : WR n g A W) (hO : CoOk (wK W)) {k : Nat} (hk6 : k < 6) {j m : Nat} {c : Nat → Nat} (hj : j < 6) (htb : tbK (wK W) j = (m, c)) (h1 : 1 ≤ m) {b : Nat} (hb : b < 512) (hm3 : m ≤ 3) (hn5 : n ≤ 10000) : RR 80 239 0 [some (.ref 146), some (.int (nI k)), some (.int (nI j)), some (.int (nI b)), none, none] [] g A (fun r__ g' A' => r__ = some (.int (nI (2 * m))) ∧ WR (n + 1) g' A' (chW W k (2 * m, exN m c b))) := by
  have hsh := hW.1.1.1 j hj
  rw [show kH (wK W) (kD (wK W)) j = (m, c) from htb] at hsh
  have hok := tb_ok hO hj
  rw [htb] at hok
  have hk : A 1 (37 * j) = nI m := hsh.1
  have hl : Lat m c := hok.2
  have hm6 : m ≤ 6 := hok.1
  have hyes : isT A (nI j) := (has_r hW hO).mpr ((has_i hj).mpr (by rw [htb]; exact h1))
  refine rr_nx (pc' := 1) (al' := [some (.ref 146), some (.int (nI k)), some (.int (nI j)), some (.int (nI b)), none, none]) (st' := [.int (nI k)]) d_239_0 (fun _ => rfl) ?_
  refine rr_ps (as := [.int (nI k)]) (al0 := [some (.int (nI k))]) (r := []) d_239_1 mo_239 ml_117 mz_185 rfl rfl rfl (Nat.le_of_ble_eq_true rfl) (s_isSlot (nI k)) ?_
  show RR _ _ 4 [some (.ref 146), some (.int (nI k)), some (.int (nI j)), some (.int (nI b)), none, none] [.int (bI (nI 0 ≤ (nI k) ∧ (nI k) ≤ nI 5))] g A _
  refine rr_beq (t := 18) d_239_4 (by decide) (fun c4 => ?_) (fun c4 => ?_)
  · exact absurd ((in_r (m := 5) (by decide)).mpr ((in_j (by omega)).mpr hk6)) c4
  · refine rr_nx (pc' := 8) (al' := [some (.ref 146), some (.int (nI k)), some (.int (nI j)), some (.int (nI b)), none, none]) (st' := [.int (nI b)]) d_239_7 (fun _ => rfl) ?_
    refine rn_ic (v := 0) d_239_8 (by decide) ?_
    refine rn_sp (v := 511) d_239_9 (by decide) ?_
    refine rr_ps (as := [.int (nI b), .int (nI 0), .int (nI 511)]) (al0 := [some (.int (nI b)), some (.int (nI 0)), some (.int (nI 511))]) (r := []) d_239_12 mo_239 ml_106 mz_179 rfl rfl rfl (Nat.le_of_ble_eq_true rfl) (s_lies (nI b) (nI 0) (nI 511)) ?_
    show RR _ _ 15 [some (.ref 146), some (.int (nI k)), some (.int (nI j)), some (.int (nI b)), none, none] [.int (bI ((nI 0) ≤ (nI b) ∧ (nI b) ≤ (nI 511)))] g A _
    refine rr_bne (t := 24) d_239_15 (by decide) (fun c15 => ?_) (fun c15 => ?_)
    · refine rr_nx (pc' := 25) (al' := [some (.ref 146), some (.int (nI k)), some (.int (nI j)), some (.int (nI b)), none, none]) (st' := [.ref 146]) d_239_24 (fun _ => rfl) ?_
      refine rr_nx (pc' := 26) (al' := [some (.ref 146), some (.int (nI k)), some (.int (nI j)), some (.int (nI b)), none, none]) (st' := [.int (nI j), .ref 146]) d_239_25 (fun _ => rfl) ?_
      refine rr_pv (as := [.int (nI j)]) (al0 := [some (.ref 146), some (.int (nI j))]) (r := []) d_239_26 mo_239 ml_124 mz_184 rfl rfl rfl (Nat.le_of_ble_eq_true rfl) (s_isTable (nI j)) ?_
      show RR _ _ 29 [some (.ref 146), some (.int (nI k)), some (.int (nI j)), some (.int (nI b)), none, none] [.int (bI (isT A (nI j)))] g A _
      refine rr_bne (t := 39) d_239_29 (by decide) (fun c29 => ?_) (fun c29 => ?_)
      · refine rr_nx (pc' := 40) (al' := [some (.ref 146), some (.int (nI k)), some (.int (nI j)), some (.int (nI b)), none, none]) (st' := [.ref 146]) d_239_39 (fun _ => rfl) ?_
        refine rr_nx (pc' := 41) (al' := [some (.ref 146), some (.int (nI k)), some (.int (nI j)), some (.int (nI b)), none, none]) (st' := [.int (nI j), .ref 146]) d_239_40 (fun _ => rfl) ?_
        refine rr_pv (as := [.int (nI j)]) (al0 := [some (.ref 146), some (.int (nI j)), none]) (r := []) d_239_41 mo_239 ml_248 mz_208 rfl rfl rfl (Nat.le_of_ble_eq_true rfl) (s_lays (n := m) hj hm6 hk) ?_
        obtain ⟨wl41, hwl41⟩ : ∃ w_, w_ = rf_f (fun q => A 1 (37 * j + 1 + q)) (A 4) (m * m) := ⟨_, rfl⟩
        rw [← hwl41]
        show RR _ _ 44 [some (.ref 146), some (.int (nI k)), some (.int (nI j)), some (.int (nI b)), none, none] [] (upd g 6 (nI m)) (rf_u A 4 wl41) _
        have hcu := cur_l (g := g) hsh hm6 hl hwl41
        refine rr_nx (pc' := 45) (al' := [some (.ref 146), some (.int (nI k)), some (.int (nI j)), some (.int (nI b)), none, none]) (st' := [.ref 146]) d_239_44 (fun _ => rfl) ?_
        refine rr_gf (v := .int (nI m)) d_239_45 mo_239 fl_127 rfl ?_
        refine rn_ic (v := 3) d_239_48 (by decide) ?_
        refine rn_cle (t := 59) d_239_49 (by decide) (by first | omega | assumption | exact cu_36 (by omega) (cu_lt (by omega) (by omega))) (by first | omega | assumption | exact cu_36 (by omega) (cu_lt (by omega) (by omega))) (fun c49 => ?_) (fun c49 => ?_)
        · refine rr_nx (pc' := 60) (al' := [some (.ref 146), some (.int (nI k)), some (.int (nI j)), some (.int (nI b)), none, none]) (st' := [.ref 146]) d_239_59 (fun _ => rfl) ?_
          refine rn_ic (v := 2) d_239_60 (by decide) ?_
          refine rr_nx (pc' := 62) (al' := [some (.ref 146), some (.int (nI k)), some (.int (nI j)), some (.int (nI b)), none, none]) (st' := [.ref 146, .int (nI 2), .ref 146]) d_239_61 (fun _ => rfl) ?_
          refine rr_gf (v := .int (nI m)) d_239_62 mo_239 fl_127 rfl ?_
          refine rn_mul d_239_65  ?_
          refine rp_8 d_239_66 mo_239 fl_134  ?_
          refine rn_ic (v := 0) d_239_69 (by decide) ?_
          refine rr_nx (pc' := 72) (al' := [some (.ref 146), some (.int (nI k)), some (.int (nI j)), some (.int (nI b)), some (.int (nI 0)), none]) (st' := []) d_239_70 (fun _ => rfl) ?_
          refine rr_dr (al1 := [some (.ref 146), some (.int (nI k)), some (.int (nI j)), some (.int (nI b)), some (.int (nI 0)), none]) (le_s (le_s (le_s (le_s (le_s (le_s (le_n))))))) ?_
          refine rr_wk (by decide) (s_extend_72 (hcu.ug (by decide)) hm3 hb pk_us (fun w5 hw5 => ?_))
          show RR _ _ 165 [some (.ref 146), some (.int (nI k)), some (.int (nI j)), some (.int (nI b)), some (.int (nI (2 * m))), none] [] (upd (upd g 6 (nI m)) 8 (nI (2 * m))) (rf_u (rf_u A 4 wl41) 5 w5) _
          refine rr_nx (pc' := 166) (al' := [some (.ref 146), some (.int (nI k)), some (.int (nI j)), some (.int (nI b)), some (.int (nI (2 * m))), none]) (st' := [.ref 146]) d_239_165 (fun _ => rfl) ?_
          refine rr_nx (pc' := 167) (al' := [some (.ref 146), some (.int (nI k)), some (.int (nI j)), some (.int (nI b)), some (.int (nI (2 * m))), none]) (st' := [.int (nI k), .ref 146]) d_239_166 (fun _ => rfl) ?_
          have hW1 := hW.q (g' := (upd (upd g 6 (nI m)) 8 (nI (2 * m)))) (A' := (rf_u (rf_u A 4 wl41) 5 w5)) ((Gsm.rf.u rfl).u rfl) ((Ksm.rf.u rfl).u rfl)
          refine rr_cv (as := [.int (nI k)]) (al0 := [some (.ref 146), some (.int (nI k)), none, none, none]) (r := []) d_239_167 mo_239 ml_257 mz_224 rfl rfl rfl (rr_wk (Nat.le_of_ble_eq_true rfl) (s_becomes (m := 2 * m) (c := exN m c b) hW1.1.1 hO.1 hk6 (by omega) (by rfl) (fun q hq => by rw [rf_u_s]; exact hw5 q hq))) (fun v1 g1 A1 h1x => ?_)
          obtain ⟨q0_, q1_, f1, q2_, hH1, hf1⟩ := h1x
          obtain rfl := q0_
          obtain rfl := q1_
          obtain rfl := q2_
          show RR _ _ 170 [some (.ref 146), some (.int (nI k)), some (.int (nI j)), some (.int (nI b)), some (.int (nI (2 * m))), none] [] (upd (upd g 6 (nI m)) 8 (nI (2 * m))) (rf_u (rf_u (rf_u A 4 wl41) 5 w5) 1 f1) _
          refine rr_nx (pc' := 171) (al' := [some (.ref 146), some (.int (nI k)), some (.int (nI j)), some (.int (nI b)), some (.int (nI (2 * m))), none]) (st' := [.ref 146]) d_239_170 (fun _ => rfl) ?_
          refine rr_nx (pc' := 172) (al' := [some (.ref 146), some (.int (nI k)), some (.int (nI j)), some (.int (nI b)), some (.int (nI (2 * m))), none]) (st' := [.ref 146, .ref 146]) d_239_171 (fun _ => rfl) ?_
          refine rr_gf (v := .int (nI (2 * m))) d_239_172 mo_239 fl_134 rfl ?_
          refine rr_pv (as := [.int (nI (2 * m))]) (al0 := [some (.ref 146), some (.int (nI (2 * m)))]) (r := []) d_239_175 mo_239 ml_114 mz_181 rfl rfl rfl (Nat.le_of_ble_eq_true rfl) (s_good _) ?_
          show RR _ _ 178 [some (.ref 146), some (.int (nI k)), some (.int (nI j)), some (.int (nI b)), some (.int (nI (2 * m))), none] [.int (nI (2 * m))] (upd (upd (upd (upd g 6 (nI m)) 8 (nI (2 * m))) 0 (nI 0)) 1 ((upd (upd g 6 (nI m)) 8 (nI (2 * m))) 1 + nI 1)) (rf_u (rf_u (rf_u A 4 wl41) 5 w5) 1 f1) _
          exact rr_ri d_239_178 mr_239 rfl ⟨rfl, hW1.ch (by omega) hH1 hf1 rfl hO⟩
        · omega
      · exact absurd hyes c29
    · exact absurd (ia_natI (by decide) (show b ≤ 511 by omega)) c15
theorem p_extend_c {S : CS} {G : Nat → Nat → Value} {B : Nat → Nat → Int32} {J : Nat → Nat → Int64} {R : Nat → Nat → Option Nat} {n : Nat} {W : WS} (hW : WC n S G B R W) {k : Nat} (hk6 : k < 6) {j m : Nat} {c : Nat → Nat} (hj : j < 6) (htb : tbK (wK W) j = (m, c)) (h1 : 1 ≤ m) {b : Nat} (hb : b < 512) (hm3 : ¬ m ≤ 3) : CR 80 133 0 [some (.ref 2), some (.int (nI k)), some (.int (nI j)), some (.int (nI b))] [] S G B J R (fun r__ S' G' B' J' R' => r__ = some (.int (-3)) ∧ WC (n + 1) S' G' B' R' (refW W (-3) 3)) := by
  have hS := hW.1.1
  have hF := hW.2.1
  have hO := hW.2.2.2.1
  obtain ⟨ta, ka, la, hH, hLk, hl2, hs3, hbd⟩ := hW.2.2.1
  obtain ⟨zt, hzt, ezt⟩ := (hH.2.1 j hj).2
  have ht := hH.ta hj
  have hsh := hH.2.2.2.2.2.2.1 j hj
  rw [show kH (wK W) (kD (wK W)) j = (m, c) from htb] at hsh
  have hok := tb_ok hO hj
  rw [htb] at hok
  have hn : G (ta j) 0 = .int (nI m) := hsh.1
  have hc : TabC B (ta j) m c := hsh.c hok
  have hl : Lat m c := hok.2
  have hm6 : m ≤ 6 := hok.1
  have hyes : hasP (wK W) (nI j) := (has_i hj).mpr (by rw [htb]; exact h1)
  refine cr_nx (pc' := 1) (al' := [some (.ref 2), some (.int (nI k)), some (.int (nI j)), some (.int (nI b))]) (st' := [.int (nI k)]) d_133_0 (fun _ => rfl) ?_
  refine cr_ps (as := [.int (nI k)]) (al0 := [some (.int (nI k))]) (r := []) d_133_1 cw_133 cm_11_100 (by decide) cz_118 rfl rfl rfl (Nat.le_of_ble_eq_true rfl) (k_isPlace) ?_
  show CR _ _ 4 [some (.ref 2), some (.int (nI k)), some (.int (nI j)), some (.int (nI b))] [.int (bI (inP (nI k) 6))] S G B J R _
  refine cr_beq (t := 18) d_133_4 (by decide) (fun c4 => ?_) (fun c4 => ?_)
  · exact absurd ((in_j (by omega)).mpr hk6) c4
  · refine cr_nx (pc' := 8) (al' := [some (.ref 2), some (.int (nI k)), some (.int (nI j)), some (.int (nI b))]) (st' := [.int (nI b)]) d_133_7 (fun _ => rfl) ?_
    refine cn_zlt (t := 18) d_133_8 (by decide) (by first | omega | assumption | exact cu_36 (by omega) (cu_lt (by omega) (by omega))) (fun c8 => ?_) (fun c8 => ?_)
    · exact c8.elim
    · refine cr_nx (pc' := 12) (al' := [some (.ref 2), some (.int (nI k)), some (.int (nI j)), some (.int (nI b))]) (st' := [.int (nI b)]) d_133_11 (fun _ => rfl) ?_
      refine cn_sp (v := 511) d_133_12 (by decide) ?_
      refine cn_cle (t := 24) d_133_15 (by decide) (by first | omega | assumption | exact cu_36 (by omega) (cu_lt (by omega) (by omega))) (by first | omega | assumption | exact cu_36 (by omega) (cu_lt (by omega) (by omega))) (fun c15 => ?_) (fun c15 => ?_)
      · refine cr_nx (pc' := 25) (al' := [some (.ref 2), some (.int (nI k)), some (.int (nI j)), some (.int (nI b))]) (st' := [.ref 2]) d_133_24 (fun _ => rfl) ?_
        refine cr_nx (pc' := 26) (al' := [some (.ref 2), some (.int (nI k)), some (.int (nI j)), some (.int (nI b))]) (st' := [.int (nI j), .ref 2]) d_133_25 (fun _ => rfl) ?_
        refine cr_pv (b := 2) (as := [.int (nI j)]) (al0 := [some (.ref 2), some (.int (nI j))]) (r := []) d_133_26 cw_133 cm_11_137 cz_126 rfl rfl (hS.i (a := 2) (by decide) (by decide)) (by rw [cw_126]; exact (hS.s (a := 2) (by decide) (by decide) rfl)) (by rw [cw_126]; decide) rfl (Nat.le_of_ble_eq_true rfl) (k_has hS hF hH hO) ?_
        show CR _ _ 29 [some (.ref 2), some (.int (nI k)), some (.int (nI j)), some (.int (nI b))] [.int (bI (hasP (wK W) (nI j)))] S G B J R _
        refine cr_bne (t := 39) d_133_29 (by decide) (fun c29 => ?_) (fun c29 => ?_)
        · refine cn_ic (v := 2) d_133_39 (by decide) ?_
          refine cr_nx (pc' := 41) (al' := [some (.ref 2), some (.int (nI k)), some (.int (nI j)), some (.int (nI b))]) (st' := [.ref 2, .int (nI 2)]) d_133_40 (fun _ => rfl) ?_
          refine cr_gf (v := .ref 3) d_133_41 cw_133 cf_11_10 (hS.i (a := 2) (by decide) (by decide)) (hS.s (a := 2) (by decide) (by decide) rfl) (by decide) (fx_2_0 hF) ?_
          refine cr_gf (v := .ref 4) d_133_44 cw_133 cf_11_140 (hS.i (a := 3) (by decide) (by decide)) (hS.s (a := 3) (by decide) (by decide) rfl) (by decide) (fx_3_0 hF) ?_
          refine cr_nx (pc' := 48) (al' := [some (.ref 2), some (.int (nI k)), some (.int (nI j)), some (.int (nI b))]) (st' := [.int (nI j), .ref 4, .int (nI 2)]) d_133_47 (fun _ => rfl) ?_
          refine cr_aa (a := 4) (v := .ref (ta j)) d_133_48 (hS.i (a := 4) (by decide) (by decide)) (by decide) (hS.s (a := 4) (by decide) (by decide) rfl) (by decide) (show j < 6 by first | omega | assumption | exact cu_36 (by omega) (cu_lt (by omega) (by omega))) (show va_rf _ = _ by rw [(hH.2.1 j hj).1]; rfl) ?_
          refine cr_gf (v := .int (nI m)) d_133_49 cw_133 cf_11_112 ht.1 ht.2.2.1 (by decide) hn ?_
          refine cn_mul d_133_52  ?_
          refine cn_bp (v := 6) d_133_53 (by decide) ?_
          refine cn_cle (t := 65) d_133_55 (by decide) (by first | omega | assumption | exact cu_36 (by omega) (cu_lt (by omega) (by omega))) (by first | omega | assumption | exact cu_36 (by omega) (cu_lt (by omega) (by omega))) (fun c55 => ?_) (fun c55 => ?_)
          · omega
          · refine cr_nx (pc' := 59) (al' := [some (.ref 2), some (.int (nI k)), some (.int (nI j)), some (.int (nI b))]) (st' := [.ref 2]) d_133_58 (fun _ => rfl) ?_
            refine cr_nx (pc' := 61) (al' := [some (.ref 2), some (.int (nI k)), some (.int (nI j)), some (.int (nI b))]) (st' := [.int (-3), .ref 2]) d_133_59 (fun _ => rfl) ?_
            refine cr_pv (b := 2) (as := [.int (-3)]) (al0 := [some (.ref 2), some (.int (-3))]) (r := []) d_133_61 cw_133 cm_11_104 cz_119 rfl rfl (hS.i (a := 2) (by decide) (by decide)) (by rw [cw_119]; exact (hS.s (a := 2) (by decide) (by decide) rfl)) (by rw [cw_119]; decide) rfl (Nat.le_of_ble_eq_true rfl) (k_refuse (e := 3) hS hF (by decide) (by decide)) ?_
            show CR _ _ 64 [some (.ref 2), some (.int (nI k)), some (.int (nI j)), some (.int (nI b))] [.int (-3)] S (up2 G 2 16 (.int (-3))) (upr B 145 (upd (B 145) 3 (B 145 3 + nI 1))) J R _
            exact cr_ri d_133_64 cx_133 rfl ⟨rfl, (hW.rf (by decide)).mo⟩
        · exact absurd hyes c29
      · omega
theorem r_extend_c {g : Nat → Int32} {A : Nat → Nat → Int32} {n : Nat} {W : WS} (hW : WR n g A W) (hO : CoOk (wK W)) {k : Nat} (hk6 : k < 6) {j m : Nat} {c : Nat → Nat} (hj : j < 6) (htb : tbK (wK W) j = (m, c)) (h1 : 1 ≤ m) {b : Nat} (hb : b < 512) (hm3 : ¬ m ≤ 3) : RR 80 239 0 [some (.ref 146), some (.int (nI k)), some (.int (nI j)), some (.int (nI b)), none, none] [] g A (fun r__ g' A' => r__ = some (.int (-3)) ∧ WR (n + 1) g' A' (refW W (-3) 3)) := by
  have hsh := hW.1.1.1 j hj
  rw [show kH (wK W) (kD (wK W)) j = (m, c) from htb] at hsh
  have hok := tb_ok hO hj
  rw [htb] at hok
  have hk : A 1 (37 * j) = nI m := hsh.1
  have hl : Lat m c := hok.2
  have hm6 : m ≤ 6 := hok.1
  have hyes : isT A (nI j) := (has_r hW hO).mpr ((has_i hj).mpr (by rw [htb]; exact h1))
  refine rr_nx (pc' := 1) (al' := [some (.ref 146), some (.int (nI k)), some (.int (nI j)), some (.int (nI b)), none, none]) (st' := [.int (nI k)]) d_239_0 (fun _ => rfl) ?_
  refine rr_ps (as := [.int (nI k)]) (al0 := [some (.int (nI k))]) (r := []) d_239_1 mo_239 ml_117 mz_185 rfl rfl rfl (Nat.le_of_ble_eq_true rfl) (s_isSlot (nI k)) ?_
  show RR _ _ 4 [some (.ref 146), some (.int (nI k)), some (.int (nI j)), some (.int (nI b)), none, none] [.int (bI (nI 0 ≤ (nI k) ∧ (nI k) ≤ nI 5))] g A _
  refine rr_beq (t := 18) d_239_4 (by decide) (fun c4 => ?_) (fun c4 => ?_)
  · exact absurd ((in_r (m := 5) (by decide)).mpr ((in_j (by omega)).mpr hk6)) c4
  · refine rr_nx (pc' := 8) (al' := [some (.ref 146), some (.int (nI k)), some (.int (nI j)), some (.int (nI b)), none, none]) (st' := [.int (nI b)]) d_239_7 (fun _ => rfl) ?_
    refine rn_ic (v := 0) d_239_8 (by decide) ?_
    refine rn_sp (v := 511) d_239_9 (by decide) ?_
    refine rr_ps (as := [.int (nI b), .int (nI 0), .int (nI 511)]) (al0 := [some (.int (nI b)), some (.int (nI 0)), some (.int (nI 511))]) (r := []) d_239_12 mo_239 ml_106 mz_179 rfl rfl rfl (Nat.le_of_ble_eq_true rfl) (s_lies (nI b) (nI 0) (nI 511)) ?_
    show RR _ _ 15 [some (.ref 146), some (.int (nI k)), some (.int (nI j)), some (.int (nI b)), none, none] [.int (bI ((nI 0) ≤ (nI b) ∧ (nI b) ≤ (nI 511)))] g A _
    refine rr_bne (t := 24) d_239_15 (by decide) (fun c15 => ?_) (fun c15 => ?_)
    · refine rr_nx (pc' := 25) (al' := [some (.ref 146), some (.int (nI k)), some (.int (nI j)), some (.int (nI b)), none, none]) (st' := [.ref 146]) d_239_24 (fun _ => rfl) ?_
      refine rr_nx (pc' := 26) (al' := [some (.ref 146), some (.int (nI k)), some (.int (nI j)), some (.int (nI b)), none, none]) (st' := [.int (nI j), .ref 146]) d_239_25 (fun _ => rfl) ?_
      refine rr_pv (as := [.int (nI j)]) (al0 := [some (.ref 146), some (.int (nI j))]) (r := []) d_239_26 mo_239 ml_124 mz_184 rfl rfl rfl (Nat.le_of_ble_eq_true rfl) (s_isTable (nI j)) ?_
      show RR _ _ 29 [some (.ref 146), some (.int (nI k)), some (.int (nI j)), some (.int (nI b)), none, none] [.int (bI (isT A (nI j)))] g A _
      refine rr_bne (t := 39) d_239_29 (by decide) (fun c29 => ?_) (fun c29 => ?_)
      · refine rr_nx (pc' := 40) (al' := [some (.ref 146), some (.int (nI k)), some (.int (nI j)), some (.int (nI b)), none, none]) (st' := [.ref 146]) d_239_39 (fun _ => rfl) ?_
        refine rr_nx (pc' := 41) (al' := [some (.ref 146), some (.int (nI k)), some (.int (nI j)), some (.int (nI b)), none, none]) (st' := [.int (nI j), .ref 146]) d_239_40 (fun _ => rfl) ?_
        refine rr_pv (as := [.int (nI j)]) (al0 := [some (.ref 146), some (.int (nI j)), none]) (r := []) d_239_41 mo_239 ml_248 mz_208 rfl rfl rfl (Nat.le_of_ble_eq_true rfl) (s_lays (n := m) hj hm6 hk) ?_
        obtain ⟨wl41, hwl41⟩ : ∃ w_, w_ = rf_f (fun q => A 1 (37 * j + 1 + q)) (A 4) (m * m) := ⟨_, rfl⟩
        rw [← hwl41]
        show RR _ _ 44 [some (.ref 146), some (.int (nI k)), some (.int (nI j)), some (.int (nI b)), none, none] [] (upd g 6 (nI m)) (rf_u A 4 wl41) _
        have hcu := cur_l (g := g) hsh hm6 hl hwl41
        refine rr_nx (pc' := 45) (al' := [some (.ref 146), some (.int (nI k)), some (.int (nI j)), some (.int (nI b)), none, none]) (st' := [.ref 146]) d_239_44 (fun _ => rfl) ?_
        refine rr_gf (v := .int (nI m)) d_239_45 mo_239 fl_127 rfl ?_
        refine rn_ic (v := 3) d_239_48 (by decide) ?_
        refine rn_cle (t := 59) d_239_49 (by decide) (by first | omega | assumption | exact cu_36 (by omega) (cu_lt (by omega) (by omega))) (by first | omega | assumption | exact cu_36 (by omega) (cu_lt (by omega) (by omega))) (fun c49 => ?_) (fun c49 => ?_)
        · omega
        · refine rr_nx (pc' := 53) (al' := [some (.ref 146), some (.int (nI k)), some (.int (nI j)), some (.int (nI b)), none, none]) (st' := [.ref 146]) d_239_52 (fun _ => rfl) ?_
          refine rr_nx (pc' := 55) (al' := [some (.ref 146), some (.int (nI k)), some (.int (nI j)), some (.int (nI b)), none, none]) (st' := [.int (-3), .ref 146]) d_239_53 (fun _ => rfl) ?_
          have hW1 := hW.q (g' := (upd g 6 (nI m))) (A' := (rf_u A 4 wl41)) (Gsm.rf.u rfl) (Ksm.rf.u rfl)
          refine rr_pv (as := [.int (-3)]) (al0 := [some (.ref 146), some (.int (-3))]) (r := []) d_239_55 mo_239 ml_110 mz_180 rfl rfl rfl (Nat.le_of_ble_eq_true rfl) (s_refuses (e := 3) (by decide) (by decide)) ?_
          show RR _ _ 58 [some (.ref 146), some (.int (nI k)), some (.int (nI j)), some (.int (nI b)), none, none] [.int (-3)] (upd (upd g 6 (nI m)) 0 (-3)) (rf_u (rf_u A 4 wl41) 0 (upd ((rf_u A 4 wl41) 0) 3 ((rf_u A 4 wl41) 0 3 + nI 1))) _
          exact rr_ri d_239_58 mr_239 rfl ⟨rfl, (hW1.rf (by decide)).mo⟩
      · exact absurd hyes c29
    · exact absurd (ia_natI (by decide) (show b ≤ 511 by omega)) c15
theorem p_extend_a {S : CS} {G : Nat → Nat → Value} {B : Nat → Nat → Int32} {J : Nat → Nat → Int64} {R : Nat → Nat → Option Nat} {n : Nat} {W : WS} (hW : WC n S G B R W) {t s u : Int32} (hx : ¬ (inP t 6 ∧ inP u 512)) : CR 80 133 0 [some (.ref 2), some (.int t), some (.int s), some (.int u)] [] S G B J R (fun r__ S' G' B' J' R' => r__ = some (.int (-1)) ∧ WC (n + 1) S' G' B' R' (refW W (-1) 1)) := by
  have hS := hW.1.1
  have hF := hW.2.1
  have hO := hW.2.2.2.1
  obtain ⟨ta, ka, la, hH, hLk, hl2, hs3, hbd⟩ := hW.2.2.1
  refine cr_nx (pc' := 1) (al' := [some (.ref 2), some (.int t), some (.int s), some (.int u)]) (st' := [.int t]) d_133_0 (fun _ => rfl) ?_
  refine cr_ps (as := [.int t]) (al0 := [some (.int t)]) (r := []) d_133_1 cw_133 cm_11_100 (by decide) cz_118 rfl rfl rfl (Nat.le_of_ble_eq_true rfl) (k_isPlace) ?_
  show CR _ _ 4 [some (.ref 2), some (.int t), some (.int s), some (.int u)] [.int (bI (inP t 6))] S G B J R _
  refine cr_beq (t := 18) d_133_4 (by decide) (fun c4 => ?_) (fun c4 => ?_)
  · refine cr_nx (pc' := 19) (al' := [some (.ref 2), some (.int t), some (.int s), some (.int u)]) (st' := [.ref 2]) d_133_18 (fun _ => rfl) ?_
    refine cr_nx (pc' := 20) (al' := [some (.ref 2), some (.int t), some (.int s), some (.int u)]) (st' := [.int (-1), .ref 2]) d_133_19 (fun _ => rfl) ?_
    refine cr_pv (b := 2) (as := [.int (-1)]) (al0 := [some (.ref 2), some (.int (-1))]) (r := []) d_133_20 cw_133 cm_11_104 cz_119 rfl rfl (hS.i (a := 2) (by decide) (by decide)) (by rw [cw_119]; exact (hS.s (a := 2) (by decide) (by decide) rfl)) (by rw [cw_119]; decide) rfl (Nat.le_of_ble_eq_true rfl) (k_refuse (e := 1) hS hF (by decide) (by decide)) ?_
    show CR _ _ 23 [some (.ref 2), some (.int t), some (.int s), some (.int u)] [.int (-1)] S (up2 G 2 16 (.int (-1))) (upr B 145 (upd (B 145) 1 (B 145 1 + nI 1))) J R _
    exact cr_ri d_133_23 cx_133 rfl ⟨rfl, (hW.rf (by decide)).mo⟩
  · refine cr_nx (pc' := 8) (al' := [some (.ref 2), some (.int t), some (.int s), some (.int u)]) (st' := [.int u]) d_133_7 (fun _ => rfl) ?_
    refine cr_ilt (t := 18) d_133_8 (by decide) (fun c8 => ?_) (fun c8 => ?_)
    · refine cr_nx (pc' := 19) (al' := [some (.ref 2), some (.int t), some (.int s), some (.int u)]) (st' := [.ref 2]) d_133_18 (fun _ => rfl) ?_
      refine cr_nx (pc' := 20) (al' := [some (.ref 2), some (.int t), some (.int s), some (.int u)]) (st' := [.int (-1), .ref 2]) d_133_19 (fun _ => rfl) ?_
      refine cr_pv (b := 2) (as := [.int (-1)]) (al0 := [some (.ref 2), some (.int (-1))]) (r := []) d_133_20 cw_133 cm_11_104 cz_119 rfl rfl (hS.i (a := 2) (by decide) (by decide)) (by rw [cw_119]; exact (hS.s (a := 2) (by decide) (by decide) rfl)) (by rw [cw_119]; decide) rfl (Nat.le_of_ble_eq_true rfl) (k_refuse (e := 1) hS hF (by decide) (by decide)) ?_
      show CR _ _ 23 [some (.ref 2), some (.int t), some (.int s), some (.int u)] [.int (-1)] S (up2 G 2 16 (.int (-1))) (upr B 145 (upd (B 145) 1 (B 145 1 + nI 1))) J R _
      exact cr_ri d_133_23 cx_133 rfl ⟨rfl, (hW.rf (by decide)).mo⟩
    · refine cr_nx (pc' := 12) (al' := [some (.ref 2), some (.int t), some (.int s), some (.int u)]) (st' := [.int u]) d_133_11 (fun _ => rfl) ?_
      refine cn_sp (v := 511) d_133_12 (by decide) ?_
      refine cr_cle (t := 24) d_133_15 (by decide) (fun c15 => ?_) (fun c15 => ?_)
      · exact absurd ⟨c4, show inP u 512 from ⟨by rw [i_lt0] at c8; omega, by rw [i_Nle (by decide)] at c15; omega⟩⟩ hx
      · refine cr_nx (pc' := 19) (al' := [some (.ref 2), some (.int t), some (.int s), some (.int u)]) (st' := [.ref 2]) d_133_18 (fun _ => rfl) ?_
        refine cr_nx (pc' := 20) (al' := [some (.ref 2), some (.int t), some (.int s), some (.int u)]) (st' := [.int (-1), .ref 2]) d_133_19 (fun _ => rfl) ?_
        refine cr_pv (b := 2) (as := [.int (-1)]) (al0 := [some (.ref 2), some (.int (-1))]) (r := []) d_133_20 cw_133 cm_11_104 cz_119 rfl rfl (hS.i (a := 2) (by decide) (by decide)) (by rw [cw_119]; exact (hS.s (a := 2) (by decide) (by decide) rfl)) (by rw [cw_119]; decide) rfl (Nat.le_of_ble_eq_true rfl) (k_refuse (e := 1) hS hF (by decide) (by decide)) ?_
        show CR _ _ 23 [some (.ref 2), some (.int t), some (.int s), some (.int u)] [.int (-1)] S (up2 G 2 16 (.int (-1))) (upr B 145 (upd (B 145) 1 (B 145 1 + nI 1))) J R _
        exact cr_ri d_133_23 cx_133 rfl ⟨rfl, (hW.rf (by decide)).mo⟩
theorem r_extend_a {g : Nat → Int32} {A : Nat → Nat → Int32} {n : Nat} {W : WS} (hW : WR n g A W) (hO : CoOk (wK W)) {t s u : Int32} (hx : ¬ (inP t 6 ∧ inP u 512)) : RR 80 239 0 [some (.ref 146), some (.int t), some (.int s), some (.int u), none, none] [] g A (fun r__ g' A' => r__ = some (.int (-1)) ∧ WR (n + 1) g' A' (refW W (-1) 1)) := by
  refine rr_nx (pc' := 1) (al' := [some (.ref 146), some (.int t), some (.int s), some (.int u), none, none]) (st' := [.int t]) d_239_0 (fun _ => rfl) ?_
  refine rr_ps (as := [.int t]) (al0 := [some (.int t)]) (r := []) d_239_1 mo_239 ml_117 mz_185 rfl rfl rfl (Nat.le_of_ble_eq_true rfl) (s_isSlot t) ?_
  show RR _ _ 4 [some (.ref 146), some (.int t), some (.int s), some (.int u), none, none] [.int (bI (nI 0 ≤ t ∧ t ≤ nI 5))] g A _
  refine rr_beq (t := 18) d_239_4 (by decide) (fun c4 => ?_) (fun c4 => ?_)
  · refine rr_nx (pc' := 19) (al' := [some (.ref 146), some (.int t), some (.int s), some (.int u), none, none]) (st' := [.ref 146]) d_239_18 (fun _ => rfl) ?_
    refine rr_nx (pc' := 20) (al' := [some (.ref 146), some (.int t), some (.int s), some (.int u), none, none]) (st' := [.int (-1), .ref 146]) d_239_19 (fun _ => rfl) ?_
    have hW1 := hW.q (g' := g) (A' := A) Gsm.rf Ksm.rf
    refine rr_pv (as := [.int (-1)]) (al0 := [some (.ref 146), some (.int (-1))]) (r := []) d_239_20 mo_239 ml_110 mz_180 rfl rfl rfl (Nat.le_of_ble_eq_true rfl) (s_refuses (e := 1) (by decide) (by decide)) ?_
    show RR _ _ 23 [some (.ref 146), some (.int t), some (.int s), some (.int u), none, none] [.int (-1)] (upd g 0 (-1)) (rf_u A 0 (upd (A 0) 1 (A 0 1 + nI 1))) _
    exact rr_ri d_239_23 mr_239 rfl ⟨rfl, (hW1.rf (by decide)).mo⟩
  · refine rr_nx (pc' := 8) (al' := [some (.ref 146), some (.int t), some (.int s), some (.int u), none, none]) (st' := [.int u]) d_239_7 (fun _ => rfl) ?_
    refine rn_ic (v := 0) d_239_8 (by decide) ?_
    refine rn_sp (v := 511) d_239_9 (by decide) ?_
    refine rr_ps (as := [.int u, .int (nI 0), .int (nI 511)]) (al0 := [some (.int u), some (.int (nI 0)), some (.int (nI 511))]) (r := []) d_239_12 mo_239 ml_106 mz_179 rfl rfl rfl (Nat.le_of_ble_eq_true rfl) (s_lies u (nI 0) (nI 511)) ?_
    show RR _ _ 15 [some (.ref 146), some (.int t), some (.int s), some (.int u), none, none] [.int (bI ((nI 0) ≤ u ∧ u ≤ (nI 511)))] g A _
    refine rr_bne (t := 24) d_239_15 (by decide) (fun c15 => ?_) (fun c15 => ?_)
    · exact absurd ⟨(in_r (m := 5) (by decide)).mp c4, (in_r (m := 511) (by decide)).mp c15⟩ hx
    · refine rr_nx (pc' := 19) (al' := [some (.ref 146), some (.int t), some (.int s), some (.int u), none, none]) (st' := [.ref 146]) d_239_18 (fun _ => rfl) ?_
      refine rr_nx (pc' := 20) (al' := [some (.ref 146), some (.int t), some (.int s), some (.int u), none, none]) (st' := [.int (-1), .ref 146]) d_239_19 (fun _ => rfl) ?_
      have hW1 := hW.q (g' := g) (A' := A) Gsm.rf Ksm.rf
      refine rr_pv (as := [.int (-1)]) (al0 := [some (.ref 146), some (.int (-1))]) (r := []) d_239_20 mo_239 ml_110 mz_180 rfl rfl rfl (Nat.le_of_ble_eq_true rfl) (s_refuses (e := 1) (by decide) (by decide)) ?_
      show RR _ _ 23 [some (.ref 146), some (.int t), some (.int s), some (.int u), none, none] [.int (-1)] (upd g 0 (-1)) (rf_u A 0 (upd (A 0) 1 (A 0 1 + nI 1))) _
      exact rr_ri d_239_23 mr_239 rfl ⟨rfl, (hW1.rf (by decide)).mo⟩
theorem p_extend_b {S : CS} {G : Nat → Nat → Value} {B : Nat → Nat → Int32} {J : Nat → Nat → Int64} {R : Nat → Nat → Option Nat} {n : Nat} {W : WS} (hW : WC n S G B R W) {k : Nat} (hk6 : k < 6) {t : Int32} (hh : ¬ hasP (wK W) t) {b : Nat} (hb : b < 512) : CR 80 133 0 [some (.ref 2), some (.int (nI k)), some (.int t), some (.int (nI b))] [] S G B J R (fun r__ S' G' B' J' R' => r__ = some (.int (-2)) ∧ WC (n + 1) S' G' B' R' (refW W (-2) 2)) := by
  have hS := hW.1.1
  have hF := hW.2.1
  have hO := hW.2.2.2.1
  obtain ⟨ta, ka, la, hH, hLk, hl2, hs3, hbd⟩ := hW.2.2.1
  refine cr_nx (pc' := 1) (al' := [some (.ref 2), some (.int (nI k)), some (.int t), some (.int (nI b))]) (st' := [.int (nI k)]) d_133_0 (fun _ => rfl) ?_
  refine cr_ps (as := [.int (nI k)]) (al0 := [some (.int (nI k))]) (r := []) d_133_1 cw_133 cm_11_100 (by decide) cz_118 rfl rfl rfl (Nat.le_of_ble_eq_true rfl) (k_isPlace) ?_
  show CR _ _ 4 [some (.ref 2), some (.int (nI k)), some (.int t), some (.int (nI b))] [.int (bI (inP (nI k) 6))] S G B J R _
  refine cr_beq (t := 18) d_133_4 (by decide) (fun c4 => ?_) (fun c4 => ?_)
  · exact absurd ((in_j (by omega)).mpr hk6) c4
  · refine cr_nx (pc' := 8) (al' := [some (.ref 2), some (.int (nI k)), some (.int t), some (.int (nI b))]) (st' := [.int (nI b)]) d_133_7 (fun _ => rfl) ?_
    refine cn_zlt (t := 18) d_133_8 (by decide) (by first | omega | assumption | exact cu_36 (by omega) (cu_lt (by omega) (by omega))) (fun c8 => ?_) (fun c8 => ?_)
    · exact c8.elim
    · refine cr_nx (pc' := 12) (al' := [some (.ref 2), some (.int (nI k)), some (.int t), some (.int (nI b))]) (st' := [.int (nI b)]) d_133_11 (fun _ => rfl) ?_
      refine cn_sp (v := 511) d_133_12 (by decide) ?_
      refine cn_cle (t := 24) d_133_15 (by decide) (by first | omega | assumption | exact cu_36 (by omega) (cu_lt (by omega) (by omega))) (by first | omega | assumption | exact cu_36 (by omega) (cu_lt (by omega) (by omega))) (fun c15 => ?_) (fun c15 => ?_)
      · refine cr_nx (pc' := 25) (al' := [some (.ref 2), some (.int (nI k)), some (.int t), some (.int (nI b))]) (st' := [.ref 2]) d_133_24 (fun _ => rfl) ?_
        refine cr_nx (pc' := 26) (al' := [some (.ref 2), some (.int (nI k)), some (.int t), some (.int (nI b))]) (st' := [.int t, .ref 2]) d_133_25 (fun _ => rfl) ?_
        refine cr_pv (b := 2) (as := [.int t]) (al0 := [some (.ref 2), some (.int t)]) (r := []) d_133_26 cw_133 cm_11_137 cz_126 rfl rfl (hS.i (a := 2) (by decide) (by decide)) (by rw [cw_126]; exact (hS.s (a := 2) (by decide) (by decide) rfl)) (by rw [cw_126]; decide) rfl (Nat.le_of_ble_eq_true rfl) (k_has hS hF hH hO) ?_
        show CR _ _ 29 [some (.ref 2), some (.int (nI k)), some (.int t), some (.int (nI b))] [.int (bI (hasP (wK W) t))] S G B J R _
        refine cr_bne (t := 39) d_133_29 (by decide) (fun c29 => ?_) (fun c29 => ?_)
        · exact absurd c29 hh
        · refine cr_nx (pc' := 33) (al' := [some (.ref 2), some (.int (nI k)), some (.int t), some (.int (nI b))]) (st' := [.ref 2]) d_133_32 (fun _ => rfl) ?_
          refine cr_nx (pc' := 35) (al' := [some (.ref 2), some (.int (nI k)), some (.int t), some (.int (nI b))]) (st' := [.int (-2), .ref 2]) d_133_33 (fun _ => rfl) ?_
          refine cr_pv (b := 2) (as := [.int (-2)]) (al0 := [some (.ref 2), some (.int (-2))]) (r := []) d_133_35 cw_133 cm_11_104 cz_119 rfl rfl (hS.i (a := 2) (by decide) (by decide)) (by rw [cw_119]; exact (hS.s (a := 2) (by decide) (by decide) rfl)) (by rw [cw_119]; decide) rfl (Nat.le_of_ble_eq_true rfl) (k_refuse (e := 2) hS hF (by decide) (by decide)) ?_
          show CR _ _ 38 [some (.ref 2), some (.int (nI k)), some (.int t), some (.int (nI b))] [.int (-2)] S (up2 G 2 16 (.int (-2))) (upr B 145 (upd (B 145) 2 (B 145 2 + nI 1))) J R _
          exact cr_ri d_133_38 cx_133 rfl ⟨rfl, (hW.rf (by decide)).mo⟩
      · omega
theorem r_extend_b {g : Nat → Int32} {A : Nat → Nat → Int32} {n : Nat} {W : WS} (hW : WR n g A W) (hO : CoOk (wK W)) {k : Nat} (hk6 : k < 6) {t : Int32} (hh : ¬ hasP (wK W) t) {b : Nat} (hb : b < 512) : RR 80 239 0 [some (.ref 146), some (.int (nI k)), some (.int t), some (.int (nI b)), none, none] [] g A (fun r__ g' A' => r__ = some (.int (-2)) ∧ WR (n + 1) g' A' (refW W (-2) 2)) := by
  refine rr_nx (pc' := 1) (al' := [some (.ref 146), some (.int (nI k)), some (.int t), some (.int (nI b)), none, none]) (st' := [.int (nI k)]) d_239_0 (fun _ => rfl) ?_
  refine rr_ps (as := [.int (nI k)]) (al0 := [some (.int (nI k))]) (r := []) d_239_1 mo_239 ml_117 mz_185 rfl rfl rfl (Nat.le_of_ble_eq_true rfl) (s_isSlot (nI k)) ?_
  show RR _ _ 4 [some (.ref 146), some (.int (nI k)), some (.int t), some (.int (nI b)), none, none] [.int (bI (nI 0 ≤ (nI k) ∧ (nI k) ≤ nI 5))] g A _
  refine rr_beq (t := 18) d_239_4 (by decide) (fun c4 => ?_) (fun c4 => ?_)
  · exact absurd ((in_r (m := 5) (by decide)).mpr ((in_j (by omega)).mpr hk6)) c4
  · refine rr_nx (pc' := 8) (al' := [some (.ref 146), some (.int (nI k)), some (.int t), some (.int (nI b)), none, none]) (st' := [.int (nI b)]) d_239_7 (fun _ => rfl) ?_
    refine rn_ic (v := 0) d_239_8 (by decide) ?_
    refine rn_sp (v := 511) d_239_9 (by decide) ?_
    refine rr_ps (as := [.int (nI b), .int (nI 0), .int (nI 511)]) (al0 := [some (.int (nI b)), some (.int (nI 0)), some (.int (nI 511))]) (r := []) d_239_12 mo_239 ml_106 mz_179 rfl rfl rfl (Nat.le_of_ble_eq_true rfl) (s_lies (nI b) (nI 0) (nI 511)) ?_
    show RR _ _ 15 [some (.ref 146), some (.int (nI k)), some (.int t), some (.int (nI b)), none, none] [.int (bI ((nI 0) ≤ (nI b) ∧ (nI b) ≤ (nI 511)))] g A _
    refine rr_bne (t := 24) d_239_15 (by decide) (fun c15 => ?_) (fun c15 => ?_)
    · refine rr_nx (pc' := 25) (al' := [some (.ref 146), some (.int (nI k)), some (.int t), some (.int (nI b)), none, none]) (st' := [.ref 146]) d_239_24 (fun _ => rfl) ?_
      refine rr_nx (pc' := 26) (al' := [some (.ref 146), some (.int (nI k)), some (.int t), some (.int (nI b)), none, none]) (st' := [.int t, .ref 146]) d_239_25 (fun _ => rfl) ?_
      refine rr_pv (as := [.int t]) (al0 := [some (.ref 146), some (.int t)]) (r := []) d_239_26 mo_239 ml_124 mz_184 rfl rfl rfl (Nat.le_of_ble_eq_true rfl) (s_isTable t) ?_
      show RR _ _ 29 [some (.ref 146), some (.int (nI k)), some (.int t), some (.int (nI b)), none, none] [.int (bI (isT A t))] g A _
      refine rr_bne (t := 39) d_239_29 (by decide) (fun c29 => ?_) (fun c29 => ?_)
      · exact absurd c29 (fun e_ => hh ((has_r hW hO).mp e_))
      · refine rr_nx (pc' := 33) (al' := [some (.ref 146), some (.int (nI k)), some (.int t), some (.int (nI b)), none, none]) (st' := [.ref 146]) d_239_32 (fun _ => rfl) ?_
        refine rr_nx (pc' := 35) (al' := [some (.ref 146), some (.int (nI k)), some (.int t), some (.int (nI b)), none, none]) (st' := [.int (-2), .ref 146]) d_239_33 (fun _ => rfl) ?_
        have hW1 := hW.q (g' := g) (A' := A) Gsm.rf Ksm.rf
        refine rr_pv (as := [.int (-2)]) (al0 := [some (.ref 146), some (.int (-2))]) (r := []) d_239_35 mo_239 ml_110 mz_180 rfl rfl rfl (Nat.le_of_ble_eq_true rfl) (s_refuses (e := 2) (by decide) (by decide)) ?_
        show RR _ _ 38 [some (.ref 146), some (.int (nI k)), some (.int t), some (.int (nI b)), none, none] [.int (-2)] (upd g 0 (-2)) (rf_u A 0 (upd (A 0) 2 (A 0 2 + nI 1))) _
        exact rr_ri d_239_38 mr_239 rfl ⟨rfl, (hW1.rf (by decide)).mo⟩
    · exact absurd (ia_natI (by decide) (show b ≤ 511 by omega)) c15
theorem T_extend {S : CS} {G : Nat → Nat → Value} {B : Nat → Nat → Int32} {J : Nat → Nat → Int64} {R : Nat → Nat → Option Nat} {g : Nat → Int32} {A : Nat → Nat → Int32} {n : Nat} {W : WS} (hC : WC n S G B R W) (hR : WR n g A W) (hn : n ≤ 10000) {t : Int32} {s : Int32} {u : Int32} : Tie n 133 239 [some (.ref 2), some (.int t), some (.int s), some (.int u)] [some (.ref 146), some (.int t), some (.int s), some (.int u), none, none] S G B J R g A W := by
  have hO := hC.2.2.2.1
  by_cases hx : inP t 6 ∧ inP u 512
  · obtain ⟨k, hk6, e_⟩ := in_n hx.1
    subst e_
    obtain ⟨b, hb, e_⟩ := in_n hx.2
    subst e_
    by_cases hh : hasP (wK W) s
    · obtain ⟨j, hj, e_, h1⟩ := has_n hh
      subst e_
      obtain ⟨⟨m, c⟩, htb⟩ : ∃ tb, tbK (wK W) j = tb := ⟨_, rfl⟩
      rw [htb] at h1
      by_cases hm3 : m ≤ 3
      · exact ⟨_, _, p_extend_y hC hk6 hj htb h1 hb hm3, r_extend_y hR hO hk6 hj htb h1 hb hm3 hn⟩
      · exact ⟨_, _, p_extend_c hC hk6 hj htb h1 hb hm3, r_extend_c hR hO hk6 hj htb h1 hb hm3⟩
    · exact ⟨_, _, p_extend_b hC hk6 hh hb, r_extend_b hR hO hk6 hh hb⟩
  · exact ⟨_, _, p_extend_a hC hx, r_extend_a hR hO hx⟩
theorem p_quotient_y {S : CS} {G : Nat → Nat → Value} {B : Nat → Nat → Int32} {J : Nat → Nat → Int64} {R : Nat → Nat → Option Nat} {n : Nat} {W : WS} (hW : WC n S G B R W) {k : Nat} (hk6 : k < 6) {j m : Nat} {c : Nat → Nat} (hj : j < 6) (htb : tbK (wK W) j = (m, c)) (h1 : 1 ≤ m) {b : Nat} (hb : b < 64) (hu : ¬ unV 0 m c = -1) (hN : Nrm m c b) : CR 80 134 0 [some (.ref 2), some (.int (nI k)), some (.int (nI j)), some (.int (nI b)), none] [] S G B J R (fun r__ S' G' B' J' R' => r__ = some (.int (nI (qtM m c b))) ∧ WC (n + 1) S' G' B' R' (chW W k (qtM m c b, qtN m c b))) := by
  have hS := hW.1.1
  have hF := hW.2.1
  have hO := hW.2.2.2.1
  obtain ⟨ta, ka, la, hH, hLk, hl2, hs3, hbd⟩ := hW.2.2.1
  obtain ⟨zt, hzt, ezt⟩ := (hH.2.1 j hj).2
  have ht := hH.ta hj
  have hsh := hH.2.2.2.2.2.2.1 j hj
  rw [show kH (wK W) (kD (wK W)) j = (m, c) from htb] at hsh
  have hok := tb_ok hO hj
  rw [htb] at hok
  have hn : G (ta j) 0 = .int (nI m) := hsh.1
  have hc : TabC B (ta j) m c := hsh.c hok
  have hl : Lat m c := hok.2
  have hm6 : m ≤ 6 := hok.1
  have hyes : hasP (wK W) (nI j) := (has_i hj).mpr (by rw [htb]; exact h1)
  have hq := qt_lat hm6 hl (un_uni hu) hN
  refine cr_nx (pc' := 1) (al' := [some (.ref 2), some (.int (nI k)), some (.int (nI j)), some (.int (nI b)), none]) (st' := [.int (nI k)]) d_134_0 (fun _ => rfl) ?_
  refine cr_ps (as := [.int (nI k)]) (al0 := [some (.int (nI k))]) (r := []) d_134_1 cw_134 cm_11_100 (by decide) cz_118 rfl rfl rfl (Nat.le_of_ble_eq_true rfl) (k_isPlace) ?_
  show CR _ _ 4 [some (.ref 2), some (.int (nI k)), some (.int (nI j)), some (.int (nI b)), none] [.int (bI (inP (nI k) 6))] S G B J R _
  refine cr_beq (t := 17) d_134_4 (by decide) (fun c4 => ?_) (fun c4 => ?_)
  · exact absurd ((in_j (by omega)).mpr hk6) c4
  · refine cr_nx (pc' := 8) (al' := [some (.ref 2), some (.int (nI k)), some (.int (nI j)), some (.int (nI b)), none]) (st' := [.int (nI b)]) d_134_7 (fun _ => rfl) ?_
    refine cn_zlt (t := 17) d_134_8 (by decide) (by first | omega | assumption | exact cu_36 (by omega) (cu_lt (by omega) (by omega))) (fun c8 => ?_) (fun c8 => ?_)
    · exact c8.elim
    · refine cr_nx (pc' := 12) (al' := [some (.ref 2), some (.int (nI k)), some (.int (nI j)), some (.int (nI b)), none]) (st' := [.int (nI b)]) d_134_11 (fun _ => rfl) ?_
      refine cn_bp (v := 63) d_134_12 (by decide) ?_
      refine cn_cle (t := 23) d_134_14 (by decide) (by first | omega | assumption | exact cu_36 (by omega) (cu_lt (by omega) (by omega))) (by first | omega | assumption | exact cu_36 (by omega) (cu_lt (by omega) (by omega))) (fun c14 => ?_) (fun c14 => ?_)
      · refine cr_nx (pc' := 24) (al' := [some (.ref 2), some (.int (nI k)), some (.int (nI j)), some (.int (nI b)), none]) (st' := [.ref 2]) d_134_23 (fun _ => rfl) ?_
        refine cr_nx (pc' := 25) (al' := [some (.ref 2), some (.int (nI k)), some (.int (nI j)), some (.int (nI b)), none]) (st' := [.int (nI j), .ref 2]) d_134_24 (fun _ => rfl) ?_
        refine cr_pv (b := 2) (as := [.int (nI j)]) (al0 := [some (.ref 2), some (.int (nI j))]) (r := []) d_134_25 cw_134 cm_11_137 cz_126 rfl rfl (hS.i (a := 2) (by decide) (by decide)) (by rw [cw_126]; exact (hS.s (a := 2) (by decide) (by decide) rfl)) (by rw [cw_126]; decide) rfl (Nat.le_of_ble_eq_true rfl) (k_has hS hF hH hO) ?_
        show CR _ _ 28 [some (.ref 2), some (.int (nI k)), some (.int (nI j)), some (.int (nI b)), none] [.int (bI (hasP (wK W) (nI j)))] S G B J R _
        refine cr_bne (t := 38) d_134_28 (by decide) (fun c28 => ?_) (fun c28 => ?_)
        · refine cr_nx (pc' := 39) (al' := [some (.ref 2), some (.int (nI k)), some (.int (nI j)), some (.int (nI b)), none]) (st' := [.ref 2]) d_134_38 (fun _ => rfl) ?_
          refine cr_gf (v := .ref 3) d_134_39 cw_134 cf_11_10 (hS.i (a := 2) (by decide) (by decide)) (hS.s (a := 2) (by decide) (by decide) rfl) (by decide) (fx_2_0 hF) ?_
          refine cr_gf (v := .ref 4) d_134_42 cw_134 cf_11_140 (hS.i (a := 3) (by decide) (by decide)) (hS.s (a := 3) (by decide) (by decide) rfl) (by decide) (fx_3_0 hF) ?_
          refine cr_nx (pc' := 46) (al' := [some (.ref 2), some (.int (nI k)), some (.int (nI j)), some (.int (nI b)), none]) (st' := [.int (nI j), .ref 4]) d_134_45 (fun _ => rfl) ?_
          refine cr_aa (a := 4) (v := .ref (ta j)) d_134_46 (hS.i (a := 4) (by decide) (by decide)) (by decide) (hS.s (a := 4) (by decide) (by decide) rfl) (by decide) (show j < 6 by first | omega | assumption | exact cu_36 (by omega) (cu_lt (by omega) (by omega))) (show va_rf _ = _ by rw [(hH.2.1 j hj).1]; rfl) ?_
          refine cr_nx (pc' := 49) (al' := [some (.ref 2), some (.int (nI k)), some (.int (nI j)), some (.int (nI b)), some (.ref (ta j))]) (st' := []) d_134_47 (fun _ => rfl) ?_
          refine cr_nx (pc' := 51) (al' := [some (.ref 2), some (.int (nI k)), some (.int (nI j)), some (.int (nI b)), some (.ref (ta j))]) (st' := [.ref (ta j)]) d_134_49 (fun _ => rfl) ?_
          refine cr_pv (b := (ta j)) (as := []) (al0 := [some (.ref (ta j))]) (r := []) d_134_51 cw_134 cm_11_193 cz_106 rfl rfl ht.1 (by rw [cw_106]; exact ht.2.2.1) (by rw [cw_106]; decide) rfl (Nat.le_of_ble_eq_true rfl) (k_unitElement ht hn hc) ?_
          show CR _ _ 54 [some (.ref 2), some (.int (nI k)), some (.int (nI j)), some (.int (nI b)), some (.ref (ta j))] [.int (unV 0 m c)] S G B J R _
          refine cr_nx (pc' := 55) (al' := [some (.ref 2), some (.int (nI k)), some (.int (nI j)), some (.int (nI b)), some (.ref (ta j))]) (st' := [.int (-1), .int (unV 0 m c)]) d_134_54 (fun _ => rfl) ?_
          refine cr_ceq (t := 67) d_134_55 (by decide) (fun c55 => ?_) (fun c55 => ?_)
          · exact absurd c55 hu
          · refine cr_nx (pc' := 60) (al' := [some (.ref 2), some (.int (nI k)), some (.int (nI j)), some (.int (nI b)), some (.ref (ta j))]) (st' := [.ref (ta j)]) d_134_58 (fun _ => rfl) ?_
            refine cr_nx (pc' := 61) (al' := [some (.ref 2), some (.int (nI k)), some (.int (nI j)), some (.int (nI b)), some (.ref (ta j))]) (st' := [.int (nI b), .ref (ta j)]) d_134_60 (fun _ => rfl) ?_
            refine cr_ps (as := [.ref (ta j), .int (nI b)]) (al0 := [some (.ref (ta j)), some (.int (nI b))]) (r := []) d_134_61 cw_134 cm_11_197 (by decide) cz_46 rfl rfl rfl (Nat.le_of_ble_eq_true rfl) (k_isNormal ht hn hc (by omega)) ?_
            show CR _ _ 64 [some (.ref 2), some (.int (nI k)), some (.int (nI j)), some (.int (nI b)), some (.ref (ta j))] [.int (bI (Nrm m c b))] S G B J R _
            refine cr_bne (t := 74) d_134_64 (by decide) (fun c64 => ?_) (fun c64 => ?_)
            · refine cr_nx (pc' := 75) (al' := [some (.ref 2), some (.int (nI k)), some (.int (nI j)), some (.int (nI b)), some (.ref (ta j))]) (st' := [.ref 2]) d_134_74 (fun _ => rfl) ?_
              refine cr_gf (v := .ref 86) d_134_75 cw_134 cf_11_38 (hS.i (a := 2) (by decide) (by decide)) (hS.s (a := 2) (by decide) (by decide) rfl) (by decide) (fx_2_6 hF) ?_
              refine cr_nx (pc' := 80) (al' := [some (.ref 2), some (.int (nI k)), some (.int (nI j)), some (.int (nI b)), some (.ref (ta j))]) (st' := [.ref (ta j), .ref 86]) d_134_78 (fun _ => rfl) ?_
              refine cr_nx (pc' := 81) (al' := [some (.ref 2), some (.int (nI k)), some (.int (nI j)), some (.int (nI b)), some (.ref (ta j))]) (st' := [.int (nI b), .ref (ta j), .ref 86]) d_134_80 (fun _ => rfl) ?_
              refine cr_cs (as := [.ref 86, .ref (ta j), .int (nI b)]) (al0 := [some (.ref 86), some (.ref (ta j)), some (.int (nI b)), none, none, none, none]) (r := []) d_134_81 cw_134 cm_11_203 (by decide) cz_53 rfl rfl rfl (cr_wk (Nat.le_of_ble_eq_true rfl) (k_makeQuotient ht hn hc (tb_86 hS hF) (by omega) hl (un_uni hu) hN)) (fun v1 S1 G1 B1 J1 R1 h1x => ?_)
              obtain ⟨q0_, q1_, q2_, q3_, q4_, w86, q9_, hw86⟩ := h1x
              obtain rfl := q0_
              obtain rfl := q1_.symm
              obtain rfl := q2_
              obtain rfl := q3_.symm
              obtain rfl := q4_.symm
              obtain rfl := q9_
              show CR _ _ 84 [some (.ref 2), some (.int (nI k)), some (.int (nI j)), some (.int (nI b)), some (.ref (ta j))] [] S (up2 G 86 0 (.int (nI (qtM m c b)))) (upr B 87 w86) J R _
              refine cr_nx (pc' := 85) (al' := [some (.ref 2), some (.int (nI k)), some (.int (nI j)), some (.int (nI b)), some (.ref (ta j))]) (st' := [.ref 2]) d_134_84 (fun _ => rfl) ?_
              refine cr_nx (pc' := 86) (al' := [some (.ref 2), some (.int (nI k)), some (.int (nI j)), some (.int (nI b)), some (.ref (ta j))]) (st' := [.int (nI k), .ref 2]) d_134_85 (fun _ => rfl) ?_
              refine cr_nx (pc' := 87) (al' := [some (.ref 2), some (.int (nI k)), some (.int (nI j)), some (.int (nI b)), some (.ref (ta j))]) (st' := [.ref 2, .int (nI k), .ref 2]) d_134_86 (fun _ => rfl) ?_
              refine cr_gf (v := .ref 86) d_134_87 cw_134 cf_11_38 (hS.i (a := 2) (by decide) (by decide)) (hS.s (a := 2) (by decide) (by decide) rfl) (by decide) (by simp [up2]; exact (fx_2_6 hF)) ?_
              refine cr_gf (v := .int (nI (qtM m c b))) d_134_90 cw_134 cf_11_112 (hS.i (a := 86) (by decide) (by decide)) (hS.s (a := 86) (by decide) (by decide) rfl) (by decide) (by simp [up2]) ?_
              have hW1 : WC n S (up2 G 86 0 (.int (nI (qtM m c b)))) (upr B 87 w86) R W := hW.q (FxG.ut hF) (Gfr.rf.u (by decide)) (Bfr.rf.u (by decide))
              refine cr_cv (b := 2) (as := [.int (nI k), .int (nI (qtM m c b))]) (al0 := [some (.ref 2), some (.int (nI k)), some (.int (nI (qtM m c b)))]) (r := []) d_134_93 cw_134 cm_11_115 cz_122 rfl rfl (hS.i (a := 2) (by decide) (by decide)) (by rw [cw_122]; exact (hS.s (a := 2) (by decide) (by decide) rfl)) (by rw [cw_122]; decide) rfl (cr_wk (Nat.le_of_ble_eq_true rfl) (k_change (tb := (qtM m c b, qtN m c b)) hW1 hk6 ⟨by have := hq.2.1; dsimp only; omega, hq.1⟩ up2_s (fun q hq => by rw [upr_s]; exact hw86 q hq))) (fun v1 S1 G1 B1 J1 R1 h1x => ?_)
              obtain ⟨q0_, hW2⟩ := h1x
              obtain rfl := q0_
              show CR _ _ 96 [some (.ref 2), some (.int (nI k)), some (.int (nI j)), some (.int (nI b)), some (.ref (ta j))] [.int (nI (qtM m c b))] S1 G1 B1 J1 R1 _
              exact cr_ri d_134_96 cx_134 rfl ⟨rfl, hW2.mo⟩
            · exact absurd hN c64
        · exact absurd hyes c28
      · omega
theorem r_quotient_y {g : Nat → Int32} {A : Nat → Nat → Int32} {n : Nat} {W : WS} (hW : WR n g A W) (hO : CoOk (wK W)) {k : Nat} (hk6 : k < 6) {j m : Nat} {c : Nat → Nat} (hj : j < 6) (htb : tbK (wK W) j = (m, c)) (h1 : 1 ≤ m) {b : Nat} (hb : b < 64) (hu : ¬ unV 0 m c = -1) (hN : Nrm m c b) (hn5 : n ≤ 10000) : RR 80 242 0 [some (.ref 146), some (.int (nI k)), some (.int (nI j)), some (.int (nI b)), none, none, none, none, none, none] [] g A (fun r__ g' A' => r__ = some (.int (nI (qtM m c b))) ∧ WR (n + 1) g' A' (chW W k (qtM m c b, qtN m c b))) := by
  have hsh := hW.1.1.1 j hj
  rw [show kH (wK W) (kD (wK W)) j = (m, c) from htb] at hsh
  have hok := tb_ok hO hj
  rw [htb] at hok
  have hk : A 1 (37 * j) = nI m := hsh.1
  have hl : Lat m c := hok.2
  have hm6 : m ≤ 6 := hok.1
  have hyes : isT A (nI j) := (has_r hW hO).mpr ((has_i hj).mpr (by rw [htb]; exact h1))
  have hq := qt_lat hm6 hl (un_uni hu) hN
  refine rr_nx (pc' := 1) (al' := [some (.ref 146), some (.int (nI k)), some (.int (nI j)), some (.int (nI b)), none, none, none, none, none, none]) (st' := [.int (nI k)]) d_242_0 (fun _ => rfl) ?_
  refine rr_ps (as := [.int (nI k)]) (al0 := [some (.int (nI k))]) (r := []) d_242_1 mo_242 ml_117 mz_185 rfl rfl rfl (Nat.le_of_ble_eq_true rfl) (s_isSlot (nI k)) ?_
  show RR _ _ 4 [some (.ref 146), some (.int (nI k)), some (.int (nI j)), some (.int (nI b)), none, none, none, none, none, none] [.int (bI (nI 0 ≤ (nI k) ∧ (nI k) ≤ nI 5))] g A _
  refine rr_beq (t := 17) d_242_4 (by decide) (fun c4 => ?_) (fun c4 => ?_)
  · exact absurd ((in_r (m := 5) (by decide)).mpr ((in_j (by omega)).mpr hk6)) c4
  · refine rr_nx (pc' := 8) (al' := [some (.ref 146), some (.int (nI k)), some (.int (nI j)), some (.int (nI b)), none, none, none, none, none, none]) (st' := [.int (nI b)]) d_242_7 (fun _ => rfl) ?_
    refine rn_ic (v := 0) d_242_8 (by decide) ?_
    refine rn_bp (v := 63) d_242_9 (by decide) ?_
    refine rr_ps (as := [.int (nI b), .int (nI 0), .int (nI 63)]) (al0 := [some (.int (nI b)), some (.int (nI 0)), some (.int (nI 63))]) (r := []) d_242_11 mo_242 ml_106 mz_179 rfl rfl rfl (Nat.le_of_ble_eq_true rfl) (s_lies (nI b) (nI 0) (nI 63)) ?_
    show RR _ _ 14 [some (.ref 146), some (.int (nI k)), some (.int (nI j)), some (.int (nI b)), none, none, none, none, none, none] [.int (bI ((nI 0) ≤ (nI b) ∧ (nI b) ≤ (nI 63)))] g A _
    refine rr_bne (t := 23) d_242_14 (by decide) (fun c14 => ?_) (fun c14 => ?_)
    · refine rr_nx (pc' := 24) (al' := [some (.ref 146), some (.int (nI k)), some (.int (nI j)), some (.int (nI b)), none, none, none, none, none, none]) (st' := [.ref 146]) d_242_23 (fun _ => rfl) ?_
      refine rr_nx (pc' := 25) (al' := [some (.ref 146), some (.int (nI k)), some (.int (nI j)), some (.int (nI b)), none, none, none, none, none, none]) (st' := [.int (nI j), .ref 146]) d_242_24 (fun _ => rfl) ?_
      refine rr_pv (as := [.int (nI j)]) (al0 := [some (.ref 146), some (.int (nI j))]) (r := []) d_242_25 mo_242 ml_124 mz_184 rfl rfl rfl (Nat.le_of_ble_eq_true rfl) (s_isTable (nI j)) ?_
      show RR _ _ 28 [some (.ref 146), some (.int (nI k)), some (.int (nI j)), some (.int (nI b)), none, none, none, none, none, none] [.int (bI (isT A (nI j)))] g A _
      refine rr_bne (t := 38) d_242_28 (by decide) (fun c28 => ?_) (fun c28 => ?_)
      · refine rr_nx (pc' := 39) (al' := [some (.ref 146), some (.int (nI k)), some (.int (nI j)), some (.int (nI b)), none, none, none, none, none, none]) (st' := [.ref 146]) d_242_38 (fun _ => rfl) ?_
        refine rr_nx (pc' := 40) (al' := [some (.ref 146), some (.int (nI k)), some (.int (nI j)), some (.int (nI b)), none, none, none, none, none, none]) (st' := [.int (nI j), .ref 146]) d_242_39 (fun _ => rfl) ?_
        refine rr_pv (as := [.int (nI j)]) (al0 := [some (.ref 146), some (.int (nI j)), none]) (r := []) d_242_40 mo_242 ml_248 mz_208 rfl rfl rfl (Nat.le_of_ble_eq_true rfl) (s_lays (n := m) hj hm6 hk) ?_
        obtain ⟨wl40, hwl40⟩ : ∃ w_, w_ = rf_f (fun q => A 1 (37 * j + 1 + q)) (A 4) (m * m) := ⟨_, rfl⟩
        rw [← hwl40]
        show RR _ _ 43 [some (.ref 146), some (.int (nI k)), some (.int (nI j)), some (.int (nI b)), none, none, none, none, none, none] [] (upd g 6 (nI m)) (rf_u A 4 wl40) _
        have hcu := cur_l (g := g) hsh hm6 hl hwl40
        refine rr_nx (pc' := 44) (al' := [some (.ref 146), some (.int (nI k)), some (.int (nI j)), some (.int (nI b)), none, none, none, none, none, none]) (st' := [.ref 146]) d_242_43 (fun _ => rfl) ?_
        refine rn_ic (v := 0) d_242_44 (by decide) ?_
        refine rr_pv (as := [.int (nI 0)]) (al0 := [some (.ref 146), some (.int (nI 0)), none, none, none]) (r := []) d_242_45 mo_242 ml_223 mz_212 rfl rfl rfl (Nat.le_of_ble_eq_true rfl) (s_unitOf hcu (by omega)) ?_
        show RR _ _ 48 [some (.ref 146), some (.int (nI k)), some (.int (nI j)), some (.int (nI b)), none, none, none, none, none, none] [.int (unV 0 m c)] (upd g 6 (nI m)) (rf_u A 4 wl40) _
        refine rr_nx (pc' := 49) (al' := [some (.ref 146), some (.int (nI k)), some (.int (nI j)), some (.int (nI b)), none, none, none, none, none, none]) (st' := [.int (-1), .int (unV 0 m c)]) d_242_48 (fun _ => rfl) ?_
        refine rr_ceq (t := 60) d_242_49 (by decide) (fun c49 => ?_) (fun c49 => ?_)
        · exact absurd c49 hu
        · refine rr_nx (pc' := 53) (al' := [some (.ref 146), some (.int (nI k)), some (.int (nI j)), some (.int (nI b)), none, none, none, none, none, none]) (st' := [.ref 146]) d_242_52 (fun _ => rfl) ?_
          refine rr_nx (pc' := 54) (al' := [some (.ref 146), some (.int (nI k)), some (.int (nI j)), some (.int (nI b)), none, none, none, none, none, none]) (st' := [.int (nI b), .ref 146]) d_242_53 (fun _ => rfl) ?_
          refine rr_cv (as := [.int (nI b)]) (al0 := [some (.ref 146), some (.int (nI b)), none, none, none, none]) (r := []) d_242_54 mo_242 ml_295 mz_243 rfl rfl rfl (rr_wk (Nat.le_of_ble_eq_true rfl) (s_isNormal hcu hl (un_uni hu) (by omega))) (fun v1 g1 A1 h1x => ?_)
          obtain ⟨q0_, q1_, w14, q2_, hw14⟩ := h1x
          obtain rfl := q0_
          obtain rfl := q1_
          obtain rfl := q2_
          show RR _ _ 57 [some (.ref 146), some (.int (nI k)), some (.int (nI j)), some (.int (nI b)), none, none, none, none, none, none] [.int (bI (Nrm m c b))] (upd g 6 (nI m)) (rf_u (rf_u A 4 wl40) 14 w14) _
          refine rr_bne (t := 67) d_242_57 (by decide) (fun c57 => ?_) (fun c57 => ?_)
          · refine rr_dr (al1 := [some (.ref 146), some (.int (nI k)), some (.int (nI j)), some (.int (nI b)), none, none, none, none, none, none]) (le_s (le_s (le_s (le_s (le_s (le_s (le_s (le_s (le_s (le_s (le_n))))))))))) ?_
            refine rr_wk (by decide) (s_quotient_67 (hcu.up (j := 14) (by decide)) hl (un_uni hu) hN (fun x hx => by rw [rf_u_s]; exact hw14 hN x hx) (fun w5 hw5 => ?_))
            show RR _ _ 259 [some (.ref 146), some (.int (nI k)), some (.int (nI j)), some (.int (nI b)), none, none, none, none, none, none] [] (upd (upd g 6 (nI m)) 8 (nI (qtM m c b))) (rf_u (rf_u (rf_u A 4 wl40) 14 w14) 5 w5) _
            refine rr_nx (pc' := 260) (al' := [some (.ref 146), some (.int (nI k)), some (.int (nI j)), some (.int (nI b)), none, none, none, none, none, none]) (st' := [.ref 146]) d_242_259 (fun _ => rfl) ?_
            refine rr_nx (pc' := 261) (al' := [some (.ref 146), some (.int (nI k)), some (.int (nI j)), some (.int (nI b)), none, none, none, none, none, none]) (st' := [.int (nI k), .ref 146]) d_242_260 (fun _ => rfl) ?_
            have hW1 := hW.q (g' := (upd (upd g 6 (nI m)) 8 (nI (qtM m c b)))) (A' := (rf_u (rf_u (rf_u A 4 wl40) 14 w14) 5 w5)) ((Gsm.rf.u rfl).u rfl) (((Ksm.rf.u rfl).u rfl).u rfl)
            refine rr_cv (as := [.int (nI k)]) (al0 := [some (.ref 146), some (.int (nI k)), none, none, none]) (r := []) d_242_261 mo_242 ml_257 mz_224 rfl rfl rfl (rr_wk (Nat.le_of_ble_eq_true rfl) (s_becomes (m := qtM m c b) (c := qtN m c b) hW1.1.1 hO.1 hk6 (by have := hq.2.1; omega) (by rfl) (fun q hq => by rw [rf_u_s]; exact hw5 q hq))) (fun v1 g1 A1 h1x => ?_)
            obtain ⟨q0_, q1_, f1, q2_, hH1, hf1⟩ := h1x
            obtain rfl := q0_
            obtain rfl := q1_
            obtain rfl := q2_
            show RR _ _ 264 [some (.ref 146), some (.int (nI k)), some (.int (nI j)), some (.int (nI b)), none, none, none, none, none, none] [] (upd (upd g 6 (nI m)) 8 (nI (qtM m c b))) (rf_u (rf_u (rf_u (rf_u A 4 wl40) 14 w14) 5 w5) 1 f1) _
            refine rr_nx (pc' := 265) (al' := [some (.ref 146), some (.int (nI k)), some (.int (nI j)), some (.int (nI b)), none, none, none, none, none, none]) (st' := [.ref 146]) d_242_264 (fun _ => rfl) ?_
            refine rr_nx (pc' := 266) (al' := [some (.ref 146), some (.int (nI k)), some (.int (nI j)), some (.int (nI b)), none, none, none, none, none, none]) (st' := [.ref 146, .ref 146]) d_242_265 (fun _ => rfl) ?_
            refine rr_gf (v := .int (nI (qtM m c b))) d_242_266 mo_242 fl_134 rfl ?_
            refine rr_pv (as := [.int (nI (qtM m c b))]) (al0 := [some (.ref 146), some (.int (nI (qtM m c b)))]) (r := []) d_242_269 mo_242 ml_114 mz_181 rfl rfl rfl (Nat.le_of_ble_eq_true rfl) (s_good _) ?_
            show RR _ _ 272 [some (.ref 146), some (.int (nI k)), some (.int (nI j)), some (.int (nI b)), none, none, none, none, none, none] [.int (nI (qtM m c b))] (upd (upd (upd (upd g 6 (nI m)) 8 (nI (qtM m c b))) 0 (nI 0)) 1 ((upd (upd g 6 (nI m)) 8 (nI (qtM m c b))) 1 + nI 1)) (rf_u (rf_u (rf_u (rf_u A 4 wl40) 14 w14) 5 w5) 1 f1) _
            exact rr_ri d_242_272 mr_242 rfl ⟨rfl, hW1.ch (by omega) hH1 hf1 rfl hO⟩
          · exact absurd hN c57
      · exact absurd hyes c28
    · exact absurd (ia_natI (by decide) (show b ≤ 63 by omega)) c14
theorem p_quotient_c {S : CS} {G : Nat → Nat → Value} {B : Nat → Nat → Int32} {J : Nat → Nat → Int64} {R : Nat → Nat → Option Nat} {n : Nat} {W : WS} (hW : WC n S G B R W) {k : Nat} (hk6 : k < 6) {j m : Nat} {c : Nat → Nat} (hj : j < 6) (htb : tbK (wK W) j = (m, c)) (h1 : 1 ≤ m) {b : Nat} (hb : b < 64) (hu : unV 0 m c = -1) : CR 80 134 0 [some (.ref 2), some (.int (nI k)), some (.int (nI j)), some (.int (nI b)), none] [] S G B J R (fun r__ S' G' B' J' R' => r__ = some (.int (-3)) ∧ WC (n + 1) S' G' B' R' (refW W (-3) 3)) := by
  have hS := hW.1.1
  have hF := hW.2.1
  have hO := hW.2.2.2.1
  obtain ⟨ta, ka, la, hH, hLk, hl2, hs3, hbd⟩ := hW.2.2.1
  obtain ⟨zt, hzt, ezt⟩ := (hH.2.1 j hj).2
  have ht := hH.ta hj
  have hsh := hH.2.2.2.2.2.2.1 j hj
  rw [show kH (wK W) (kD (wK W)) j = (m, c) from htb] at hsh
  have hok := tb_ok hO hj
  rw [htb] at hok
  have hn : G (ta j) 0 = .int (nI m) := hsh.1
  have hc : TabC B (ta j) m c := hsh.c hok
  have hl : Lat m c := hok.2
  have hm6 : m ≤ 6 := hok.1
  have hyes : hasP (wK W) (nI j) := (has_i hj).mpr (by rw [htb]; exact h1)
  refine cr_nx (pc' := 1) (al' := [some (.ref 2), some (.int (nI k)), some (.int (nI j)), some (.int (nI b)), none]) (st' := [.int (nI k)]) d_134_0 (fun _ => rfl) ?_
  refine cr_ps (as := [.int (nI k)]) (al0 := [some (.int (nI k))]) (r := []) d_134_1 cw_134 cm_11_100 (by decide) cz_118 rfl rfl rfl (Nat.le_of_ble_eq_true rfl) (k_isPlace) ?_
  show CR _ _ 4 [some (.ref 2), some (.int (nI k)), some (.int (nI j)), some (.int (nI b)), none] [.int (bI (inP (nI k) 6))] S G B J R _
  refine cr_beq (t := 17) d_134_4 (by decide) (fun c4 => ?_) (fun c4 => ?_)
  · exact absurd ((in_j (by omega)).mpr hk6) c4
  · refine cr_nx (pc' := 8) (al' := [some (.ref 2), some (.int (nI k)), some (.int (nI j)), some (.int (nI b)), none]) (st' := [.int (nI b)]) d_134_7 (fun _ => rfl) ?_
    refine cn_zlt (t := 17) d_134_8 (by decide) (by first | omega | assumption | exact cu_36 (by omega) (cu_lt (by omega) (by omega))) (fun c8 => ?_) (fun c8 => ?_)
    · exact c8.elim
    · refine cr_nx (pc' := 12) (al' := [some (.ref 2), some (.int (nI k)), some (.int (nI j)), some (.int (nI b)), none]) (st' := [.int (nI b)]) d_134_11 (fun _ => rfl) ?_
      refine cn_bp (v := 63) d_134_12 (by decide) ?_
      refine cn_cle (t := 23) d_134_14 (by decide) (by first | omega | assumption | exact cu_36 (by omega) (cu_lt (by omega) (by omega))) (by first | omega | assumption | exact cu_36 (by omega) (cu_lt (by omega) (by omega))) (fun c14 => ?_) (fun c14 => ?_)
      · refine cr_nx (pc' := 24) (al' := [some (.ref 2), some (.int (nI k)), some (.int (nI j)), some (.int (nI b)), none]) (st' := [.ref 2]) d_134_23 (fun _ => rfl) ?_
        refine cr_nx (pc' := 25) (al' := [some (.ref 2), some (.int (nI k)), some (.int (nI j)), some (.int (nI b)), none]) (st' := [.int (nI j), .ref 2]) d_134_24 (fun _ => rfl) ?_
        refine cr_pv (b := 2) (as := [.int (nI j)]) (al0 := [some (.ref 2), some (.int (nI j))]) (r := []) d_134_25 cw_134 cm_11_137 cz_126 rfl rfl (hS.i (a := 2) (by decide) (by decide)) (by rw [cw_126]; exact (hS.s (a := 2) (by decide) (by decide) rfl)) (by rw [cw_126]; decide) rfl (Nat.le_of_ble_eq_true rfl) (k_has hS hF hH hO) ?_
        show CR _ _ 28 [some (.ref 2), some (.int (nI k)), some (.int (nI j)), some (.int (nI b)), none] [.int (bI (hasP (wK W) (nI j)))] S G B J R _
        refine cr_bne (t := 38) d_134_28 (by decide) (fun c28 => ?_) (fun c28 => ?_)
        · refine cr_nx (pc' := 39) (al' := [some (.ref 2), some (.int (nI k)), some (.int (nI j)), some (.int (nI b)), none]) (st' := [.ref 2]) d_134_38 (fun _ => rfl) ?_
          refine cr_gf (v := .ref 3) d_134_39 cw_134 cf_11_10 (hS.i (a := 2) (by decide) (by decide)) (hS.s (a := 2) (by decide) (by decide) rfl) (by decide) (fx_2_0 hF) ?_
          refine cr_gf (v := .ref 4) d_134_42 cw_134 cf_11_140 (hS.i (a := 3) (by decide) (by decide)) (hS.s (a := 3) (by decide) (by decide) rfl) (by decide) (fx_3_0 hF) ?_
          refine cr_nx (pc' := 46) (al' := [some (.ref 2), some (.int (nI k)), some (.int (nI j)), some (.int (nI b)), none]) (st' := [.int (nI j), .ref 4]) d_134_45 (fun _ => rfl) ?_
          refine cr_aa (a := 4) (v := .ref (ta j)) d_134_46 (hS.i (a := 4) (by decide) (by decide)) (by decide) (hS.s (a := 4) (by decide) (by decide) rfl) (by decide) (show j < 6 by first | omega | assumption | exact cu_36 (by omega) (cu_lt (by omega) (by omega))) (show va_rf _ = _ by rw [(hH.2.1 j hj).1]; rfl) ?_
          refine cr_nx (pc' := 49) (al' := [some (.ref 2), some (.int (nI k)), some (.int (nI j)), some (.int (nI b)), some (.ref (ta j))]) (st' := []) d_134_47 (fun _ => rfl) ?_
          refine cr_nx (pc' := 51) (al' := [some (.ref 2), some (.int (nI k)), some (.int (nI j)), some (.int (nI b)), some (.ref (ta j))]) (st' := [.ref (ta j)]) d_134_49 (fun _ => rfl) ?_
          refine cr_pv (b := (ta j)) (as := []) (al0 := [some (.ref (ta j))]) (r := []) d_134_51 cw_134 cm_11_193 cz_106 rfl rfl ht.1 (by rw [cw_106]; exact ht.2.2.1) (by rw [cw_106]; decide) rfl (Nat.le_of_ble_eq_true rfl) (k_unitElement ht hn hc) ?_
          show CR _ _ 54 [some (.ref 2), some (.int (nI k)), some (.int (nI j)), some (.int (nI b)), some (.ref (ta j))] [.int (unV 0 m c)] S G B J R _
          refine cr_nx (pc' := 55) (al' := [some (.ref 2), some (.int (nI k)), some (.int (nI j)), some (.int (nI b)), some (.ref (ta j))]) (st' := [.int (-1), .int (unV 0 m c)]) d_134_54 (fun _ => rfl) ?_
          refine cr_ceq (t := 67) d_134_55 (by decide) (fun c55 => ?_) (fun c55 => ?_)
          · refine cr_nx (pc' := 68) (al' := [some (.ref 2), some (.int (nI k)), some (.int (nI j)), some (.int (nI b)), some (.ref (ta j))]) (st' := [.ref 2]) d_134_67 (fun _ => rfl) ?_
            refine cr_nx (pc' := 70) (al' := [some (.ref 2), some (.int (nI k)), some (.int (nI j)), some (.int (nI b)), some (.ref (ta j))]) (st' := [.int (-3), .ref 2]) d_134_68 (fun _ => rfl) ?_
            refine cr_pv (b := 2) (as := [.int (-3)]) (al0 := [some (.ref 2), some (.int (-3))]) (r := []) d_134_70 cw_134 cm_11_104 cz_119 rfl rfl (hS.i (a := 2) (by decide) (by decide)) (by rw [cw_119]; exact (hS.s (a := 2) (by decide) (by decide) rfl)) (by rw [cw_119]; decide) rfl (Nat.le_of_ble_eq_true rfl) (k_refuse (e := 3) hS hF (by decide) (by decide)) ?_
            show CR _ _ 73 [some (.ref 2), some (.int (nI k)), some (.int (nI j)), some (.int (nI b)), some (.ref (ta j))] [.int (-3)] S (up2 G 2 16 (.int (-3))) (upr B 145 (upd (B 145) 3 (B 145 3 + nI 1))) J R _
            exact cr_ri d_134_73 cx_134 rfl ⟨rfl, (hW.rf (by decide)).mo⟩
          · exact absurd hu c55
        · exact absurd hyes c28
      · omega
theorem r_quotient_c {g : Nat → Int32} {A : Nat → Nat → Int32} {n : Nat} {W : WS} (hW : WR n g A W) (hO : CoOk (wK W)) {k : Nat} (hk6 : k < 6) {j m : Nat} {c : Nat → Nat} (hj : j < 6) (htb : tbK (wK W) j = (m, c)) (h1 : 1 ≤ m) {b : Nat} (hb : b < 64) (hu : unV 0 m c = -1) : RR 80 242 0 [some (.ref 146), some (.int (nI k)), some (.int (nI j)), some (.int (nI b)), none, none, none, none, none, none] [] g A (fun r__ g' A' => r__ = some (.int (-3)) ∧ WR (n + 1) g' A' (refW W (-3) 3)) := by
  have hsh := hW.1.1.1 j hj
  rw [show kH (wK W) (kD (wK W)) j = (m, c) from htb] at hsh
  have hok := tb_ok hO hj
  rw [htb] at hok
  have hk : A 1 (37 * j) = nI m := hsh.1
  have hl : Lat m c := hok.2
  have hm6 : m ≤ 6 := hok.1
  have hyes : isT A (nI j) := (has_r hW hO).mpr ((has_i hj).mpr (by rw [htb]; exact h1))
  refine rr_nx (pc' := 1) (al' := [some (.ref 146), some (.int (nI k)), some (.int (nI j)), some (.int (nI b)), none, none, none, none, none, none]) (st' := [.int (nI k)]) d_242_0 (fun _ => rfl) ?_
  refine rr_ps (as := [.int (nI k)]) (al0 := [some (.int (nI k))]) (r := []) d_242_1 mo_242 ml_117 mz_185 rfl rfl rfl (Nat.le_of_ble_eq_true rfl) (s_isSlot (nI k)) ?_
  show RR _ _ 4 [some (.ref 146), some (.int (nI k)), some (.int (nI j)), some (.int (nI b)), none, none, none, none, none, none] [.int (bI (nI 0 ≤ (nI k) ∧ (nI k) ≤ nI 5))] g A _
  refine rr_beq (t := 17) d_242_4 (by decide) (fun c4 => ?_) (fun c4 => ?_)
  · exact absurd ((in_r (m := 5) (by decide)).mpr ((in_j (by omega)).mpr hk6)) c4
  · refine rr_nx (pc' := 8) (al' := [some (.ref 146), some (.int (nI k)), some (.int (nI j)), some (.int (nI b)), none, none, none, none, none, none]) (st' := [.int (nI b)]) d_242_7 (fun _ => rfl) ?_
    refine rn_ic (v := 0) d_242_8 (by decide) ?_
    refine rn_bp (v := 63) d_242_9 (by decide) ?_
    refine rr_ps (as := [.int (nI b), .int (nI 0), .int (nI 63)]) (al0 := [some (.int (nI b)), some (.int (nI 0)), some (.int (nI 63))]) (r := []) d_242_11 mo_242 ml_106 mz_179 rfl rfl rfl (Nat.le_of_ble_eq_true rfl) (s_lies (nI b) (nI 0) (nI 63)) ?_
    show RR _ _ 14 [some (.ref 146), some (.int (nI k)), some (.int (nI j)), some (.int (nI b)), none, none, none, none, none, none] [.int (bI ((nI 0) ≤ (nI b) ∧ (nI b) ≤ (nI 63)))] g A _
    refine rr_bne (t := 23) d_242_14 (by decide) (fun c14 => ?_) (fun c14 => ?_)
    · refine rr_nx (pc' := 24) (al' := [some (.ref 146), some (.int (nI k)), some (.int (nI j)), some (.int (nI b)), none, none, none, none, none, none]) (st' := [.ref 146]) d_242_23 (fun _ => rfl) ?_
      refine rr_nx (pc' := 25) (al' := [some (.ref 146), some (.int (nI k)), some (.int (nI j)), some (.int (nI b)), none, none, none, none, none, none]) (st' := [.int (nI j), .ref 146]) d_242_24 (fun _ => rfl) ?_
      refine rr_pv (as := [.int (nI j)]) (al0 := [some (.ref 146), some (.int (nI j))]) (r := []) d_242_25 mo_242 ml_124 mz_184 rfl rfl rfl (Nat.le_of_ble_eq_true rfl) (s_isTable (nI j)) ?_
      show RR _ _ 28 [some (.ref 146), some (.int (nI k)), some (.int (nI j)), some (.int (nI b)), none, none, none, none, none, none] [.int (bI (isT A (nI j)))] g A _
      refine rr_bne (t := 38) d_242_28 (by decide) (fun c28 => ?_) (fun c28 => ?_)
      · refine rr_nx (pc' := 39) (al' := [some (.ref 146), some (.int (nI k)), some (.int (nI j)), some (.int (nI b)), none, none, none, none, none, none]) (st' := [.ref 146]) d_242_38 (fun _ => rfl) ?_
        refine rr_nx (pc' := 40) (al' := [some (.ref 146), some (.int (nI k)), some (.int (nI j)), some (.int (nI b)), none, none, none, none, none, none]) (st' := [.int (nI j), .ref 146]) d_242_39 (fun _ => rfl) ?_
        refine rr_pv (as := [.int (nI j)]) (al0 := [some (.ref 146), some (.int (nI j)), none]) (r := []) d_242_40 mo_242 ml_248 mz_208 rfl rfl rfl (Nat.le_of_ble_eq_true rfl) (s_lays (n := m) hj hm6 hk) ?_
        obtain ⟨wl40, hwl40⟩ : ∃ w_, w_ = rf_f (fun q => A 1 (37 * j + 1 + q)) (A 4) (m * m) := ⟨_, rfl⟩
        rw [← hwl40]
        show RR _ _ 43 [some (.ref 146), some (.int (nI k)), some (.int (nI j)), some (.int (nI b)), none, none, none, none, none, none] [] (upd g 6 (nI m)) (rf_u A 4 wl40) _
        have hcu := cur_l (g := g) hsh hm6 hl hwl40
        refine rr_nx (pc' := 44) (al' := [some (.ref 146), some (.int (nI k)), some (.int (nI j)), some (.int (nI b)), none, none, none, none, none, none]) (st' := [.ref 146]) d_242_43 (fun _ => rfl) ?_
        refine rn_ic (v := 0) d_242_44 (by decide) ?_
        refine rr_pv (as := [.int (nI 0)]) (al0 := [some (.ref 146), some (.int (nI 0)), none, none, none]) (r := []) d_242_45 mo_242 ml_223 mz_212 rfl rfl rfl (Nat.le_of_ble_eq_true rfl) (s_unitOf hcu (by omega)) ?_
        show RR _ _ 48 [some (.ref 146), some (.int (nI k)), some (.int (nI j)), some (.int (nI b)), none, none, none, none, none, none] [.int (unV 0 m c)] (upd g 6 (nI m)) (rf_u A 4 wl40) _
        refine rr_nx (pc' := 49) (al' := [some (.ref 146), some (.int (nI k)), some (.int (nI j)), some (.int (nI b)), none, none, none, none, none, none]) (st' := [.int (-1), .int (unV 0 m c)]) d_242_48 (fun _ => rfl) ?_
        refine rr_ceq (t := 60) d_242_49 (by decide) (fun c49 => ?_) (fun c49 => ?_)
        · refine rr_nx (pc' := 61) (al' := [some (.ref 146), some (.int (nI k)), some (.int (nI j)), some (.int (nI b)), none, none, none, none, none, none]) (st' := [.ref 146]) d_242_60 (fun _ => rfl) ?_
          refine rr_nx (pc' := 63) (al' := [some (.ref 146), some (.int (nI k)), some (.int (nI j)), some (.int (nI b)), none, none, none, none, none, none]) (st' := [.int (-3), .ref 146]) d_242_61 (fun _ => rfl) ?_
          have hW1 := hW.q (g' := (upd g 6 (nI m))) (A' := (rf_u A 4 wl40)) (Gsm.rf.u rfl) (Ksm.rf.u rfl)
          refine rr_pv (as := [.int (-3)]) (al0 := [some (.ref 146), some (.int (-3))]) (r := []) d_242_63 mo_242 ml_110 mz_180 rfl rfl rfl (Nat.le_of_ble_eq_true rfl) (s_refuses (e := 3) (by decide) (by decide)) ?_
          show RR _ _ 66 [some (.ref 146), some (.int (nI k)), some (.int (nI j)), some (.int (nI b)), none, none, none, none, none, none] [.int (-3)] (upd (upd g 6 (nI m)) 0 (-3)) (rf_u (rf_u A 4 wl40) 0 (upd ((rf_u A 4 wl40) 0) 3 ((rf_u A 4 wl40) 0 3 + nI 1))) _
          exact rr_ri d_242_66 mr_242 rfl ⟨rfl, (hW1.rf (by decide)).mo⟩
        · exact absurd hu c49
      · exact absurd hyes c28
    · exact absurd (ia_natI (by decide) (show b ≤ 63 by omega)) c14
theorem p_quotient_d {S : CS} {G : Nat → Nat → Value} {B : Nat → Nat → Int32} {J : Nat → Nat → Int64} {R : Nat → Nat → Option Nat} {n : Nat} {W : WS} (hW : WC n S G B R W) {k : Nat} (hk6 : k < 6) {j m : Nat} {c : Nat → Nat} (hj : j < 6) (htb : tbK (wK W) j = (m, c)) (h1 : 1 ≤ m) {b : Nat} (hb : b < 64) (hu : ¬ unV 0 m c = -1) (hN : ¬ Nrm m c b) : CR 80 134 0 [some (.ref 2), some (.int (nI k)), some (.int (nI j)), some (.int (nI b)), none] [] S G B J R (fun r__ S' G' B' J' R' => r__ = some (.int (-3)) ∧ WC (n + 1) S' G' B' R' (refW W (-3) 3)) := by
  have hS := hW.1.1
  have hF := hW.2.1
  have hO := hW.2.2.2.1
  obtain ⟨ta, ka, la, hH, hLk, hl2, hs3, hbd⟩ := hW.2.2.1
  obtain ⟨zt, hzt, ezt⟩ := (hH.2.1 j hj).2
  have ht := hH.ta hj
  have hsh := hH.2.2.2.2.2.2.1 j hj
  rw [show kH (wK W) (kD (wK W)) j = (m, c) from htb] at hsh
  have hok := tb_ok hO hj
  rw [htb] at hok
  have hn : G (ta j) 0 = .int (nI m) := hsh.1
  have hc : TabC B (ta j) m c := hsh.c hok
  have hl : Lat m c := hok.2
  have hm6 : m ≤ 6 := hok.1
  have hyes : hasP (wK W) (nI j) := (has_i hj).mpr (by rw [htb]; exact h1)
  refine cr_nx (pc' := 1) (al' := [some (.ref 2), some (.int (nI k)), some (.int (nI j)), some (.int (nI b)), none]) (st' := [.int (nI k)]) d_134_0 (fun _ => rfl) ?_
  refine cr_ps (as := [.int (nI k)]) (al0 := [some (.int (nI k))]) (r := []) d_134_1 cw_134 cm_11_100 (by decide) cz_118 rfl rfl rfl (Nat.le_of_ble_eq_true rfl) (k_isPlace) ?_
  show CR _ _ 4 [some (.ref 2), some (.int (nI k)), some (.int (nI j)), some (.int (nI b)), none] [.int (bI (inP (nI k) 6))] S G B J R _
  refine cr_beq (t := 17) d_134_4 (by decide) (fun c4 => ?_) (fun c4 => ?_)
  · exact absurd ((in_j (by omega)).mpr hk6) c4
  · refine cr_nx (pc' := 8) (al' := [some (.ref 2), some (.int (nI k)), some (.int (nI j)), some (.int (nI b)), none]) (st' := [.int (nI b)]) d_134_7 (fun _ => rfl) ?_
    refine cn_zlt (t := 17) d_134_8 (by decide) (by first | omega | assumption | exact cu_36 (by omega) (cu_lt (by omega) (by omega))) (fun c8 => ?_) (fun c8 => ?_)
    · exact c8.elim
    · refine cr_nx (pc' := 12) (al' := [some (.ref 2), some (.int (nI k)), some (.int (nI j)), some (.int (nI b)), none]) (st' := [.int (nI b)]) d_134_11 (fun _ => rfl) ?_
      refine cn_bp (v := 63) d_134_12 (by decide) ?_
      refine cn_cle (t := 23) d_134_14 (by decide) (by first | omega | assumption | exact cu_36 (by omega) (cu_lt (by omega) (by omega))) (by first | omega | assumption | exact cu_36 (by omega) (cu_lt (by omega) (by omega))) (fun c14 => ?_) (fun c14 => ?_)
      · refine cr_nx (pc' := 24) (al' := [some (.ref 2), some (.int (nI k)), some (.int (nI j)), some (.int (nI b)), none]) (st' := [.ref 2]) d_134_23 (fun _ => rfl) ?_
        refine cr_nx (pc' := 25) (al' := [some (.ref 2), some (.int (nI k)), some (.int (nI j)), some (.int (nI b)), none]) (st' := [.int (nI j), .ref 2]) d_134_24 (fun _ => rfl) ?_
        refine cr_pv (b := 2) (as := [.int (nI j)]) (al0 := [some (.ref 2), some (.int (nI j))]) (r := []) d_134_25 cw_134 cm_11_137 cz_126 rfl rfl (hS.i (a := 2) (by decide) (by decide)) (by rw [cw_126]; exact (hS.s (a := 2) (by decide) (by decide) rfl)) (by rw [cw_126]; decide) rfl (Nat.le_of_ble_eq_true rfl) (k_has hS hF hH hO) ?_
        show CR _ _ 28 [some (.ref 2), some (.int (nI k)), some (.int (nI j)), some (.int (nI b)), none] [.int (bI (hasP (wK W) (nI j)))] S G B J R _
        refine cr_bne (t := 38) d_134_28 (by decide) (fun c28 => ?_) (fun c28 => ?_)
        · refine cr_nx (pc' := 39) (al' := [some (.ref 2), some (.int (nI k)), some (.int (nI j)), some (.int (nI b)), none]) (st' := [.ref 2]) d_134_38 (fun _ => rfl) ?_
          refine cr_gf (v := .ref 3) d_134_39 cw_134 cf_11_10 (hS.i (a := 2) (by decide) (by decide)) (hS.s (a := 2) (by decide) (by decide) rfl) (by decide) (fx_2_0 hF) ?_
          refine cr_gf (v := .ref 4) d_134_42 cw_134 cf_11_140 (hS.i (a := 3) (by decide) (by decide)) (hS.s (a := 3) (by decide) (by decide) rfl) (by decide) (fx_3_0 hF) ?_
          refine cr_nx (pc' := 46) (al' := [some (.ref 2), some (.int (nI k)), some (.int (nI j)), some (.int (nI b)), none]) (st' := [.int (nI j), .ref 4]) d_134_45 (fun _ => rfl) ?_
          refine cr_aa (a := 4) (v := .ref (ta j)) d_134_46 (hS.i (a := 4) (by decide) (by decide)) (by decide) (hS.s (a := 4) (by decide) (by decide) rfl) (by decide) (show j < 6 by first | omega | assumption | exact cu_36 (by omega) (cu_lt (by omega) (by omega))) (show va_rf _ = _ by rw [(hH.2.1 j hj).1]; rfl) ?_
          refine cr_nx (pc' := 49) (al' := [some (.ref 2), some (.int (nI k)), some (.int (nI j)), some (.int (nI b)), some (.ref (ta j))]) (st' := []) d_134_47 (fun _ => rfl) ?_
          refine cr_nx (pc' := 51) (al' := [some (.ref 2), some (.int (nI k)), some (.int (nI j)), some (.int (nI b)), some (.ref (ta j))]) (st' := [.ref (ta j)]) d_134_49 (fun _ => rfl) ?_
          refine cr_pv (b := (ta j)) (as := []) (al0 := [some (.ref (ta j))]) (r := []) d_134_51 cw_134 cm_11_193 cz_106 rfl rfl ht.1 (by rw [cw_106]; exact ht.2.2.1) (by rw [cw_106]; decide) rfl (Nat.le_of_ble_eq_true rfl) (k_unitElement ht hn hc) ?_
          show CR _ _ 54 [some (.ref 2), some (.int (nI k)), some (.int (nI j)), some (.int (nI b)), some (.ref (ta j))] [.int (unV 0 m c)] S G B J R _
          refine cr_nx (pc' := 55) (al' := [some (.ref 2), some (.int (nI k)), some (.int (nI j)), some (.int (nI b)), some (.ref (ta j))]) (st' := [.int (-1), .int (unV 0 m c)]) d_134_54 (fun _ => rfl) ?_
          refine cr_ceq (t := 67) d_134_55 (by decide) (fun c55 => ?_) (fun c55 => ?_)
          · exact absurd c55 hu
          · refine cr_nx (pc' := 60) (al' := [some (.ref 2), some (.int (nI k)), some (.int (nI j)), some (.int (nI b)), some (.ref (ta j))]) (st' := [.ref (ta j)]) d_134_58 (fun _ => rfl) ?_
            refine cr_nx (pc' := 61) (al' := [some (.ref 2), some (.int (nI k)), some (.int (nI j)), some (.int (nI b)), some (.ref (ta j))]) (st' := [.int (nI b), .ref (ta j)]) d_134_60 (fun _ => rfl) ?_
            refine cr_ps (as := [.ref (ta j), .int (nI b)]) (al0 := [some (.ref (ta j)), some (.int (nI b))]) (r := []) d_134_61 cw_134 cm_11_197 (by decide) cz_46 rfl rfl rfl (Nat.le_of_ble_eq_true rfl) (k_isNormal ht hn hc (by omega)) ?_
            show CR _ _ 64 [some (.ref 2), some (.int (nI k)), some (.int (nI j)), some (.int (nI b)), some (.ref (ta j))] [.int (bI (Nrm m c b))] S G B J R _
            refine cr_bne (t := 74) d_134_64 (by decide) (fun c64 => ?_) (fun c64 => ?_)
            · exact absurd c64 hN
            · refine cr_nx (pc' := 68) (al' := [some (.ref 2), some (.int (nI k)), some (.int (nI j)), some (.int (nI b)), some (.ref (ta j))]) (st' := [.ref 2]) d_134_67 (fun _ => rfl) ?_
              refine cr_nx (pc' := 70) (al' := [some (.ref 2), some (.int (nI k)), some (.int (nI j)), some (.int (nI b)), some (.ref (ta j))]) (st' := [.int (-3), .ref 2]) d_134_68 (fun _ => rfl) ?_
              refine cr_pv (b := 2) (as := [.int (-3)]) (al0 := [some (.ref 2), some (.int (-3))]) (r := []) d_134_70 cw_134 cm_11_104 cz_119 rfl rfl (hS.i (a := 2) (by decide) (by decide)) (by rw [cw_119]; exact (hS.s (a := 2) (by decide) (by decide) rfl)) (by rw [cw_119]; decide) rfl (Nat.le_of_ble_eq_true rfl) (k_refuse (e := 3) hS hF (by decide) (by decide)) ?_
              show CR _ _ 73 [some (.ref 2), some (.int (nI k)), some (.int (nI j)), some (.int (nI b)), some (.ref (ta j))] [.int (-3)] S (up2 G 2 16 (.int (-3))) (upr B 145 (upd (B 145) 3 (B 145 3 + nI 1))) J R _
              exact cr_ri d_134_73 cx_134 rfl ⟨rfl, (hW.rf (by decide)).mo⟩
        · exact absurd hyes c28
      · omega
theorem r_quotient_d {g : Nat → Int32} {A : Nat → Nat → Int32} {n : Nat} {W : WS} (hW : WR n g A W) (hO : CoOk (wK W)) {k : Nat} (hk6 : k < 6) {j m : Nat} {c : Nat → Nat} (hj : j < 6) (htb : tbK (wK W) j = (m, c)) (h1 : 1 ≤ m) {b : Nat} (hb : b < 64) (hu : ¬ unV 0 m c = -1) (hN : ¬ Nrm m c b) : RR 80 242 0 [some (.ref 146), some (.int (nI k)), some (.int (nI j)), some (.int (nI b)), none, none, none, none, none, none] [] g A (fun r__ g' A' => r__ = some (.int (-3)) ∧ WR (n + 1) g' A' (refW W (-3) 3)) := by
  have hsh := hW.1.1.1 j hj
  rw [show kH (wK W) (kD (wK W)) j = (m, c) from htb] at hsh
  have hok := tb_ok hO hj
  rw [htb] at hok
  have hk : A 1 (37 * j) = nI m := hsh.1
  have hl : Lat m c := hok.2
  have hm6 : m ≤ 6 := hok.1
  have hyes : isT A (nI j) := (has_r hW hO).mpr ((has_i hj).mpr (by rw [htb]; exact h1))
  refine rr_nx (pc' := 1) (al' := [some (.ref 146), some (.int (nI k)), some (.int (nI j)), some (.int (nI b)), none, none, none, none, none, none]) (st' := [.int (nI k)]) d_242_0 (fun _ => rfl) ?_
  refine rr_ps (as := [.int (nI k)]) (al0 := [some (.int (nI k))]) (r := []) d_242_1 mo_242 ml_117 mz_185 rfl rfl rfl (Nat.le_of_ble_eq_true rfl) (s_isSlot (nI k)) ?_
  show RR _ _ 4 [some (.ref 146), some (.int (nI k)), some (.int (nI j)), some (.int (nI b)), none, none, none, none, none, none] [.int (bI (nI 0 ≤ (nI k) ∧ (nI k) ≤ nI 5))] g A _
  refine rr_beq (t := 17) d_242_4 (by decide) (fun c4 => ?_) (fun c4 => ?_)
  · exact absurd ((in_r (m := 5) (by decide)).mpr ((in_j (by omega)).mpr hk6)) c4
  · refine rr_nx (pc' := 8) (al' := [some (.ref 146), some (.int (nI k)), some (.int (nI j)), some (.int (nI b)), none, none, none, none, none, none]) (st' := [.int (nI b)]) d_242_7 (fun _ => rfl) ?_
    refine rn_ic (v := 0) d_242_8 (by decide) ?_
    refine rn_bp (v := 63) d_242_9 (by decide) ?_
    refine rr_ps (as := [.int (nI b), .int (nI 0), .int (nI 63)]) (al0 := [some (.int (nI b)), some (.int (nI 0)), some (.int (nI 63))]) (r := []) d_242_11 mo_242 ml_106 mz_179 rfl rfl rfl (Nat.le_of_ble_eq_true rfl) (s_lies (nI b) (nI 0) (nI 63)) ?_
    show RR _ _ 14 [some (.ref 146), some (.int (nI k)), some (.int (nI j)), some (.int (nI b)), none, none, none, none, none, none] [.int (bI ((nI 0) ≤ (nI b) ∧ (nI b) ≤ (nI 63)))] g A _
    refine rr_bne (t := 23) d_242_14 (by decide) (fun c14 => ?_) (fun c14 => ?_)
    · refine rr_nx (pc' := 24) (al' := [some (.ref 146), some (.int (nI k)), some (.int (nI j)), some (.int (nI b)), none, none, none, none, none, none]) (st' := [.ref 146]) d_242_23 (fun _ => rfl) ?_
      refine rr_nx (pc' := 25) (al' := [some (.ref 146), some (.int (nI k)), some (.int (nI j)), some (.int (nI b)), none, none, none, none, none, none]) (st' := [.int (nI j), .ref 146]) d_242_24 (fun _ => rfl) ?_
      refine rr_pv (as := [.int (nI j)]) (al0 := [some (.ref 146), some (.int (nI j))]) (r := []) d_242_25 mo_242 ml_124 mz_184 rfl rfl rfl (Nat.le_of_ble_eq_true rfl) (s_isTable (nI j)) ?_
      show RR _ _ 28 [some (.ref 146), some (.int (nI k)), some (.int (nI j)), some (.int (nI b)), none, none, none, none, none, none] [.int (bI (isT A (nI j)))] g A _
      refine rr_bne (t := 38) d_242_28 (by decide) (fun c28 => ?_) (fun c28 => ?_)
      · refine rr_nx (pc' := 39) (al' := [some (.ref 146), some (.int (nI k)), some (.int (nI j)), some (.int (nI b)), none, none, none, none, none, none]) (st' := [.ref 146]) d_242_38 (fun _ => rfl) ?_
        refine rr_nx (pc' := 40) (al' := [some (.ref 146), some (.int (nI k)), some (.int (nI j)), some (.int (nI b)), none, none, none, none, none, none]) (st' := [.int (nI j), .ref 146]) d_242_39 (fun _ => rfl) ?_
        refine rr_pv (as := [.int (nI j)]) (al0 := [some (.ref 146), some (.int (nI j)), none]) (r := []) d_242_40 mo_242 ml_248 mz_208 rfl rfl rfl (Nat.le_of_ble_eq_true rfl) (s_lays (n := m) hj hm6 hk) ?_
        obtain ⟨wl40, hwl40⟩ : ∃ w_, w_ = rf_f (fun q => A 1 (37 * j + 1 + q)) (A 4) (m * m) := ⟨_, rfl⟩
        rw [← hwl40]
        show RR _ _ 43 [some (.ref 146), some (.int (nI k)), some (.int (nI j)), some (.int (nI b)), none, none, none, none, none, none] [] (upd g 6 (nI m)) (rf_u A 4 wl40) _
        have hcu := cur_l (g := g) hsh hm6 hl hwl40
        refine rr_nx (pc' := 44) (al' := [some (.ref 146), some (.int (nI k)), some (.int (nI j)), some (.int (nI b)), none, none, none, none, none, none]) (st' := [.ref 146]) d_242_43 (fun _ => rfl) ?_
        refine rn_ic (v := 0) d_242_44 (by decide) ?_
        refine rr_pv (as := [.int (nI 0)]) (al0 := [some (.ref 146), some (.int (nI 0)), none, none, none]) (r := []) d_242_45 mo_242 ml_223 mz_212 rfl rfl rfl (Nat.le_of_ble_eq_true rfl) (s_unitOf hcu (by omega)) ?_
        show RR _ _ 48 [some (.ref 146), some (.int (nI k)), some (.int (nI j)), some (.int (nI b)), none, none, none, none, none, none] [.int (unV 0 m c)] (upd g 6 (nI m)) (rf_u A 4 wl40) _
        refine rr_nx (pc' := 49) (al' := [some (.ref 146), some (.int (nI k)), some (.int (nI j)), some (.int (nI b)), none, none, none, none, none, none]) (st' := [.int (-1), .int (unV 0 m c)]) d_242_48 (fun _ => rfl) ?_
        refine rr_ceq (t := 60) d_242_49 (by decide) (fun c49 => ?_) (fun c49 => ?_)
        · exact absurd c49 hu
        · refine rr_nx (pc' := 53) (al' := [some (.ref 146), some (.int (nI k)), some (.int (nI j)), some (.int (nI b)), none, none, none, none, none, none]) (st' := [.ref 146]) d_242_52 (fun _ => rfl) ?_
          refine rr_nx (pc' := 54) (al' := [some (.ref 146), some (.int (nI k)), some (.int (nI j)), some (.int (nI b)), none, none, none, none, none, none]) (st' := [.int (nI b), .ref 146]) d_242_53 (fun _ => rfl) ?_
          refine rr_cv (as := [.int (nI b)]) (al0 := [some (.ref 146), some (.int (nI b)), none, none, none, none]) (r := []) d_242_54 mo_242 ml_295 mz_243 rfl rfl rfl (rr_wk (Nat.le_of_ble_eq_true rfl) (s_isNormal hcu hl (un_uni hu) (by omega))) (fun v1 g1 A1 h1x => ?_)
          obtain ⟨q0_, q1_, w14, q2_, hw14⟩ := h1x
          obtain rfl := q0_
          obtain rfl := q1_
          obtain rfl := q2_
          show RR _ _ 57 [some (.ref 146), some (.int (nI k)), some (.int (nI j)), some (.int (nI b)), none, none, none, none, none, none] [.int (bI (Nrm m c b))] (upd g 6 (nI m)) (rf_u (rf_u A 4 wl40) 14 w14) _
          refine rr_bne (t := 67) d_242_57 (by decide) (fun c57 => ?_) (fun c57 => ?_)
          · exact absurd c57 hN
          · refine rr_nx (pc' := 61) (al' := [some (.ref 146), some (.int (nI k)), some (.int (nI j)), some (.int (nI b)), none, none, none, none, none, none]) (st' := [.ref 146]) d_242_60 (fun _ => rfl) ?_
            refine rr_nx (pc' := 63) (al' := [some (.ref 146), some (.int (nI k)), some (.int (nI j)), some (.int (nI b)), none, none, none, none, none, none]) (st' := [.int (-3), .ref 146]) d_242_61 (fun _ => rfl) ?_
            have hW1 := hW.q (g' := (upd g 6 (nI m))) (A' := (rf_u (rf_u A 4 wl40) 14 w14)) (Gsm.rf.u rfl) ((Ksm.rf.u rfl).u rfl)
            refine rr_pv (as := [.int (-3)]) (al0 := [some (.ref 146), some (.int (-3))]) (r := []) d_242_63 mo_242 ml_110 mz_180 rfl rfl rfl (Nat.le_of_ble_eq_true rfl) (s_refuses (e := 3) (by decide) (by decide)) ?_
            show RR _ _ 66 [some (.ref 146), some (.int (nI k)), some (.int (nI j)), some (.int (nI b)), none, none, none, none, none, none] [.int (-3)] (upd (upd g 6 (nI m)) 0 (-3)) (rf_u (rf_u (rf_u A 4 wl40) 14 w14) 0 (upd ((rf_u (rf_u A 4 wl40) 14 w14) 0) 3 ((rf_u (rf_u A 4 wl40) 14 w14) 0 3 + nI 1))) _
            exact rr_ri d_242_66 mr_242 rfl ⟨rfl, (hW1.rf (by decide)).mo⟩
      · exact absurd hyes c28
    · exact absurd (ia_natI (by decide) (show b ≤ 63 by omega)) c14
theorem p_quotient_a {S : CS} {G : Nat → Nat → Value} {B : Nat → Nat → Int32} {J : Nat → Nat → Int64} {R : Nat → Nat → Option Nat} {n : Nat} {W : WS} (hW : WC n S G B R W) {t s u : Int32} (hx : ¬ (inP t 6 ∧ inP u 64)) : CR 80 134 0 [some (.ref 2), some (.int t), some (.int s), some (.int u), none] [] S G B J R (fun r__ S' G' B' J' R' => r__ = some (.int (-1)) ∧ WC (n + 1) S' G' B' R' (refW W (-1) 1)) := by
  have hS := hW.1.1
  have hF := hW.2.1
  have hO := hW.2.2.2.1
  obtain ⟨ta, ka, la, hH, hLk, hl2, hs3, hbd⟩ := hW.2.2.1
  refine cr_nx (pc' := 1) (al' := [some (.ref 2), some (.int t), some (.int s), some (.int u), none]) (st' := [.int t]) d_134_0 (fun _ => rfl) ?_
  refine cr_ps (as := [.int t]) (al0 := [some (.int t)]) (r := []) d_134_1 cw_134 cm_11_100 (by decide) cz_118 rfl rfl rfl (Nat.le_of_ble_eq_true rfl) (k_isPlace) ?_
  show CR _ _ 4 [some (.ref 2), some (.int t), some (.int s), some (.int u), none] [.int (bI (inP t 6))] S G B J R _
  refine cr_beq (t := 17) d_134_4 (by decide) (fun c4 => ?_) (fun c4 => ?_)
  · refine cr_nx (pc' := 18) (al' := [some (.ref 2), some (.int t), some (.int s), some (.int u), none]) (st' := [.ref 2]) d_134_17 (fun _ => rfl) ?_
    refine cr_nx (pc' := 19) (al' := [some (.ref 2), some (.int t), some (.int s), some (.int u), none]) (st' := [.int (-1), .ref 2]) d_134_18 (fun _ => rfl) ?_
    refine cr_pv (b := 2) (as := [.int (-1)]) (al0 := [some (.ref 2), some (.int (-1))]) (r := []) d_134_19 cw_134 cm_11_104 cz_119 rfl rfl (hS.i (a := 2) (by decide) (by decide)) (by rw [cw_119]; exact (hS.s (a := 2) (by decide) (by decide) rfl)) (by rw [cw_119]; decide) rfl (Nat.le_of_ble_eq_true rfl) (k_refuse (e := 1) hS hF (by decide) (by decide)) ?_
    show CR _ _ 22 [some (.ref 2), some (.int t), some (.int s), some (.int u), none] [.int (-1)] S (up2 G 2 16 (.int (-1))) (upr B 145 (upd (B 145) 1 (B 145 1 + nI 1))) J R _
    exact cr_ri d_134_22 cx_134 rfl ⟨rfl, (hW.rf (by decide)).mo⟩
  · refine cr_nx (pc' := 8) (al' := [some (.ref 2), some (.int t), some (.int s), some (.int u), none]) (st' := [.int u]) d_134_7 (fun _ => rfl) ?_
    refine cr_ilt (t := 17) d_134_8 (by decide) (fun c8 => ?_) (fun c8 => ?_)
    · refine cr_nx (pc' := 18) (al' := [some (.ref 2), some (.int t), some (.int s), some (.int u), none]) (st' := [.ref 2]) d_134_17 (fun _ => rfl) ?_
      refine cr_nx (pc' := 19) (al' := [some (.ref 2), some (.int t), some (.int s), some (.int u), none]) (st' := [.int (-1), .ref 2]) d_134_18 (fun _ => rfl) ?_
      refine cr_pv (b := 2) (as := [.int (-1)]) (al0 := [some (.ref 2), some (.int (-1))]) (r := []) d_134_19 cw_134 cm_11_104 cz_119 rfl rfl (hS.i (a := 2) (by decide) (by decide)) (by rw [cw_119]; exact (hS.s (a := 2) (by decide) (by decide) rfl)) (by rw [cw_119]; decide) rfl (Nat.le_of_ble_eq_true rfl) (k_refuse (e := 1) hS hF (by decide) (by decide)) ?_
      show CR _ _ 22 [some (.ref 2), some (.int t), some (.int s), some (.int u), none] [.int (-1)] S (up2 G 2 16 (.int (-1))) (upr B 145 (upd (B 145) 1 (B 145 1 + nI 1))) J R _
      exact cr_ri d_134_22 cx_134 rfl ⟨rfl, (hW.rf (by decide)).mo⟩
    · refine cr_nx (pc' := 12) (al' := [some (.ref 2), some (.int t), some (.int s), some (.int u), none]) (st' := [.int u]) d_134_11 (fun _ => rfl) ?_
      refine cn_bp (v := 63) d_134_12 (by decide) ?_
      refine cr_cle (t := 23) d_134_14 (by decide) (fun c14 => ?_) (fun c14 => ?_)
      · exact absurd ⟨c4, show inP u 64 from ⟨by rw [i_lt0] at c8; omega, by rw [i_Nle (by decide)] at c14; omega⟩⟩ hx
      · refine cr_nx (pc' := 18) (al' := [some (.ref 2), some (.int t), some (.int s), some (.int u), none]) (st' := [.ref 2]) d_134_17 (fun _ => rfl) ?_
        refine cr_nx (pc' := 19) (al' := [some (.ref 2), some (.int t), some (.int s), some (.int u), none]) (st' := [.int (-1), .ref 2]) d_134_18 (fun _ => rfl) ?_
        refine cr_pv (b := 2) (as := [.int (-1)]) (al0 := [some (.ref 2), some (.int (-1))]) (r := []) d_134_19 cw_134 cm_11_104 cz_119 rfl rfl (hS.i (a := 2) (by decide) (by decide)) (by rw [cw_119]; exact (hS.s (a := 2) (by decide) (by decide) rfl)) (by rw [cw_119]; decide) rfl (Nat.le_of_ble_eq_true rfl) (k_refuse (e := 1) hS hF (by decide) (by decide)) ?_
        show CR _ _ 22 [some (.ref 2), some (.int t), some (.int s), some (.int u), none] [.int (-1)] S (up2 G 2 16 (.int (-1))) (upr B 145 (upd (B 145) 1 (B 145 1 + nI 1))) J R _
        exact cr_ri d_134_22 cx_134 rfl ⟨rfl, (hW.rf (by decide)).mo⟩
theorem r_quotient_a {g : Nat → Int32} {A : Nat → Nat → Int32} {n : Nat} {W : WS} (hW : WR n g A W) (hO : CoOk (wK W)) {t s u : Int32} (hx : ¬ (inP t 6 ∧ inP u 64)) : RR 80 242 0 [some (.ref 146), some (.int t), some (.int s), some (.int u), none, none, none, none, none, none] [] g A (fun r__ g' A' => r__ = some (.int (-1)) ∧ WR (n + 1) g' A' (refW W (-1) 1)) := by
  refine rr_nx (pc' := 1) (al' := [some (.ref 146), some (.int t), some (.int s), some (.int u), none, none, none, none, none, none]) (st' := [.int t]) d_242_0 (fun _ => rfl) ?_
  refine rr_ps (as := [.int t]) (al0 := [some (.int t)]) (r := []) d_242_1 mo_242 ml_117 mz_185 rfl rfl rfl (Nat.le_of_ble_eq_true rfl) (s_isSlot t) ?_
  show RR _ _ 4 [some (.ref 146), some (.int t), some (.int s), some (.int u), none, none, none, none, none, none] [.int (bI (nI 0 ≤ t ∧ t ≤ nI 5))] g A _
  refine rr_beq (t := 17) d_242_4 (by decide) (fun c4 => ?_) (fun c4 => ?_)
  · refine rr_nx (pc' := 18) (al' := [some (.ref 146), some (.int t), some (.int s), some (.int u), none, none, none, none, none, none]) (st' := [.ref 146]) d_242_17 (fun _ => rfl) ?_
    refine rr_nx (pc' := 19) (al' := [some (.ref 146), some (.int t), some (.int s), some (.int u), none, none, none, none, none, none]) (st' := [.int (-1), .ref 146]) d_242_18 (fun _ => rfl) ?_
    have hW1 := hW.q (g' := g) (A' := A) Gsm.rf Ksm.rf
    refine rr_pv (as := [.int (-1)]) (al0 := [some (.ref 146), some (.int (-1))]) (r := []) d_242_19 mo_242 ml_110 mz_180 rfl rfl rfl (Nat.le_of_ble_eq_true rfl) (s_refuses (e := 1) (by decide) (by decide)) ?_
    show RR _ _ 22 [some (.ref 146), some (.int t), some (.int s), some (.int u), none, none, none, none, none, none] [.int (-1)] (upd g 0 (-1)) (rf_u A 0 (upd (A 0) 1 (A 0 1 + nI 1))) _
    exact rr_ri d_242_22 mr_242 rfl ⟨rfl, (hW1.rf (by decide)).mo⟩
  · refine rr_nx (pc' := 8) (al' := [some (.ref 146), some (.int t), some (.int s), some (.int u), none, none, none, none, none, none]) (st' := [.int u]) d_242_7 (fun _ => rfl) ?_
    refine rn_ic (v := 0) d_242_8 (by decide) ?_
    refine rn_bp (v := 63) d_242_9 (by decide) ?_
    refine rr_ps (as := [.int u, .int (nI 0), .int (nI 63)]) (al0 := [some (.int u), some (.int (nI 0)), some (.int (nI 63))]) (r := []) d_242_11 mo_242 ml_106 mz_179 rfl rfl rfl (Nat.le_of_ble_eq_true rfl) (s_lies u (nI 0) (nI 63)) ?_
    show RR _ _ 14 [some (.ref 146), some (.int t), some (.int s), some (.int u), none, none, none, none, none, none] [.int (bI ((nI 0) ≤ u ∧ u ≤ (nI 63)))] g A _
    refine rr_bne (t := 23) d_242_14 (by decide) (fun c14 => ?_) (fun c14 => ?_)
    · exact absurd ⟨(in_r (m := 5) (by decide)).mp c4, (in_r (m := 63) (by decide)).mp c14⟩ hx
    · refine rr_nx (pc' := 18) (al' := [some (.ref 146), some (.int t), some (.int s), some (.int u), none, none, none, none, none, none]) (st' := [.ref 146]) d_242_17 (fun _ => rfl) ?_
      refine rr_nx (pc' := 19) (al' := [some (.ref 146), some (.int t), some (.int s), some (.int u), none, none, none, none, none, none]) (st' := [.int (-1), .ref 146]) d_242_18 (fun _ => rfl) ?_
      have hW1 := hW.q (g' := g) (A' := A) Gsm.rf Ksm.rf
      refine rr_pv (as := [.int (-1)]) (al0 := [some (.ref 146), some (.int (-1))]) (r := []) d_242_19 mo_242 ml_110 mz_180 rfl rfl rfl (Nat.le_of_ble_eq_true rfl) (s_refuses (e := 1) (by decide) (by decide)) ?_
      show RR _ _ 22 [some (.ref 146), some (.int t), some (.int s), some (.int u), none, none, none, none, none, none] [.int (-1)] (upd g 0 (-1)) (rf_u A 0 (upd (A 0) 1 (A 0 1 + nI 1))) _
      exact rr_ri d_242_22 mr_242 rfl ⟨rfl, (hW1.rf (by decide)).mo⟩
theorem p_quotient_b {S : CS} {G : Nat → Nat → Value} {B : Nat → Nat → Int32} {J : Nat → Nat → Int64} {R : Nat → Nat → Option Nat} {n : Nat} {W : WS} (hW : WC n S G B R W) {k : Nat} (hk6 : k < 6) {t : Int32} (hh : ¬ hasP (wK W) t) {b : Nat} (hb : b < 64) : CR 80 134 0 [some (.ref 2), some (.int (nI k)), some (.int t), some (.int (nI b)), none] [] S G B J R (fun r__ S' G' B' J' R' => r__ = some (.int (-2)) ∧ WC (n + 1) S' G' B' R' (refW W (-2) 2)) := by
  have hS := hW.1.1
  have hF := hW.2.1
  have hO := hW.2.2.2.1
  obtain ⟨ta, ka, la, hH, hLk, hl2, hs3, hbd⟩ := hW.2.2.1
  refine cr_nx (pc' := 1) (al' := [some (.ref 2), some (.int (nI k)), some (.int t), some (.int (nI b)), none]) (st' := [.int (nI k)]) d_134_0 (fun _ => rfl) ?_
  refine cr_ps (as := [.int (nI k)]) (al0 := [some (.int (nI k))]) (r := []) d_134_1 cw_134 cm_11_100 (by decide) cz_118 rfl rfl rfl (Nat.le_of_ble_eq_true rfl) (k_isPlace) ?_
  show CR _ _ 4 [some (.ref 2), some (.int (nI k)), some (.int t), some (.int (nI b)), none] [.int (bI (inP (nI k) 6))] S G B J R _
  refine cr_beq (t := 17) d_134_4 (by decide) (fun c4 => ?_) (fun c4 => ?_)
  · exact absurd ((in_j (by omega)).mpr hk6) c4
  · refine cr_nx (pc' := 8) (al' := [some (.ref 2), some (.int (nI k)), some (.int t), some (.int (nI b)), none]) (st' := [.int (nI b)]) d_134_7 (fun _ => rfl) ?_
    refine cn_zlt (t := 17) d_134_8 (by decide) (by first | omega | assumption | exact cu_36 (by omega) (cu_lt (by omega) (by omega))) (fun c8 => ?_) (fun c8 => ?_)
    · exact c8.elim
    · refine cr_nx (pc' := 12) (al' := [some (.ref 2), some (.int (nI k)), some (.int t), some (.int (nI b)), none]) (st' := [.int (nI b)]) d_134_11 (fun _ => rfl) ?_
      refine cn_bp (v := 63) d_134_12 (by decide) ?_
      refine cn_cle (t := 23) d_134_14 (by decide) (by first | omega | assumption | exact cu_36 (by omega) (cu_lt (by omega) (by omega))) (by first | omega | assumption | exact cu_36 (by omega) (cu_lt (by omega) (by omega))) (fun c14 => ?_) (fun c14 => ?_)
      · refine cr_nx (pc' := 24) (al' := [some (.ref 2), some (.int (nI k)), some (.int t), some (.int (nI b)), none]) (st' := [.ref 2]) d_134_23 (fun _ => rfl) ?_
        refine cr_nx (pc' := 25) (al' := [some (.ref 2), some (.int (nI k)), some (.int t), some (.int (nI b)), none]) (st' := [.int t, .ref 2]) d_134_24 (fun _ => rfl) ?_
        refine cr_pv (b := 2) (as := [.int t]) (al0 := [some (.ref 2), some (.int t)]) (r := []) d_134_25 cw_134 cm_11_137 cz_126 rfl rfl (hS.i (a := 2) (by decide) (by decide)) (by rw [cw_126]; exact (hS.s (a := 2) (by decide) (by decide) rfl)) (by rw [cw_126]; decide) rfl (Nat.le_of_ble_eq_true rfl) (k_has hS hF hH hO) ?_
        show CR _ _ 28 [some (.ref 2), some (.int (nI k)), some (.int t), some (.int (nI b)), none] [.int (bI (hasP (wK W) t))] S G B J R _
        refine cr_bne (t := 38) d_134_28 (by decide) (fun c28 => ?_) (fun c28 => ?_)
        · exact absurd c28 hh
        · refine cr_nx (pc' := 32) (al' := [some (.ref 2), some (.int (nI k)), some (.int t), some (.int (nI b)), none]) (st' := [.ref 2]) d_134_31 (fun _ => rfl) ?_
          refine cr_nx (pc' := 34) (al' := [some (.ref 2), some (.int (nI k)), some (.int t), some (.int (nI b)), none]) (st' := [.int (-2), .ref 2]) d_134_32 (fun _ => rfl) ?_
          refine cr_pv (b := 2) (as := [.int (-2)]) (al0 := [some (.ref 2), some (.int (-2))]) (r := []) d_134_34 cw_134 cm_11_104 cz_119 rfl rfl (hS.i (a := 2) (by decide) (by decide)) (by rw [cw_119]; exact (hS.s (a := 2) (by decide) (by decide) rfl)) (by rw [cw_119]; decide) rfl (Nat.le_of_ble_eq_true rfl) (k_refuse (e := 2) hS hF (by decide) (by decide)) ?_
          show CR _ _ 37 [some (.ref 2), some (.int (nI k)), some (.int t), some (.int (nI b)), none] [.int (-2)] S (up2 G 2 16 (.int (-2))) (upr B 145 (upd (B 145) 2 (B 145 2 + nI 1))) J R _
          exact cr_ri d_134_37 cx_134 rfl ⟨rfl, (hW.rf (by decide)).mo⟩
      · omega
theorem r_quotient_b {g : Nat → Int32} {A : Nat → Nat → Int32} {n : Nat} {W : WS} (hW : WR n g A W) (hO : CoOk (wK W)) {k : Nat} (hk6 : k < 6) {t : Int32} (hh : ¬ hasP (wK W) t) {b : Nat} (hb : b < 64) : RR 80 242 0 [some (.ref 146), some (.int (nI k)), some (.int t), some (.int (nI b)), none, none, none, none, none, none] [] g A (fun r__ g' A' => r__ = some (.int (-2)) ∧ WR (n + 1) g' A' (refW W (-2) 2)) := by
  refine rr_nx (pc' := 1) (al' := [some (.ref 146), some (.int (nI k)), some (.int t), some (.int (nI b)), none, none, none, none, none, none]) (st' := [.int (nI k)]) d_242_0 (fun _ => rfl) ?_
  refine rr_ps (as := [.int (nI k)]) (al0 := [some (.int (nI k))]) (r := []) d_242_1 mo_242 ml_117 mz_185 rfl rfl rfl (Nat.le_of_ble_eq_true rfl) (s_isSlot (nI k)) ?_
  show RR _ _ 4 [some (.ref 146), some (.int (nI k)), some (.int t), some (.int (nI b)), none, none, none, none, none, none] [.int (bI (nI 0 ≤ (nI k) ∧ (nI k) ≤ nI 5))] g A _
  refine rr_beq (t := 17) d_242_4 (by decide) (fun c4 => ?_) (fun c4 => ?_)
  · exact absurd ((in_r (m := 5) (by decide)).mpr ((in_j (by omega)).mpr hk6)) c4
  · refine rr_nx (pc' := 8) (al' := [some (.ref 146), some (.int (nI k)), some (.int t), some (.int (nI b)), none, none, none, none, none, none]) (st' := [.int (nI b)]) d_242_7 (fun _ => rfl) ?_
    refine rn_ic (v := 0) d_242_8 (by decide) ?_
    refine rn_bp (v := 63) d_242_9 (by decide) ?_
    refine rr_ps (as := [.int (nI b), .int (nI 0), .int (nI 63)]) (al0 := [some (.int (nI b)), some (.int (nI 0)), some (.int (nI 63))]) (r := []) d_242_11 mo_242 ml_106 mz_179 rfl rfl rfl (Nat.le_of_ble_eq_true rfl) (s_lies (nI b) (nI 0) (nI 63)) ?_
    show RR _ _ 14 [some (.ref 146), some (.int (nI k)), some (.int t), some (.int (nI b)), none, none, none, none, none, none] [.int (bI ((nI 0) ≤ (nI b) ∧ (nI b) ≤ (nI 63)))] g A _
    refine rr_bne (t := 23) d_242_14 (by decide) (fun c14 => ?_) (fun c14 => ?_)
    · refine rr_nx (pc' := 24) (al' := [some (.ref 146), some (.int (nI k)), some (.int t), some (.int (nI b)), none, none, none, none, none, none]) (st' := [.ref 146]) d_242_23 (fun _ => rfl) ?_
      refine rr_nx (pc' := 25) (al' := [some (.ref 146), some (.int (nI k)), some (.int t), some (.int (nI b)), none, none, none, none, none, none]) (st' := [.int t, .ref 146]) d_242_24 (fun _ => rfl) ?_
      refine rr_pv (as := [.int t]) (al0 := [some (.ref 146), some (.int t)]) (r := []) d_242_25 mo_242 ml_124 mz_184 rfl rfl rfl (Nat.le_of_ble_eq_true rfl) (s_isTable t) ?_
      show RR _ _ 28 [some (.ref 146), some (.int (nI k)), some (.int t), some (.int (nI b)), none, none, none, none, none, none] [.int (bI (isT A t))] g A _
      refine rr_bne (t := 38) d_242_28 (by decide) (fun c28 => ?_) (fun c28 => ?_)
      · exact absurd c28 (fun e_ => hh ((has_r hW hO).mp e_))
      · refine rr_nx (pc' := 32) (al' := [some (.ref 146), some (.int (nI k)), some (.int t), some (.int (nI b)), none, none, none, none, none, none]) (st' := [.ref 146]) d_242_31 (fun _ => rfl) ?_
        refine rr_nx (pc' := 34) (al' := [some (.ref 146), some (.int (nI k)), some (.int t), some (.int (nI b)), none, none, none, none, none, none]) (st' := [.int (-2), .ref 146]) d_242_32 (fun _ => rfl) ?_
        have hW1 := hW.q (g' := g) (A' := A) Gsm.rf Ksm.rf
        refine rr_pv (as := [.int (-2)]) (al0 := [some (.ref 146), some (.int (-2))]) (r := []) d_242_34 mo_242 ml_110 mz_180 rfl rfl rfl (Nat.le_of_ble_eq_true rfl) (s_refuses (e := 2) (by decide) (by decide)) ?_
        show RR _ _ 37 [some (.ref 146), some (.int (nI k)), some (.int t), some (.int (nI b)), none, none, none, none, none, none] [.int (-2)] (upd g 0 (-2)) (rf_u A 0 (upd (A 0) 2 (A 0 2 + nI 1))) _
        exact rr_ri d_242_37 mr_242 rfl ⟨rfl, (hW1.rf (by decide)).mo⟩
    · exact absurd (ia_natI (by decide) (show b ≤ 63 by omega)) c14
theorem T_quotient {S : CS} {G : Nat → Nat → Value} {B : Nat → Nat → Int32} {J : Nat → Nat → Int64} {R : Nat → Nat → Option Nat} {g : Nat → Int32} {A : Nat → Nat → Int32} {n : Nat} {W : WS} (hC : WC n S G B R W) (hR : WR n g A W) (hn : n ≤ 10000) {t : Int32} {s : Int32} {u : Int32} : Tie n 134 242 [some (.ref 2), some (.int t), some (.int s), some (.int u), none] [some (.ref 146), some (.int t), some (.int s), some (.int u), none, none, none, none, none, none] S G B J R g A W := by
  have hO := hC.2.2.2.1
  by_cases hx : inP t 6 ∧ inP u 64
  · obtain ⟨k, hk6, e_⟩ := in_n hx.1
    subst e_
    obtain ⟨b, hb, e_⟩ := in_n hx.2
    subst e_
    by_cases hh : hasP (wK W) s
    · obtain ⟨j, hj, e_, h1⟩ := has_n hh
      subst e_
      obtain ⟨⟨m, c⟩, htb⟩ : ∃ tb, tbK (wK W) j = tb := ⟨_, rfl⟩
      rw [htb] at h1
      by_cases hu : unV 0 m c = -1
      · exact ⟨_, _, p_quotient_c hC hk6 hj htb h1 hb hu, r_quotient_c hR hO hk6 hj htb h1 hb hu⟩
      · by_cases hN : Nrm m c b
        · exact ⟨_, _, p_quotient_y hC hk6 hj htb h1 hb hu hN, r_quotient_y hR hO hk6 hj htb h1 hb hu hN hn⟩
        · exact ⟨_, _, p_quotient_d hC hk6 hj htb h1 hb hu hN, r_quotient_d hR hO hk6 hj htb h1 hb hu hN⟩
    · exact ⟨_, _, p_quotient_b hC hk6 hh hb, r_quotient_b hR hO hk6 hh hb⟩
  · exact ⟨_, _, p_quotient_a hC hx, r_quotient_a hR hO hx⟩
