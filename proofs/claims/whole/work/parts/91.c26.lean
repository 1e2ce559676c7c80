/-! Calls: what a table has; printed by wip/whole/gen_c26.py. -/
theorem cur_l {g : Nat → Int32} {A : Nat → Nat → Int32} {j m : Nat} {c : Nat → Nat} {e w : Nat → Int32} (hsh : ShR (A 1) (37 * j) (m, c)) (hm6 : m ≤ 6) (hl : Lat m c) (hw : w = rf_f (fun q => A 1 (37 * j + 1 + q)) e (m * m)) : Cur (upd g 6 (nI m)) (rf_u A 4 w) m c := by
  refine ⟨pk_us, hm6, fun q hq => ⟨?_, hl.1 q hq⟩⟩
  rw [rf_u_s, hw, rf_f_in hq]
  exact hsh.2 q hq
theorem p_status {S : CS} {G : Nat → Nat → Value} {B : Nat → Nat → Int32} {J : Nat → Nat → Int64} {R : Nat → Nat → Option Nat} {n : Nat} {W : WS} (hW : WC n S G B R W)  : CR 80 176 0 [some (.ref 2)] [] S G B J R (fun r S' G' B' J' R' => r = some (.int (wS W)) ∧ WC (n + 1) S' G' B' R' W) := by
  have hS := hW.1.1
  have hF := hW.2.1
  have hO := hW.2.2.2.1
  obtain ⟨ta, ka, la, hH, hLk, hl2, hs3, hbd⟩ := hW.2.2.1
  refine cr_nx (pc' := 1) (al' := [some (.ref 2)]) (st' := [.ref 2]) d_176_0 (fun _ => rfl) ?_
  refine cr_gf (v := .int (wS W)) d_176_1 cw_176 cf_11_379 (hS.i (a := 2) (by decide) (by decide)) (hS.s (a := 2) (by decide) (by decide) rfl) (by decide) hW.2.2.2.2.2.2.2.1 ?_
  exact cr_ri d_176_4 cx_176 rfl ⟨rfl, hW.mo⟩
theorem r_status {g : Nat → Int32} {A : Nat → Nat → Int32} {n : Nat} {W : WS} (hW : WR n g A W) (hO : CoOk (wK W))  : RR 80 289 0 [some (.ref 146)] [] g A (fun r g' A' => r = some (.int (wS W)) ∧ WR (n + 1) g' A' W) := by
  refine rr_nx (pc' := 1) (al' := [some (.ref 146)]) (st' := [.ref 146]) d_289_0 (fun _ => rfl) ?_
  refine rr_gf (v := .int (g 0)) d_289_1 mo_289 fl_100 rfl ?_
  exact rr_ri d_289_4 mr_289 rfl ⟨by rw [hW.2.2.2.2.2.1], hW.mo⟩
theorem T_status {S : CS} {G : Nat → Nat → Value} {B : Nat → Nat → Int32} {J : Nat → Nat → Int64} {R : Nat → Nat → Option Nat} {g : Nat → Int32} {A : Nat → Nat → Int32} {n : Nat} {W : WS} (hC : WC n S G B R W) (hR : WR n g A W) (hn : n ≤ 10000) : Tie n 176 289 [some (.ref 2)] [some (.ref 146)] S G B J R g A W := by
  have hO := hC.2.2.2.1
  exact ⟨_, W, p_status hC, r_status hR hO⟩
theorem p_fault {S : CS} {G : Nat → Nat → Value} {B : Nat → Nat → Int32} {J : Nat → Nat → Int64} {R : Nat → Nat → Option Nat} {n : Nat} {W : WS} (hW : WC n S G B R W)  : CR 80 141 0 [some (.ref 2)] [] S G B J R (fun r S' G' B' J' R' => r = some (.int (wF W)) ∧ WC (n + 1) S' G' B' R' W) := by
  have hS := hW.1.1
  have hF := hW.2.1
  have hO := hW.2.2.2.1
  obtain ⟨ta, ka, la, hH, hLk, hl2, hs3, hbd⟩ := hW.2.2.1
  refine cr_nx (pc' := 1) (al' := [some (.ref 2)]) (st' := [.ref 2]) d_141_0 (fun _ => rfl) ?_
  refine cr_gf (v := .int (wF W)) d_141_1 cw_141 cf_11_31 (hS.i (a := 2) (by decide) (by decide)) (hS.s (a := 2) (by decide) (by decide) rfl) (by decide) hW.2.2.2.2.2.2.1 ?_
  exact cr_ri d_141_4 cx_141 rfl ⟨rfl, hW.mo⟩
theorem r_fault {g : Nat → Int32} {A : Nat → Nat → Int32} {n : Nat} {W : WS} (hW : WR n g A W) (hO : CoOk (wK W))  : RR 80 205 0 [some (.ref 146)] [] g A (fun r g' A' => r = some (.int (wF W)) ∧ WR (n + 1) g' A' W) := by
  refine rr_nx (pc' := 1) (al' := [some (.ref 146)]) (st' := [.ref 146]) d_205_0 (fun _ => rfl) ?_
  refine rr_gf (v := .int (g 14)) d_205_1 mo_205 fl_39 rfl ?_
  exact rr_ri d_205_4 mr_205 rfl ⟨by rw [hW.2.2.2.2.1], hW.mo⟩
theorem T_fault {S : CS} {G : Nat → Nat → Value} {B : Nat → Nat → Int32} {J : Nat → Nat → Int64} {R : Nat → Nat → Option Nat} {g : Nat → Int32} {A : Nat → Nat → Int32} {n : Nat} {W : WS} (hC : WC n S G B R W) (hR : WR n g A W) (hn : n ≤ 10000) : Tie n 141 205 [some (.ref 2)] [some (.ref 146)] S G B J R g A W := by
  have hO := hC.2.2.2.1
  exact ⟨_, W, p_fault hC, r_fault hR hO⟩
theorem p_order_y {S : CS} {G : Nat → Nat → Value} {B : Nat → Nat → Int32} {J : Nat → Nat → Int64} {R : Nat → Nat → Option Nat} {n : Nat} {W : WS} (hW : WC n S G B R W) {j m : Nat} {c : Nat → Nat} (hj : j < 6) (htb : tbK (wK W) j = (m, c)) (h1 : 1 ≤ m) : CR 80 137 0 [some (.ref 2), some (.int (nI j))] [] S G B J R (fun r S' G' B' J' R' => r = some (.int (nI m)) ∧ WC (n + 1) S' G' B' R' W) := by
  have hS := hW.1.1
  have hF := hW.2.1
  have hO := hW.2.2.2.1
  obtain ⟨ta, ka, la, hH, hLk, hl2, hs3, hbd⟩ := hW.2.2.1
  obtain ⟨zt, hzt, ezt⟩ := (hH.2.1 j hj).2
  have ht := hH.ta hj
  have hsh := hH.2.2.2.2.2.2.1 j hj
  rw [show kH (wK W) (kD (wK W)) j = (m, c) from htb] at hsh
  have hok := tb_ok hO hj
  rw [htb] at hok
  have hn : G (ta j) 0 = .int (nI m) := hsh.1
  have hc : TabC B (ta j) m c := hsh.c hok
  have hl : Lat m c := hok.2
  have hm6 : m ≤ 6 := hok.1
  have hyes : hasP (wK W) (nI j) := (has_i hj).mpr (by rw [htb]; exact h1)
  refine cr_nx (pc' := 1) (al' := [some (.ref 2), some (.int (nI j))]) (st' := [.ref 2]) d_137_0 (fun _ => rfl) ?_
  refine cr_nx (pc' := 2) (al' := [some (.ref 2), some (.int (nI j))]) (st' := [.int (nI j), .ref 2]) d_137_1 (fun _ => rfl) ?_
  refine cr_pv (b := 2) (as := [.int (nI j)]) (al0 := [some (.ref 2), some (.int (nI j))]) (r := []) d_137_2 cw_137 cm_11_137 cz_126 rfl rfl (hS.i (a := 2) (by decide) (by decide)) (by rw [cw_126]; exact (hS.s (a := 2) (by decide) (by decide) rfl)) (by rw [cw_126]; decide) rfl (Nat.le_of_ble_eq_true rfl) (k_has hS hF hH hO) ?_
  show CR _ _ 5 [some (.ref 2), some (.int (nI j))] [.int (bI (hasP (wK W) (nI j)))] S G B J R _
  refine cr_beq (t := 23) d_137_5 (by decide) (fun c5 => ?_) (fun c5 => ?_)
  · exact absurd hyes c5
  · refine cr_nx (pc' := 9) (al' := [some (.ref 2), some (.int (nI j))]) (st' := [.ref 2]) d_137_8 (fun _ => rfl) ?_
    refine cr_gf (v := .ref 3) d_137_9 cw_137 cf_11_10 (hS.i (a := 2) (by decide) (by decide)) (hS.s (a := 2) (by decide) (by decide) rfl) (by decide) (fx_2_0 hF) ?_
    refine cr_gf (v := .ref 4) d_137_12 cw_137 cf_11_140 (hS.i (a := 3) (by decide) (by decide)) (hS.s (a := 3) (by decide) (by decide) rfl) (by decide) (fx_3_0 hF) ?_
    refine cr_nx (pc' := 16) (al' := [some (.ref 2), some (.int (nI j))]) (st' := [.int (nI j), .ref 4]) d_137_15 (fun _ => rfl) ?_
    refine cr_aa (a := 4) (v := .ref (ta j)) d_137_16 (hS.i (a := 4) (by decide) (by decide)) (by decide) (hS.s (a := 4) (by decide) (by decide) rfl) (by decide) (show j < 6 by first | omega | assumption | exact cu_36 (by omega) (cu_lt (by omega) (by omega))) (show va_rf _ = _ by rw [(hH.2.1 j hj).1]; rfl) ?_
    refine cr_gf (v := .int (nI m)) d_137_17 cw_137 cf_11_112 ht.1 ht.2.2.1 (by decide) hn ?_
    refine cr_nx (pc' := 24) (al' := [some (.ref 2), some (.int (nI j))]) (st' := [.int (nI m)]) d_137_20 (fun _ => rfl) ?_
    exact cr_ri d_137_24 cx_137 rfl ⟨rfl, hW.mo⟩
theorem p_order_n {S : CS} {G : Nat → Nat → Value} {B : Nat → Nat → Int32} {J : Nat → Nat → Int64} {R : Nat → Nat → Option Nat} {n : Nat} {W : WS} (hW : WC n S G B R W) {t : Int32} (hh : ¬ hasP (wK W) t) : CR 80 137 0 [some (.ref 2), some (.int t)] [] S G B J R (fun r S' G' B' J' R' => r = some (.int (-1)) ∧ WC (n + 1) S' G' B' R' W) := by
  have hS := hW.1.1
  have hF := hW.2.1
  have hO := hW.2.2.2.1
  obtain ⟨ta, ka, la, hH, hLk, hl2, hs3, hbd⟩ := hW.2.2.1
  refine cr_nx (pc' := 1) (al' := [some (.ref 2), some (.int t)]) (st' := [.ref 2]) d_137_0 (fun _ => rfl) ?_
  refine cr_nx (pc' := 2) (al' := [some (.ref 2), some (.int t)]) (st' := [.int t, .ref 2]) d_137_1 (fun _ => rfl) ?_
  refine cr_pv (b := 2) (as := [.int t]) (al0 := [some (.ref 2), some (.int t)]) (r := []) d_137_2 cw_137 cm_11_137 cz_126 rfl rfl (hS.i (a := 2) (by decide) (by decide)) (by rw [cw_126]; exact (hS.s (a := 2) (by decide) (by decide) rfl)) (by rw [cw_126]; decide) rfl (Nat.le_of_ble_eq_true rfl) (k_has hS hF hH hO) ?_
  show CR _ _ 5 [some (.ref 2), some (.int t)] [.int (bI (hasP (wK W) t))] S G B J R _
  refine cr_beq (t := 23) d_137_5 (by decide) (fun c5 => ?_) (fun c5 => ?_)
  · refine cr_nx (pc' := 24) (al' := [some (.ref 2), some (.int t)]) (st' := [.int (-1)]) d_137_23 (fun _ => rfl) ?_
    exact cr_ri d_137_24 cx_137 rfl ⟨rfl, hW.mo⟩
  · exact absurd c5 hh
theorem r_order_y {g : Nat → Int32} {A : Nat → Nat → Int32} {n : Nat} {W : WS} (hW : WR n g A W) (hO : CoOk (wK W)) {j m : Nat} {c : Nat → Nat} (hj : j < 6) (htb : tbK (wK W) j = (m, c)) (h1 : 1 ≤ m) : RR 80 183 0 [some (.ref 146), some (.int (nI j))] [] g A (fun r g' A' => r = some (.int (nI m)) ∧ WR (n + 1) g' A' W) := by
  have hsh := hW.1.1.1 j hj
  rw [show kH (wK W) (kD (wK W)) j = (m, c) from htb] at hsh
  have hok := tb_ok hO hj
  rw [htb] at hok
  have hk : A 1 (37 * j) = nI m := hsh.1
  have hl : Lat m c := hok.2
  have hm6 : m ≤ 6 := hok.1
  have hyes : isT A (nI j) := (has_r hW hO).mpr ((has_i hj).mpr (by rw [htb]; exact h1))
  refine rr_nx (pc' := 1) (al' := [some (.ref 146), some (.int (nI j))]) (st' := [.ref 146]) d_183_0 (fun _ => rfl) ?_
  refine rr_nx (pc' := 2) (al' := [some (.ref 146), some (.int (nI j))]) (st' := [.int (nI j), .ref 146]) d_183_1 (fun _ => rfl) ?_
  refine rr_pv (as := [.int (nI j)]) (al0 := [some (.ref 146), some (.int (nI j))]) (r := []) d_183_2 mo_183 ml_124 mz_184 rfl rfl rfl (Nat.le_of_ble_eq_true rfl) (s_isTable (nI j)) ?_
  show RR _ _ 5 [some (.ref 146), some (.int (nI j))] [.int (bI (isT A (nI j)))] g A _
  refine rr_beq (t := 16) d_183_5 (by decide) (fun c5 => ?_) (fun c5 => ?_)
  · exact absurd hyes c5
  · refine rr_nx (pc' := 9) (al' := [some (.ref 146), some (.int (nI j))]) (st' := [.ref 146]) d_183_8 (fun _ => rfl) ?_
    refine rr_nx (pc' := 10) (al' := [some (.ref 146), some (.int (nI j))]) (st' := [.int (nI j), .ref 146]) d_183_9 (fun _ => rfl) ?_
    refine rr_pv (as := [.int (nI j)]) (al0 := [some (.ref 146), some (.int (nI j))]) (r := []) d_183_10 mo_183 ml_121 mz_186 rfl rfl rfl (Nat.le_of_ble_eq_true rfl) (s_orderOf (by omega)) ?_
    show RR _ _ 13 [some (.ref 146), some (.int (nI j))] [.int (A 1 (37 * j))] g A _
    refine rr_nx (pc' := 17) (al' := [some (.ref 146), some (.int (nI j))]) (st' := [.int (A 1 (37 * j))]) d_183_13 (fun _ => rfl) ?_
    exact rr_ri d_183_17 mr_183 rfl ⟨by rw [hk], hW.mo⟩
theorem r_order_n {g : Nat → Int32} {A : Nat → Nat → Int32} {n : Nat} {W : WS} (hW : WR n g A W) (hO : CoOk (wK W)) {t : Int32} (hh : ¬ hasP (wK W) t) : RR 80 183 0 [some (.ref 146), some (.int t)] [] g A (fun r g' A' => r = some (.int (-1)) ∧ WR (n + 1) g' A' W) := by
  refine rr_nx (pc' := 1) (al' := [some (.ref 146), some (.int t)]) (st' := [.ref 146]) d_183_0 (fun _ => rfl) ?_
  refine rr_nx (pc' := 2) (al' := [some (.ref 146), some (.int t)]) (st' := [.int t, .ref 146]) d_183_1 (fun _ => rfl) ?_
  refine rr_pv (as := [.int t]) (al0 := [some (.ref 146), some (.int t)]) (r := []) d_183_2 mo_183 ml_124 mz_184 rfl rfl rfl (Nat.le_of_ble_eq_true rfl) (s_isTable t) ?_
  show RR _ _ 5 [some (.ref 146), some (.int t)] [.int (bI (isT A t))] g A _
  refine rr_beq (t := 16) d_183_5 (by decide) (fun c5 => ?_) (fun c5 => ?_)
  · refine rr_nx (pc' := 17) (al' := [some (.ref 146), some (.int t)]) (st' := [.int (-1)]) d_183_16 (fun _ => rfl) ?_
    exact rr_ri d_183_17 mr_183 rfl ⟨rfl, hW.mo⟩
  · exact absurd c5 (fun e_ => hh ((has_r hW hO).mp e_))
theorem T_order {S : CS} {G : Nat → Nat → Value} {B : Nat → Nat → Int32} {J : Nat → Nat → Int64} {R : Nat → Nat → Option Nat} {g : Nat → Int32} {A : Nat → Nat → Int32} {n : Nat} {W : WS} (hC : WC n S G B R W) (hR : WR n g A W) (hn : n ≤ 10000) {t : Int32} : Tie n 137 183 [some (.ref 2), some (.int t)] [some (.ref 146), some (.int t)] S G B J R g A W := by
  have hO := hC.2.2.2.1
  by_cases hh : hasP (wK W) t
  · obtain ⟨j, hj, e_, h1⟩ := has_n hh
    subst e_
    obtain ⟨⟨m, c⟩, htb⟩ : ∃ tb, tbK (wK W) j = tb := ⟨_, rfl⟩
    rw [htb] at h1
    exact ⟨_, W, p_order_y hC hj htb h1, r_order_y hR hO hj htb h1⟩
  · exact ⟨_, W, p_order_n hC hh, r_order_n hR hO hh⟩
theorem p_nucleus0 {S : CS} {G : Nat → Nat → Value} {B : Nat → Nat → Int32} {J : Nat → Nat → Int64} {R : Nat → Nat → Option Nat} {n : Nat} {W : WS} (hW : WC n S G B R W) {j m : Nat} {c : Nat → Nat} (hj : j < 6) (htb : tbK (wK W) j = (m, c)) (h1 : 1 ≤ m) : CR 80 148 0 [some (.ref 2), some (.int (nI j)), some (.int (nI 0))] [] S G B J R (fun r S' G' B' J' R' => r = some (.int (nI (nuV 0 m c))) ∧ WC (n + 1) S' G' B' R' W) := by
  have hS := hW.1.1
  have hF := hW.2.1
  have hO := hW.2.2.2.1
  obtain ⟨ta, ka, la, hH, hLk, hl2, hs3, hbd⟩ := hW.2.2.1
  obtain ⟨zt, hzt, ezt⟩ := (hH.2.1 j hj).2
  have ht := hH.ta hj
  have hsh := hH.2.2.2.2.2.2.1 j hj
  rw [show kH (wK W) (kD (wK W)) j = (m, c) from htb] at hsh
  have hok := tb_ok hO hj
  rw [htb] at hok
  have hn : G (ta j) 0 = .int (nI m) := hsh.1
  have hc : TabC B (ta j) m c := hsh.c hok
  have hl : Lat m c := hok.2
  have hm6 : m ≤ 6 := hok.1
  have hyes : hasP (wK W) (nI j) := (has_i hj).mpr (by rw [htb]; exact h1)
  refine cr_nx (pc' := 1) (al' := [some (.ref 2), some (.int (nI j)), some (.int (nI 0))]) (st' := [.ref 2]) d_148_0 (fun _ => rfl) ?_
  refine cr_nx (pc' := 2) (al' := [some (.ref 2), some (.int (nI j)), some (.int (nI 0))]) (st' := [.int (nI j), .ref 2]) d_148_1 (fun _ => rfl) ?_
  refine cr_pv (b := 2) (as := [.int (nI j)]) (al0 := [some (.ref 2), some (.int (nI j))]) (r := []) d_148_2 cw_148 cm_11_137 cz_126 rfl rfl (hS.i (a := 2) (by decide) (by decide)) (by rw [cw_126]; exact (hS.s (a := 2) (by decide) (by decide) rfl)) (by rw [cw_126]; decide) rfl (Nat.le_of_ble_eq_true rfl) (k_has hS hF hH hO) ?_
  show CR _ _ 5 [some (.ref 2), some (.int (nI j)), some (.int (nI 0))] [.int (bI (hasP (wK W) (nI j)))] S G B J R _
  refine cr_beq (t := 24) d_148_5 (by decide) (fun c5 => ?_) (fun c5 => ?_)
  · exact absurd hyes c5
  · refine cr_nx (pc' := 9) (al' := [some (.ref 2), some (.int (nI j)), some (.int (nI 0))]) (st' := [.ref 2]) d_148_8 (fun _ => rfl) ?_
    refine cr_gf (v := .ref 3) d_148_9 cw_148 cf_11_10 (hS.i (a := 2) (by decide) (by decide)) (hS.s (a := 2) (by decide) (by decide) rfl) (by decide) (fx_2_0 hF) ?_
    refine cr_gf (v := .ref 4) d_148_12 cw_148 cf_11_140 (hS.i (a := 3) (by decide) (by decide)) (hS.s (a := 3) (by decide) (by decide) rfl) (by decide) (fx_3_0 hF) ?_
    refine cr_nx (pc' := 16) (al' := [some (.ref 2), some (.int (nI j)), some (.int (nI 0))]) (st' := [.int (nI j), .ref 4]) d_148_15 (fun _ => rfl) ?_
    refine cr_aa (a := 4) (v := .ref (ta j)) d_148_16 (hS.i (a := 4) (by decide) (by decide)) (by decide) (hS.s (a := 4) (by decide) (by decide) rfl) (by decide) (show j < 6 by first | omega | assumption | exact cu_36 (by omega) (cu_lt (by omega) (by omega))) (show va_rf _ = _ by rw [(hH.2.1 j hj).1]; rfl) ?_
    refine cr_nx (pc' := 18) (al' := [some (.ref 2), some (.int (nI j)), some (.int (nI 0))]) (st' := [.int (nI 0), .ref (ta j)]) d_148_17 (fun _ => rfl) ?_
    refine cr_ps (as := [.ref (ta j), .int (nI 0)]) (al0 := [some (.ref (ta j)), some (.int (nI 0))]) (r := []) d_148_18 cw_148 cm_11_274 (by decide) cz_55 rfl rfl rfl (Nat.le_of_ble_eq_true rfl) (k_nucleusBits0 ht hn hc) ?_
    show CR _ _ 21 [some (.ref 2), some (.int (nI j)), some (.int (nI 0))] [.int (nI (nuV 0 m c))] S G B J R _
    refine cr_nx (pc' := 25) (al' := [some (.ref 2), some (.int (nI j)), some (.int (nI 0))]) (st' := [.int (nI (nuV 0 m c))]) d_148_21 (fun _ => rfl) ?_
    exact cr_ri d_148_25 cx_148 rfl ⟨rfl, hW.mo⟩
theorem r_nucleus0 {g : Nat → Int32} {A : Nat → Nat → Int32} {n : Nat} {W : WS} (hW : WR n g A W) (hO : CoOk (wK W)) {j m : Nat} {c : Nat → Nat} (hj : j < 6) (htb : tbK (wK W) j = (m, c)) (h1 : 1 ≤ m) : RR 80 251 0 [some (.ref 146), some (.int (nI j)), some (.int (nI 0)), none, none, none, none] [] g A (fun r g' A' => r = some (.int (nI (nuV 0 m c))) ∧ WR (n + 1) g' A' W) := by
  have hsh := hW.1.1.1 j hj
  rw [show kH (wK W) (kD (wK W)) j = (m, c) from htb] at hsh
  have hok := tb_ok hO hj
  rw [htb] at hok
  have hk : A 1 (37 * j) = nI m := hsh.1
  have hl : Lat m c := hok.2
  have hm6 : m ≤ 6 := hok.1
  have hyes : isT A (nI j) := (has_r hW hO).mpr ((has_i hj).mpr (by rw [htb]; exact h1))
  refine rr_nx (pc' := 1) (al' := [some (.ref 146), some (.int (nI j)), some (.int (nI 0)), none, none, none, none]) (st' := [.ref 146]) d_251_0 (fun _ => rfl) ?_
  refine rr_nx (pc' := 2) (al' := [some (.ref 146), some (.int (nI j)), some (.int (nI 0)), none, none, none, none]) (st' := [.int (nI j), .ref 146]) d_251_1 (fun _ => rfl) ?_
  refine rr_pv (as := [.int (nI j)]) (al0 := [some (.ref 146), some (.int (nI j))]) (r := []) d_251_2 mo_251 ml_124 mz_184 rfl rfl rfl (Nat.le_of_ble_eq_true rfl) (s_isTable (nI j)) ?_
  show RR _ _ 5 [some (.ref 146), some (.int (nI j)), some (.int (nI 0)), none, none, none, none] [.int (bI (isT A (nI j)))] g A _
  refine rr_beq (t := 17) d_251_5 (by decide) (fun c5 => ?_) (fun c5 => ?_)
  · exact absurd hyes c5
  · refine rr_nx (pc' := 9) (al' := [some (.ref 146), some (.int (nI j)), some (.int (nI 0)), none, none, none, none]) (st' := [.int (nI 0)]) d_251_8 (fun _ => rfl) ?_
    refine rn_ic (v := 0) d_251_9 (by decide) ?_
    refine rn_ic (v := 5) d_251_10 (by decide) ?_
    refine rr_ps (as := [.int (nI 0), .int (nI 0), .int (nI 5)]) (al0 := [some (.int (nI 0)), some (.int (nI 0)), some (.int (nI 5))]) (r := []) d_251_11 mo_251 ml_106 mz_179 rfl rfl rfl (Nat.le_of_ble_eq_true rfl) (s_lies (nI 0) (nI 0) (nI 5)) ?_
    show RR _ _ 14 [some (.ref 146), some (.int (nI j)), some (.int (nI 0)), none, none, none, none] [.int (bI ((nI 0) ≤ (nI 0) ∧ (nI 0) ≤ (nI 5)))] g A _
    refine rr_bne (t := 19) d_251_14 (by decide) (fun c14 => ?_) (fun c14 => ?_)
    · refine rr_nx (pc' := 20) (al' := [some (.ref 146), some (.int (nI j)), some (.int (nI 0)), none, none, none, none]) (st' := [.ref 146]) d_251_19 (fun _ => rfl) ?_
      refine rr_nx (pc' := 21) (al' := [some (.ref 146), some (.int (nI j)), some (.int (nI 0)), none, none, none, none]) (st' := [.int (nI j), .ref 146]) d_251_20 (fun _ => rfl) ?_
      refine rr_pv (as := [.int (nI j)]) (al0 := [some (.ref 146), some (.int (nI j)), none]) (r := []) d_251_21 mo_251 ml_248 mz_208 rfl rfl rfl (Nat.le_of_ble_eq_true rfl) (s_lays (n := m) hj hm6 hk) ?_
      obtain ⟨wl21, hwl21⟩ : ∃ w_, w_ = rf_f (fun q => A 1 (37 * j + 1 + q)) (A 4) (m * m) := ⟨_, rfl⟩
      rw [← hwl21]
      show RR _ _ 24 [some (.ref 146), some (.int (nI j)), some (.int (nI 0)), none, none, none, none] [] (upd g 6 (nI m)) (rf_u A 4 wl21) _
      have hcu := cur_l (g := g) hsh hm6 hl hwl21
      refine rr_dr (al1 := [some (.ref 146), none, some (.int (nI 0)), none, none, none, none]) (le_s (le_d rfl (le_s (le_s (le_s (le_s (le_s (le_n)))))))) ?_
      refine rr_cq (rr_wk (by decide) (s_nucleus0_24 hcu)) ?_
      rintro r_ g_ A_ ⟨rfl, rfl, rfl⟩
      exact ⟨rfl, (hW.q (Gsm.rf.u rfl) (Ksm.rf.u rfl)).mo⟩
    · exact absurd (show nI 0 ≤ nI 0 ∧ nI 0 ≤ nI 5 by decide) c14
theorem p_nucleus1 {S : CS} {G : Nat → Nat → Value} {B : Nat → Nat → Int32} {J : Nat → Nat → Int64} {R : Nat → Nat → Option Nat} {n : Nat} {W : WS} (hW : WC n S G B R W) {j m : Nat} {c : Nat → Nat} (hj : j < 6) (htb : tbK (wK W) j = (m, c)) (h1 : 1 ≤ m) : CR 80 148 0 [some (.ref 2), some (.int (nI j)), some (.int (nI 1))] [] S G B J R (fun r S' G' B' J' R' => r = some (.int (nI (nuV 1 m c))) ∧ WC (n + 1) S' G' B' R' W) := by
  have hS := hW.1.1
  have hF := hW.2.1
  have hO := hW.2.2.2.1
  obtain ⟨ta, ka, la, hH, hLk, hl2, hs3, hbd⟩ := hW.2.2.1
  obtain ⟨zt, hzt, ezt⟩ := (hH.2.1 j hj).2
  have ht := hH.ta hj
  have hsh := hH.2.2.2.2.2.2.1 j hj
  rw [show kH (wK W) (kD (wK W)) j = (m, c) from htb] at hsh
  have hok := tb_ok hO hj
  rw [htb] at hok
  have hn : G (ta j) 0 = .int (nI m) := hsh.1
  have hc : TabC B (ta j) m c := hsh.c hok
  have hl : Lat m c := hok.2
  have hm6 : m ≤ 6 := hok.1
  have hyes : hasP (wK W) (nI j) := (has_i hj).mpr (by rw [htb]; exact h1)
  refine cr_nx (pc' := 1) (al' := [some (.ref 2), some (.int (nI j)), some (.int (nI 1))]) (st' := [.ref 2]) d_148_0 (fun _ => rfl) ?_
  refine cr_nx (pc' := 2) (al' := [some (.ref 2), some (.int (nI j)), some (.int (nI 1))]) (st' := [.int (nI j), .ref 2]) d_148_1 (fun _ => rfl) ?_
  refine cr_pv (b := 2) (as := [.int (nI j)]) (al0 := [some (.ref 2), some (.int (nI j))]) (r := []) d_148_2 cw_148 cm_11_137 cz_126 rfl rfl (hS.i (a := 2) (by decide) (by decide)) (by rw [cw_126]; exact (hS.s (a := 2) (by decide) (by decide) rfl)) (by rw [cw_126]; decide) rfl (Nat.le_of_ble_eq_true rfl) (k_has hS hF hH hO) ?_
  show CR _ _ 5 [some (.ref 2), some (.int (nI j)), some (.int (nI 1))] [.int (bI (hasP (wK W) (nI j)))] S G B J R _
  refine cr_beq (t := 24) d_148_5 (by decide) (fun c5 => ?_) (fun c5 => ?_)
  · exact absurd hyes c5
  · refine cr_nx (pc' := 9) (al' := [some (.ref 2), some (.int (nI j)), some (.int (nI 1))]) (st' := [.ref 2]) d_148_8 (fun _ => rfl) ?_
    refine cr_gf (v := .ref 3) d_148_9 cw_148 cf_11_10 (hS.i (a := 2) (by decide) (by decide)) (hS.s (a := 2) (by decide) (by decide) rfl) (by decide) (fx_2_0 hF) ?_
    refine cr_gf (v := .ref 4) d_148_12 cw_148 cf_11_140 (hS.i (a := 3) (by decide) (by decide)) (hS.s (a := 3) (by decide) (by decide) rfl) (by decide) (fx_3_0 hF) ?_
    refine cr_nx (pc' := 16) (al' := [some (.ref 2), some (.int (nI j)), some (.int (nI 1))]) (st' := [.int (nI j), .ref 4]) d_148_15 (fun _ => rfl) ?_
    refine cr_aa (a := 4) (v := .ref (ta j)) d_148_16 (hS.i (a := 4) (by decide) (by decide)) (by decide) (hS.s (a := 4) (by decide) (by decide) rfl) (by decide) (show j < 6 by first | omega | assumption | exact cu_36 (by omega) (cu_lt (by omega) (by omega))) (show va_rf _ = _ by rw [(hH.2.1 j hj).1]; rfl) ?_
    refine cr_nx (pc' := 18) (al' := [some (.ref 2), some (.int (nI j)), some (.int (nI 1))]) (st' := [.int (nI 1), .ref (ta j)]) d_148_17 (fun _ => rfl) ?_
    refine cr_ps (as := [.ref (ta j), .int (nI 1)]) (al0 := [some (.ref (ta j)), some (.int (nI 1))]) (r := []) d_148_18 cw_148 cm_11_274 (by decide) cz_55 rfl rfl rfl (Nat.le_of_ble_eq_true rfl) (k_nucleusBits1 ht hn hc) ?_
    show CR _ _ 21 [some (.ref 2), some (.int (nI j)), some (.int (nI 1))] [.int (nI (nuV 1 m c))] S G B J R _
    refine cr_nx (pc' := 25) (al' := [some (.ref 2), some (.int (nI j)), some (.int (nI 1))]) (st' := [.int (nI (nuV 1 m c))]) d_148_21 (fun _ => rfl) ?_
    exact cr_ri d_148_25 cx_148 rfl ⟨rfl, hW.mo⟩
theorem r_nucleus1 {g : Nat → Int32} {A : Nat → Nat → Int32} {n : Nat} {W : WS} (hW : WR n g A W) (hO : CoOk (wK W)) {j m : Nat} {c : Nat → Nat} (hj : j < 6) (htb : tbK (wK W) j = (m, c)) (h1 : 1 ≤ m) : RR 80 251 0 [some (.ref 146), some (.int (nI j)), some (.int (nI 1)), none, none, none, none] [] g A (fun r g' A' => r = some (.int (nI (nuV 1 m c))) ∧ WR (n + 1) g' A' W) := by
  have hsh := hW.1.1.1 j hj
  rw [show kH (wK W) (kD (wK W)) j = (m, c) from htb] at hsh
  have hok := tb_ok hO hj
  rw [htb] at hok
  have hk : A 1 (37 * j) = nI m := hsh.1
  have hl : Lat m c := hok.2
  have hm6 : m ≤ 6 := hok.1
  have hyes : isT A (nI j) := (has_r hW hO).mpr ((has_i hj).mpr (by rw [htb]; exact h1))
  refine rr_nx (pc' := 1) (al' := [some (.ref 146), some (.int (nI j)), some (.int (nI 1)), none, none, none, none]) (st' := [.ref 146]) d_251_0 (fun _ => rfl) ?_
  refine rr_nx (pc' := 2) (al' := [some (.ref 146), some (.int (nI j)), some (.int (nI 1)), none, none, none, none]) (st' := [.int (nI j), .ref 146]) d_251_1 (fun _ => rfl) ?_
  refine rr_pv (as := [.int (nI j)]) (al0 := [some (.ref 146), some (.int (nI j))]) (r := []) d_251_2 mo_251 ml_124 mz_184 rfl rfl rfl (Nat.le_of_ble_eq_true rfl) (s_isTable (nI j)) ?_
  show RR _ _ 5 [some (.ref 146), some (.int (nI j)), some (.int (nI 1)), none, none, none, none] [.int (bI (isT A (nI j)))] g A _
  refine rr_beq (t := 17) d_251_5 (by decide) (fun c5 => ?_) (fun c5 => ?_)
  · exact absurd hyes c5
  · refine rr_nx (pc' := 9) (al' := [some (.ref 146), some (.int (nI j)), some (.int (nI 1)), none, none, none, none]) (st' := [.int (nI 1)]) d_251_8 (fun _ => rfl) ?_
    refine rn_ic (v := 0) d_251_9 (by decide) ?_
    refine rn_ic (v := 5) d_251_10 (by decide) ?_
    refine rr_ps (as := [.int (nI 1), .int (nI 0), .int (nI 5)]) (al0 := [some (.int (nI 1)), some (.int (nI 0)), some (.int (nI 5))]) (r := []) d_251_11 mo_251 ml_106 mz_179 rfl rfl rfl (Nat.le_of_ble_eq_true rfl) (s_lies (nI 1) (nI 0) (nI 5)) ?_
    show RR _ _ 14 [some (.ref 146), some (.int (nI j)), some (.int (nI 1)), none, none, none, none] [.int (bI ((nI 0) ≤ (nI 1) ∧ (nI 1) ≤ (nI 5)))] g A _
    refine rr_bne (t := 19) d_251_14 (by decide) (fun c14 => ?_) (fun c14 => ?_)
    · refine rr_nx (pc' := 20) (al' := [some (.ref 146), some (.int (nI j)), some (.int (nI 1)), none, none, none, none]) (st' := [.ref 146]) d_251_19 (fun _ => rfl) ?_
      refine rr_nx (pc' := 21) (al' := [some (.ref 146), some (.int (nI j)), some (.int (nI 1)), none, none, none, none]) (st' := [.int (nI j), .ref 146]) d_251_20 (fun _ => rfl) ?_
      refine rr_pv (as := [.int (nI j)]) (al0 := [some (.ref 146), some (.int (nI j)), none]) (r := []) d_251_21 mo_251 ml_248 mz_208 rfl rfl rfl (Nat.le_of_ble_eq_true rfl) (s_lays (n := m) hj hm6 hk) ?_
      obtain ⟨wl21, hwl21⟩ : ∃ w_, w_ = rf_f (fun q => A 1 (37 * j + 1 + q)) (A 4) (m * m) := ⟨_, rfl⟩
      rw [← hwl21]
      show RR _ _ 24 [some (.ref 146), some (.int (nI j)), some (.int (nI 1)), none, none, none, none] [] (upd g 6 (nI m)) (rf_u A 4 wl21) _
      have hcu := cur_l (g := g) hsh hm6 hl hwl21
      refine rr_dr (al1 := [some (.ref 146), none, some (.int (nI 1)), none, none, none, none]) (le_s (le_d rfl (le_s (le_s (le_s (le_s (le_s (le_n)))))))) ?_
      refine rr_cq (rr_wk (by decide) (s_nucleus1_24 hcu)) ?_
      rintro r_ g_ A_ ⟨rfl, rfl, rfl⟩
      exact ⟨rfl, (hW.q (Gsm.rf.u rfl) (Ksm.rf.u rfl)).mo⟩
    · exact absurd (show nI 0 ≤ nI 1 ∧ nI 1 ≤ nI 5 by decide) c14
theorem p_nucleus2 {S : CS} {G : Nat → Nat → Value} {B : Nat → Nat → Int32} {J : Nat → Nat → Int64} {R : Nat → Nat → Option Nat} {n : Nat} {W : WS} (hW : WC n S G B R W) {j m : Nat} {c : Nat → Nat} (hj : j < 6) (htb : tbK (wK W) j = (m, c)) (h1 : 1 ≤ m) : CR 80 148 0 [some (.ref 2), some (.int (nI j)), some (.int (nI 2))] [] S G B J R (fun r S' G' B' J' R' => r = some (.int (nI (nuV 2 m c))) ∧ WC (n + 1) S' G' B' R' W) := by
  have hS := hW.1.1
  have hF := hW.2.1
  have hO := hW.2.2.2.1
  obtain ⟨ta, ka, la, hH, hLk, hl2, hs3, hbd⟩ := hW.2.2.1
  obtain ⟨zt, hzt, ezt⟩ := (hH.2.1 j hj).2
  have ht := hH.ta hj
  have hsh := hH.2.2.2.2.2.2.1 j hj
  rw [show kH (wK W) (kD (wK W)) j = (m, c) from htb] at hsh
  have hok := tb_ok hO hj
  rw [htb] at hok
  have hn : G (ta j) 0 = .int (nI m) := hsh.1
  have hc : TabC B (ta j) m c := hsh.c hok
  have hl : Lat m c := hok.2
  have hm6 : m ≤ 6 := hok.1
  have hyes : hasP (wK W) (nI j) := (has_i hj).mpr (by rw [htb]; exact h1)
  refine cr_nx (pc' := 1) (al' := [some (.ref 2), some (.int (nI j)), some (.int (nI 2))]) (st' := [.ref 2]) d_148_0 (fun _ => rfl) ?_
  refine cr_nx (pc' := 2) (al' := [some (.ref 2), some (.int (nI j)), some (.int (nI 2))]) (st' := [.int (nI j), .ref 2]) d_148_1 (fun _ => rfl) ?_
  refine cr_pv (b := 2) (as := [.int (nI j)]) (al0 := [some (.ref 2), some (.int (nI j))]) (r := []) d_148_2 cw_148 cm_11_137 cz_126 rfl rfl (hS.i (a := 2) (by decide) (by decide)) (by rw [cw_126]; exact (hS.s (a := 2) (by decide) (by decide) rfl)) (by rw [cw_126]; decide) rfl (Nat.le_of_ble_eq_true rfl) (k_has hS hF hH hO) ?_
  show CR _ _ 5 [some (.ref 2), some (.int (nI j)), some (.int (nI 2))] [.int (bI (hasP (wK W) (nI j)))] S G B J R _
  refine cr_beq (t := 24) d_148_5 (by decide) (fun c5 => ?_) (fun c5 => ?_)
  · exact absurd hyes c5
  · refine cr_nx (pc' := 9) (al' := [some (.ref 2), some (.int (nI j)), some (.int (nI 2))]) (st' := [.ref 2]) d_148_8 (fun _ => rfl) ?_
    refine cr_gf (v := .ref 3) d_148_9 cw_148 cf_11_10 (hS.i (a := 2) (by decide) (by decide)) (hS.s (a := 2) (by decide) (by decide) rfl) (by decide) (fx_2_0 hF) ?_
    refine cr_gf (v := .ref 4) d_148_12 cw_148 cf_11_140 (hS.i (a := 3) (by decide) (by decide)) (hS.s (a := 3) (by decide) (by decide) rfl) (by decide) (fx_3_0 hF) ?_
    refine cr_nx (pc' := 16) (al' := [some (.ref 2), some (.int (nI j)), some (.int (nI 2))]) (st' := [.int (nI j), .ref 4]) d_148_15 (fun _ => rfl) ?_
    refine cr_aa (a := 4) (v := .ref (ta j)) d_148_16 (hS.i (a := 4) (by decide) (by decide)) (by decide) (hS.s (a := 4) (by decide) (by decide) rfl) (by decide) (show j < 6 by first | omega | assumption | exact cu_36 (by omega) (cu_lt (by omega) (by omega))) (show va_rf _ = _ by rw [(hH.2.1 j hj).1]; rfl) ?_
    refine cr_nx (pc' := 18) (al' := [some (.ref 2), some (.int (nI j)), some (.int (nI 2))]) (st' := [.int (nI 2), .ref (ta j)]) d_148_17 (fun _ => rfl) ?_
    refine cr_ps (as := [.ref (ta j), .int (nI 2)]) (al0 := [some (.ref (ta j)), some (.int (nI 2))]) (r := []) d_148_18 cw_148 cm_11_274 (by decide) cz_55 rfl rfl rfl (Nat.le_of_ble_eq_true rfl) (k_nucleusBits2 ht hn hc) ?_
    show CR _ _ 21 [some (.ref 2), some (.int (nI j)), some (.int (nI 2))] [.int (nI (nuV 2 m c))] S G B J R _
    refine cr_nx (pc' := 25) (al' := [some (.ref 2), some (.int (nI j)), some (.int (nI 2))]) (st' := [.int (nI (nuV 2 m c))]) d_148_21 (fun _ => rfl) ?_
    exact cr_ri d_148_25 cx_148 rfl ⟨rfl, hW.mo⟩
theorem r_nucleus2 {g : Nat → Int32} {A : Nat → Nat → Int32} {n : Nat} {W : WS} (hW : WR n g A W) (hO : CoOk (wK W)) {j m : Nat} {c : Nat → Nat} (hj : j < 6) (htb : tbK (wK W) j = (m, c)) (h1 : 1 ≤ m) : RR 80 251 0 [some (.ref 146), some (.int (nI j)), some (.int (nI 2)), none, none, none, none] [] g A (fun r g' A' => r = some (.int (nI (nuV 2 m c))) ∧ WR (n + 1) g' A' W) := by
  have hsh := hW.1.1.1 j hj
  rw [show kH (wK W) (kD (wK W)) j = (m, c) from htb] at hsh
  have hok := tb_ok hO hj
  rw [htb] at hok
  have hk : A 1 (37 * j) = nI m := hsh.1
  have hl : Lat m c := hok.2
  have hm6 : m ≤ 6 := hok.1
  have hyes : isT A (nI j) := (has_r hW hO).mpr ((has_i hj).mpr (by rw [htb]; exact h1))
  refine rr_nx (pc' := 1) (al' := [some (.ref 146), some (.int (nI j)), some (.int (nI 2)), none, none, none, none]) (st' := [.ref 146]) d_251_0 (fun _ => rfl) ?_
  refine rr_nx (pc' := 2) (al' := [some (.ref 146), some (.int (nI j)), some (.int (nI 2)), none, none, none, none]) (st' := [.int (nI j), .ref 146]) d_251_1 (fun _ => rfl) ?_
  refine rr_pv (as := [.int (nI j)]) (al0 := [some (.ref 146), some (.int (nI j))]) (r := []) d_251_2 mo_251 ml_124 mz_184 rfl rfl rfl (Nat.le_of_ble_eq_true rfl) (s_isTable (nI j)) ?_
  show RR _ _ 5 [some (.ref 146), some (.int (nI j)), some (.int (nI 2)), none, none, none, none] [.int (bI (isT A (nI j)))] g A _
  refine rr_beq (t := 17) d_251_5 (by decide) (fun c5 => ?_) (fun c5 => ?_)
  · exact absurd hyes c5
  · refine rr_nx (pc' := 9) (al' := [some (.ref 146), some (.int (nI j)), some (.int (nI 2)), none, none, none, none]) (st' := [.int (nI 2)]) d_251_8 (fun _ => rfl) ?_
    refine rn_ic (v := 0) d_251_9 (by decide) ?_
    refine rn_ic (v := 5) d_251_10 (by decide) ?_
    refine rr_ps (as := [.int (nI 2), .int (nI 0), .int (nI 5)]) (al0 := [some (.int (nI 2)), some (.int (nI 0)), some (.int (nI 5))]) (r := []) d_251_11 mo_251 ml_106 mz_179 rfl rfl rfl (Nat.le_of_ble_eq_true rfl) (s_lies (nI 2) (nI 0) (nI 5)) ?_
    show RR _ _ 14 [some (.ref 146), some (.int (nI j)), some (.int (nI 2)), none, none, none, none] [.int (bI ((nI 0) ≤ (nI 2) ∧ (nI 2) ≤ (nI 5)))] g A _
    refine rr_bne (t := 19) d_251_14 (by decide) (fun c14 => ?_) (fun c14 => ?_)
    · refine rr_nx (pc' := 20) (al' := [some (.ref 146), some (.int (nI j)), some (.int (nI 2)), none, none, none, none]) (st' := [.ref 146]) d_251_19 (fun _ => rfl) ?_
      refine rr_nx (pc' := 21) (al' := [some (.ref 146), some (.int (nI j)), some (.int (nI 2)), none, none, none, none]) (st' := [.int (nI j), .ref 146]) d_251_20 (fun _ => rfl) ?_
      refine rr_pv (as := [.int (nI j)]) (al0 := [some (.ref 146), some (.int (nI j)), none]) (r := []) d_251_21 mo_251 ml_248 mz_208 rfl rfl rfl (Nat.le_of_ble_eq_true rfl) (s_lays (n := m) hj hm6 hk) ?_
      obtain ⟨wl21, hwl21⟩ : ∃ w_, w_ = rf_f (fun q => A 1 (37 * j + 1 + q)) (A 4) (m * m) := ⟨_, rfl⟩
      rw [← hwl21]
      show RR _ _ 24 [some (.ref 146), some (.int (nI j)), some (.int (nI 2)), none, none, none, none] [] (upd g 6 (nI m)) (rf_u A 4 wl21) _
      have hcu := cur_l (g := g) hsh hm6 hl hwl21
      refine rr_dr (al1 := [some (.ref 146), none, some (.int (nI 2)), none, none, none, none]) (le_s (le_d rfl (le_s (le_s (le_s (le_s (le_s (le_n)))))))) ?_
      refine rr_cq (rr_wk (by decide) (s_nucleus2_24 hcu)) ?_
      rintro r_ g_ A_ ⟨rfl, rfl, rfl⟩
      exact ⟨rfl, (hW.q (Gsm.rf.u rfl) (Ksm.rf.u rfl)).mo⟩
    · exact absurd (show nI 0 ≤ nI 2 ∧ nI 2 ≤ nI 5 by decide) c14
theorem p_nucleus3 {S : CS} {G : Nat → Nat → Value} {B : Nat → Nat → Int32} {J : Nat → Nat → Int64} {R : Nat → Nat → Option Nat} {n : Nat} {W : WS} (hW : WC n S G B R W) {j m : Nat} {c : Nat → Nat} (hj : j < 6) (htb : tbK (wK W) j = (m, c)) (h1 : 1 ≤ m) : CR 80 148 0 [some (.ref 2), some (.int (nI j)), some (.int (nI 3))] [] S G B J R (fun r S' G' B' J' R' => r = some (.int (nI (nuV 3 m c))) ∧ WC (n + 1) S' G' B' R' W) := by
  have hS := hW.1.1
  have hF := hW.2.1
  have hO := hW.2.2.2.1
  obtain ⟨ta, ka, la, hH, hLk, hl2, hs3, hbd⟩ := hW.2.2.1
  obtain ⟨zt, hzt, ezt⟩ := (hH.2.1 j hj).2
  have ht := hH.ta hj
  have hsh := hH.2.2.2.2.2.2.1 j hj
  rw [show kH (wK W) (kD (wK W)) j = (m, c) from htb] at hsh
  have hok := tb_ok hO hj
  rw [htb] at hok
  have hn : G (ta j) 0 = .int (nI m) := hsh.1
  have hc : TabC B (ta j) m c := hsh.c hok
  have hl : Lat m c := hok.2
  have hm6 : m ≤ 6 := hok.1
  have hyes : hasP (wK W) (nI j) := (has_i hj).mpr (by rw [htb]; exact h1)
  refine cr_nx (pc' := 1) (al' := [some (.ref 2), some (.int (nI j)), some (.int (nI 3))]) (st' := [.ref 2]) d_148_0 (fun _ => rfl) ?_
  refine cr_nx (pc' := 2) (al' := [some (.ref 2), some (.int (nI j)), some (.int (nI 3))]) (st' := [.int (nI j), .ref 2]) d_148_1 (fun _ => rfl) ?_
  refine cr_pv (b := 2) (as := [.int (nI j)]) (al0 := [some (.ref 2), some (.int (nI j))]) (r := []) d_148_2 cw_148 cm_11_137 cz_126 rfl rfl (hS.i (a := 2) (by decide) (by decide)) (by rw [cw_126]; exact (hS.s (a := 2) (by decide) (by decide) rfl)) (by rw [cw_126]; decide) rfl (Nat.le_of_ble_eq_true rfl) (k_has hS hF hH hO) ?_
  show CR _ _ 5 [some (.ref 2), some (.int (nI j)), some (.int (nI 3))] [.int (bI (hasP (wK W) (nI j)))] S G B J R _
  refine cr_beq (t := 24) d_148_5 (by decide) (fun c5 => ?_) (fun c5 => ?_)
  · exact absurd hyes c5
  · refine cr_nx (pc' := 9) (al' := [some (.ref 2), some (.int (nI j)), some (.int (nI 3))]) (st' := [.ref 2]) d_148_8 (fun _ => rfl) ?_
    refine cr_gf (v := .ref 3) d_148_9 cw_148 cf_11_10 (hS.i (a := 2) (by decide) (by decide)) (hS.s (a := 2) (by decide) (by decide) rfl) (by decide) (fx_2_0 hF) ?_
    refine cr_gf (v := .ref 4) d_148_12 cw_148 cf_11_140 (hS.i (a := 3) (by decide) (by decide)) (hS.s (a := 3) (by decide) (by decide) rfl) (by decide) (fx_3_0 hF) ?_
    refine cr_nx (pc' := 16) (al' := [some (.ref 2), some (.int (nI j)), some (.int (nI 3))]) (st' := [.int (nI j), .ref 4]) d_148_15 (fun _ => rfl) ?_
    refine cr_aa (a := 4) (v := .ref (ta j)) d_148_16 (hS.i (a := 4) (by decide) (by decide)) (by decide) (hS.s (a := 4) (by decide) (by decide) rfl) (by decide) (show j < 6 by first | omega | assumption | exact cu_36 (by omega) (cu_lt (by omega) (by omega))) (show va_rf _ = _ by rw [(hH.2.1 j hj).1]; rfl) ?_
    refine cr_nx (pc' := 18) (al' := [some (.ref 2), some (.int (nI j)), some (.int (nI 3))]) (st' := [.int (nI 3), .ref (ta j)]) d_148_17 (fun _ => rfl) ?_
    refine cr_ps (as := [.ref (ta j), .int (nI 3)]) (al0 := [some (.ref (ta j)), some (.int (nI 3))]) (r := []) d_148_18 cw_148 cm_11_274 (by decide) cz_55 rfl rfl rfl (Nat.le_of_ble_eq_true rfl) (k_nucleusBits3 ht hn hc) ?_
    show CR _ _ 21 [some (.ref 2), some (.int (nI j)), some (.int (nI 3))] [.int (nI (nuV 3 m c))] S G B J R _
    refine cr_nx (pc' := 25) (al' := [some (.ref 2), some (.int (nI j)), some (.int (nI 3))]) (st' := [.int (nI (nuV 3 m c))]) d_148_21 (fun _ => rfl) ?_
    exact cr_ri d_148_25 cx_148 rfl ⟨rfl, hW.mo⟩
theorem r_nucleus3 {g : Nat → Int32} {A : Nat → Nat → Int32} {n : Nat} {W : WS} (hW : WR n g A W) (hO : CoOk (wK W)) {j m : Nat} {c : Nat → Nat} (hj : j < 6) (htb : tbK (wK W) j = (m, c)) (h1 : 1 ≤ m) : RR 80 251 0 [some (.ref 146), some (.int (nI j)), some (.int (nI 3)), none, none, none, none] [] g A (fun r g' A' => r = some (.int (nI (nuV 3 m c))) ∧ WR (n + 1) g' A' W) := by
  have hsh := hW.1.1.1 j hj
  rw [show kH (wK W) (kD (wK W)) j = (m, c) from htb] at hsh
  have hok := tb_ok hO hj
  rw [htb] at hok
  have hk : A 1 (37 * j) = nI m := hsh.1
  have hl : Lat m c := hok.2
  have hm6 : m ≤ 6 := hok.1
  have hyes : isT A (nI j) := (has_r hW hO).mpr ((has_i hj).mpr (by rw [htb]; exact h1))
  refine rr_nx (pc' := 1) (al' := [some (.ref 146), some (.int (nI j)), some (.int (nI 3)), none, none, none, none]) (st' := [.ref 146]) d_251_0 (fun _ => rfl) ?_
  refine rr_nx (pc' := 2) (al' := [some (.ref 146), some (.int (nI j)), some (.int (nI 3)), none, none, none, none]) (st' := [.int (nI j), .ref 146]) d_251_1 (fun _ => rfl) ?_
  refine rr_pv (as := [.int (nI j)]) (al0 := [some (.ref 146), some (.int (nI j))]) (r := []) d_251_2 mo_251 ml_124 mz_184 rfl rfl rfl (Nat.le_of_ble_eq_true rfl) (s_isTable (nI j)) ?_
  show RR _ _ 5 [some (.ref 146), some (.int (nI j)), some (.int (nI 3)), none, none, none, none] [.int (bI (isT A (nI j)))] g A _
  refine rr_beq (t := 17) d_251_5 (by decide) (fun c5 => ?_) (fun c5 => ?_)
  · exact absurd hyes c5
  · refine rr_nx (pc' := 9) (al' := [some (.ref 146), some (.int (nI j)), some (.int (nI 3)), none, none, none, none]) (st' := [.int (nI 3)]) d_251_8 (fun _ => rfl) ?_
    refine rn_ic (v := 0) d_251_9 (by decide) ?_
    refine rn_ic (v := 5) d_251_10 (by decide) ?_
    refine rr_ps (as := [.int (nI 3), .int (nI 0), .int (nI 5)]) (al0 := [some (.int (nI 3)), some (.int (nI 0)), some (.int (nI 5))]) (r := []) d_251_11 mo_251 ml_106 mz_179 rfl rfl rfl (Nat.le_of_ble_eq_true rfl) (s_lies (nI 3) (nI 0) (nI 5)) ?_
    show RR _ _ 14 [some (.ref 146), some (.int (nI j)), some (.int (nI 3)), none, none, none, none] [.int (bI ((nI 0) ≤ (nI 3) ∧ (nI 3) ≤ (nI 5)))] g A _
    refine rr_bne (t := 19) d_251_14 (by decide) (fun c14 => ?_) (fun c14 => ?_)
    · refine rr_nx (pc' := 20) (al' := [some (.ref 146), some (.int (nI j)), some (.int (nI 3)), none, none, none, none]) (st' := [.ref 146]) d_251_19 (fun _ => rfl) ?_
      refine rr_nx (pc' := 21) (al' := [some (.ref 146), some (.int (nI j)), some (.int (nI 3)), none, none, none, none]) (st' := [.int (nI j), .ref 146]) d_251_20 (fun _ => rfl) ?_
      refine rr_pv (as := [.int (nI j)]) (al0 := [some (.ref 146), some (.int (nI j)), none]) (r := []) d_251_21 mo_251 ml_248 mz_208 rfl rfl rfl (Nat.le_of_ble_eq_true rfl) (s_lays (n := m) hj hm6 hk) ?_
      obtain ⟨wl21, hwl21⟩ : ∃ w_, w_ = rf_f (fun q => A 1 (37 * j + 1 + q)) (A 4) (m * m) := ⟨_, rfl⟩
      rw [← hwl21]
      show RR _ _ 24 [some (.ref 146), some (.int (nI j)), some (.int (nI 3)), none, none, none, none] [] (upd g 6 (nI m)) (rf_u A 4 wl21) _
      have hcu := cur_l (g := g) hsh hm6 hl hwl21
      refine rr_dr (al1 := [some (.ref 146), none, some (.int (nI 3)), none, none, none, none]) (le_s (le_d rfl (le_s (le_s (le_s (le_s (le_s (le_n)))))))) ?_
      refine rr_cq (rr_wk (by decide) (s_nucleus3_24 hcu)) ?_
      rintro r_ g_ A_ ⟨rfl, rfl, rfl⟩
      exact ⟨rfl, (hW.q (Gsm.rf.u rfl) (Ksm.rf.u rfl)).mo⟩
    · exact absurd (show nI 0 ≤ nI 3 ∧ nI 3 ≤ nI 5 by decide) c14
theorem p_nucleus4 {S : CS} {G : Nat → Nat → Value} {B : Nat → Nat → Int32} {J : Nat → Nat → Int64} {R : Nat → Nat → Option Nat} {n : Nat} {W : WS} (hW : WC n S G B R W) {j m : Nat} {c : Nat → Nat} (hj : j < 6) (htb : tbK (wK W) j = (m, c)) (h1 : 1 ≤ m) : CR 80 148 0 [some (.ref 2), some (.int (nI j)), some (.int (nI 4))] [] S G B J R (fun r S' G' B' J' R' => r = some (.int (nI (nuV 4 m c))) ∧ WC (n + 1) S' G' B' R' W) := by
  have hS := hW.1.1
  have hF := hW.2.1
  have hO := hW.2.2.2.1
  obtain ⟨ta, ka, la, hH, hLk, hl2, hs3, hbd⟩ := hW.2.2.1
  obtain ⟨zt, hzt, ezt⟩ := (hH.2.1 j hj).2
  have ht := hH.ta hj
  have hsh := hH.2.2.2.2.2.2.1 j hj
  rw [show kH (wK W) (kD (wK W)) j = (m, c) from htb] at hsh
  have hok := tb_ok hO hj
  rw [htb] at hok
  have hn : G (ta j) 0 = .int (nI m) := hsh.1
  have hc : TabC B (ta j) m c := hsh.c hok
  have hl : Lat m c := hok.2
  have hm6 : m ≤ 6 := hok.1
  have hyes : hasP (wK W) (nI j) := (has_i hj).mpr (by rw [htb]; exact h1)
  refine cr_nx (pc' := 1) (al' := [some (.ref 2), some (.int (nI j)), some (.int (nI 4))]) (st' := [.ref 2]) d_148_0 (fun _ => rfl) ?_
  refine cr_nx (pc' := 2) (al' := [some (.ref 2), some (.int (nI j)), some (.int (nI 4))]) (st' := [.int (nI j), .ref 2]) d_148_1 (fun _ => rfl) ?_
  refine cr_pv (b := 2) (as := [.int (nI j)]) (al0 := [some (.ref 2), some (.int (nI j))]) (r := []) d_148_2 cw_148 cm_11_137 cz_126 rfl rfl (hS.i (a := 2) (by decide) (by decide)) (by rw [cw_126]; exact (hS.s (a := 2) (by decide) (by decide) rfl)) (by rw [cw_126]; decide) rfl (Nat.le_of_ble_eq_true rfl) (k_has hS hF hH hO) ?_
  show CR _ _ 5 [some (.ref 2), some (.int (nI j)), some (.int (nI 4))] [.int (bI (hasP (wK W) (nI j)))] S G B J R _
  refine cr_beq (t := 24) d_148_5 (by decide) (fun c5 => ?_) (fun c5 => ?_)
  · exact absurd hyes c5
  · refine cr_nx (pc' := 9) (al' := [some (.ref 2), some (.int (nI j)), some (.int (nI 4))]) (st' := [.ref 2]) d_148_8 (fun _ => rfl) ?_
    refine cr_gf (v := .ref 3) d_148_9 cw_148 cf_11_10 (hS.i (a := 2) (by decide) (by decide)) (hS.s (a := 2) (by decide) (by decide) rfl) (by decide) (fx_2_0 hF) ?_
    refine cr_gf (v := .ref 4) d_148_12 cw_148 cf_11_140 (hS.i (a := 3) (by decide) (by decide)) (hS.s (a := 3) (by decide) (by decide) rfl) (by decide) (fx_3_0 hF) ?_
    refine cr_nx (pc' := 16) (al' := [some (.ref 2), some (.int (nI j)), some (.int (nI 4))]) (st' := [.int (nI j), .ref 4]) d_148_15 (fun _ => rfl) ?_
    refine cr_aa (a := 4) (v := .ref (ta j)) d_148_16 (hS.i (a := 4) (by decide) (by decide)) (by decide) (hS.s (a := 4) (by decide) (by decide) rfl) (by decide) (show j < 6 by first | omega | assumption | exact cu_36 (by omega) (cu_lt (by omega) (by omega))) (show va_rf _ = _ by rw [(hH.2.1 j hj).1]; rfl) ?_
    refine cr_nx (pc' := 18) (al' := [some (.ref 2), some (.int (nI j)), some (.int (nI 4))]) (st' := [.int (nI 4), .ref (ta j)]) d_148_17 (fun _ => rfl) ?_
    refine cr_ps (as := [.ref (ta j), .int (nI 4)]) (al0 := [some (.ref (ta j)), some (.int (nI 4))]) (r := []) d_148_18 cw_148 cm_11_274 (by decide) cz_55 rfl rfl rfl (Nat.le_of_ble_eq_true rfl) (k_nucleusBits4 ht hn hc) ?_
    show CR _ _ 21 [some (.ref 2), some (.int (nI j)), some (.int (nI 4))] [.int (nI (nuV 4 m c))] S G B J R _
    refine cr_nx (pc' := 25) (al' := [some (.ref 2), some (.int (nI j)), some (.int (nI 4))]) (st' := [.int (nI (nuV 4 m c))]) d_148_21 (fun _ => rfl) ?_
    exact cr_ri d_148_25 cx_148 rfl ⟨rfl, hW.mo⟩
theorem r_nucleus4 {g : Nat → Int32} {A : Nat → Nat → Int32} {n : Nat} {W : WS} (hW : WR n g A W) (hO : CoOk (wK W)) {j m : Nat} {c : Nat → Nat} (hj : j < 6) (htb : tbK (wK W) j = (m, c)) (h1 : 1 ≤ m) : RR 80 251 0 [some (.ref 146), some (.int (nI j)), some (.int (nI 4)), none, none, none, none] [] g A (fun r g' A' => r = some (.int (nI (nuV 4 m c))) ∧ WR (n + 1) g' A' W) := by
  have hsh := hW.1.1.1 j hj
  rw [show kH (wK W) (kD (wK W)) j = (m, c) from htb] at hsh
  have hok := tb_ok hO hj
  rw [htb] at hok
  have hk : A 1 (37 * j) = nI m := hsh.1
  have hl : Lat m c := hok.2
  have hm6 : m ≤ 6 := hok.1
  have hyes : isT A (nI j) := (has_r hW hO).mpr ((has_i hj).mpr (by rw [htb]; exact h1))
  refine rr_nx (pc' := 1) (al' := [some (.ref 146), some (.int (nI j)), some (.int (nI 4)), none, none, none, none]) (st' := [.ref 146]) d_251_0 (fun _ => rfl) ?_
  refine rr_nx (pc' := 2) (al' := [some (.ref 146), some (.int (nI j)), some (.int (nI 4)), none, none, none, none]) (st' := [.int (nI j), .ref 146]) d_251_1 (fun _ => rfl) ?_
  refine rr_pv (as := [.int (nI j)]) (al0 := [some (.ref 146), some (.int (nI j))]) (r := []) d_251_2 mo_251 ml_124 mz_184 rfl rfl rfl (Nat.le_of_ble_eq_true rfl) (s_isTable (nI j)) ?_
  show RR _ _ 5 [some (.ref 146), some (.int (nI j)), some (.int (nI 4)), none, none, none, none] [.int (bI (isT A (nI j)))] g A _
  refine rr_beq (t := 17) d_251_5 (by decide) (fun c5 => ?_) (fun c5 => ?_)
  · exact absurd hyes c5
  · refine rr_nx (pc' := 9) (al' := [some (.ref 146), some (.int (nI j)), some (.int (nI 4)), none, none, none, none]) (st' := [.int (nI 4)]) d_251_8 (fun _ => rfl) ?_
    refine rn_ic (v := 0) d_251_9 (by decide) ?_
    refine rn_ic (v := 5) d_251_10 (by decide) ?_
    refine rr_ps (as := [.int (nI 4), .int (nI 0), .int (nI 5)]) (al0 := [some (.int (nI 4)), some (.int (nI 0)), some (.int (nI 5))]) (r := []) d_251_11 mo_251 ml_106 mz_179 rfl rfl rfl (Nat.le_of_ble_eq_true rfl) (s_lies (nI 4) (nI 0) (nI 5)) ?_
    show RR _ _ 14 [some (.ref 146), some (.int (nI j)), some (.int (nI 4)), none, none, none, none] [.int (bI ((nI 0) ≤ (nI 4) ∧ (nI 4) ≤ (nI 5)))] g A _
    refine rr_bne (t := 19) d_251_14 (by decide) (fun c14 => ?_) (fun c14 => ?_)
    · refine rr_nx (pc' := 20) (al' := [some (.ref 146), some (.int (nI j)), some (.int (nI 4)), none, none, none, none]) (st' := [.ref 146]) d_251_19 (fun _ => rfl) ?_
      refine rr_nx (pc' := 21) (al' := [some (.ref 146), some (.int (nI j)), some (.int (nI 4)), none, none, none, none]) (st' := [.int (nI j), .ref 146]) d_251_20 (fun _ => rfl) ?_
      refine rr_pv (as := [.int (nI j)]) (al0 := [some (.ref 146), some (.int (nI j)), none]) (r := []) d_251_21 mo_251 ml_248 mz_208 rfl rfl rfl (Nat.le_of_ble_eq_true rfl) (s_lays (n := m) hj hm6 hk) ?_
      obtain ⟨wl21, hwl21⟩ : ∃ w_, w_ = rf_f (fun q => A 1 (37 * j + 1 + q)) (A 4) (m * m) := ⟨_, rfl⟩
      rw [← hwl21]
      show RR _ _ 24 [some (.ref 146), some (.int (nI j)), some (.int (nI 4)), none, none, none, none] [] (upd g 6 (nI m)) (rf_u A 4 wl21) _
      have hcu := cur_l (g := g) hsh hm6 hl hwl21
      refine rr_dr (al1 := [some (.ref 146), none, some (.int (nI 4)), none, none, none, none]) (le_s (le_d rfl (le_s (le_s (le_s (le_s (le_s (le_n)))))))) ?_
      refine rr_cq (rr_wk (by decide) (s_nucleus4_24 hcu)) ?_
      rintro r_ g_ A_ ⟨rfl, rfl, rfl⟩
      exact ⟨rfl, (hW.q (Gsm.rf.u rfl) (Ksm.rf.u rfl)).mo⟩
    · exact absurd (show nI 0 ≤ nI 4 ∧ nI 4 ≤ nI 5 by decide) c14
theorem p_nucleus5 {S : CS} {G : Nat → Nat → Value} {B : Nat → Nat → Int32} {J : Nat → Nat → Int64} {R : Nat → Nat → Option Nat} {n : Nat} {W : WS} (hW : WC n S G B R W) {j m : Nat} {c : Nat → Nat} (hj : j < 6) (htb : tbK (wK W) j = (m, c)) (h1 : 1 ≤ m) : CR 80 148 0 [some (.ref 2), some (.int (nI j)), some (.int (nI 5))] [] S G B J R (fun r S' G' B' J' R' => r = some (.int (nI (nuV 5 m c))) ∧ WC (n + 1) S' G' B' R' W) := by
  have hS := hW.1.1
  have hF := hW.2.1
  have hO := hW.2.2.2.1
  obtain ⟨ta, ka, la, hH, hLk, hl2, hs3, hbd⟩ := hW.2.2.1
  obtain ⟨zt, hzt, ezt⟩ := (hH.2.1 j hj).2
  have ht := hH.ta hj
  have hsh := hH.2.2.2.2.2.2.1 j hj
  rw [show kH (wK W) (kD (wK W)) j = (m, c) from htb] at hsh
  have hok := tb_ok hO hj
  rw [htb] at hok
  have hn : G (ta j) 0 = .int (nI m) := hsh.1
  have hc : TabC B (ta j) m c := hsh.c hok
  have hl : Lat m c := hok.2
  have hm6 : m ≤ 6 := hok.1
  have hyes : hasP (wK W) (nI j) := (has_i hj).mpr (by rw [htb]; exact h1)
  refine cr_nx (pc' := 1) (al' := [some (.ref 2), some (.int (nI j)), some (.int (nI 5))]) (st' := [.ref 2]) d_148_0 (fun _ => rfl) ?_
  refine cr_nx (pc' := 2) (al' := [some (.ref 2), some (.int (nI j)), some (.int (nI 5))]) (st' := [.int (nI j), .ref 2]) d_148_1 (fun _ => rfl) ?_
  refine cr_pv (b := 2) (as := [.int (nI j)]) (al0 := [some (.ref 2), some (.int (nI j))]) (r := []) d_148_2 cw_148 cm_11_137 cz_126 rfl rfl (hS.i (a := 2) (by decide) (by decide)) (by rw [cw_126]; exact (hS.s (a := 2) (by decide) (by decide) rfl)) (by rw [cw_126]; decide) rfl (Nat.le_of_ble_eq_true rfl) (k_has hS hF hH hO) ?_
  show CR _ _ 5 [some (.ref 2), some (.int (nI j)), some (.int (nI 5))] [.int (bI (hasP (wK W) (nI j)))] S G B J R _
  refine cr_beq (t := 24) d_148_5 (by decide) (fun c5 => ?_) (fun c5 => ?_)
  · exact absurd hyes c5
  · refine cr_nx (pc' := 9) (al' := [some (.ref 2), some (.int (nI j)), some (.int (nI 5))]) (st' := [.ref 2]) d_148_8 (fun _ => rfl) ?_
    refine cr_gf (v := .ref 3) d_148_9 cw_148 cf_11_10 (hS.i (a := 2) (by decide) (by decide)) (hS.s (a := 2) (by decide) (by decide) rfl) (by decide) (fx_2_0 hF) ?_
    refine cr_gf (v := .ref 4) d_148_12 cw_148 cf_11_140 (hS.i (a := 3) (by decide) (by decide)) (hS.s (a := 3) (by decide) (by decide) rfl) (by decide) (fx_3_0 hF) ?_
    refine cr_nx (pc' := 16) (al' := [some (.ref 2), some (.int (nI j)), some (.int (nI 5))]) (st' := [.int (nI j), .ref 4]) d_148_15 (fun _ => rfl) ?_
    refine cr_aa (a := 4) (v := .ref (ta j)) d_148_16 (hS.i (a := 4) (by decide) (by decide)) (by decide) (hS.s (a := 4) (by decide) (by decide) rfl) (by decide) (show j < 6 by first | omega | assumption | exact cu_36 (by omega) (cu_lt (by omega) (by omega))) (show va_rf _ = _ by rw [(hH.2.1 j hj).1]; rfl) ?_
    refine cr_nx (pc' := 18) (al' := [some (.ref 2), some (.int (nI j)), some (.int (nI 5))]) (st' := [.int (nI 5), .ref (ta j)]) d_148_17 (fun _ => rfl) ?_
    refine cr_ps (as := [.ref (ta j), .int (nI 5)]) (al0 := [some (.ref (ta j)), some (.int (nI 5))]) (r := []) d_148_18 cw_148 cm_11_274 (by decide) cz_55 rfl rfl rfl (Nat.le_of_ble_eq_true rfl) (k_nucleusBits5 ht hn hc) ?_
    show CR _ _ 21 [some (.ref 2), some (.int (nI j)), some (.int (nI 5))] [.int (nI (nuV 5 m c))] S G B J R _
    refine cr_nx (pc' := 25) (al' := [some (.ref 2), some (.int (nI j)), some (.int (nI 5))]) (st' := [.int (nI (nuV 5 m c))]) d_148_21 (fun _ => rfl) ?_
    exact cr_ri d_148_25 cx_148 rfl ⟨rfl, hW.mo⟩
theorem r_nucleus5 {g : Nat → Int32} {A : Nat → Nat → Int32} {n : Nat} {W : WS} (hW : WR n g A W) (hO : CoOk (wK W)) {j m : Nat} {c : Nat → Nat} (hj : j < 6) (htb : tbK (wK W) j = (m, c)) (h1 : 1 ≤ m) : RR 80 251 0 [some (.ref 146), some (.int (nI j)), some (.int (nI 5)), none, none, none, none] [] g A (fun r g' A' => r = some (.int (nI (nuV 5 m c))) ∧ WR (n + 1) g' A' W) := by
  have hsh := hW.1.1.1 j hj
  rw [show kH (wK W) (kD (wK W)) j = (m, c) from htb] at hsh
  have hok := tb_ok hO hj
  rw [htb] at hok
  have hk : A 1 (37 * j) = nI m := hsh.1
  have hl : Lat m c := hok.2
  have hm6 : m ≤ 6 := hok.1
  have hyes : isT A (nI j) := (has_r hW hO).mpr ((has_i hj).mpr (by rw [htb]; exact h1))
  refine rr_nx (pc' := 1) (al' := [some (.ref 146), some (.int (nI j)), some (.int (nI 5)), none, none, none, none]) (st' := [.ref 146]) d_251_0 (fun _ => rfl) ?_
  refine rr_nx (pc' := 2) (al' := [some (.ref 146), some (.int (nI j)), some (.int (nI 5)), none, none, none, none]) (st' := [.int (nI j), .ref 146]) d_251_1 (fun _ => rfl) ?_
  refine rr_pv (as := [.int (nI j)]) (al0 := [some (.ref 146), some (.int (nI j))]) (r := []) d_251_2 mo_251 ml_124 mz_184 rfl rfl rfl (Nat.le_of_ble_eq_true rfl) (s_isTable (nI j)) ?_
  show RR _ _ 5 [some (.ref 146), some (.int (nI j)), some (.int (nI 5)), none, none, none, none] [.int (bI (isT A (nI j)))] g A _
  refine rr_beq (t := 17) d_251_5 (by decide) (fun c5 => ?_) (fun c5 => ?_)
  · exact absurd hyes c5
  · refine rr_nx (pc' := 9) (al' := [some (.ref 146), some (.int (nI j)), some (.int (nI 5)), none, none, none, none]) (st' := [.int (nI 5)]) d_251_8 (fun _ => rfl) ?_
    refine rn_ic (v := 0) d_251_9 (by decide) ?_
    refine rn_ic (v := 5) d_251_10 (by decide) ?_
    refine rr_ps (as := [.int (nI 5), .int (nI 0), .int (nI 5)]) (al0 := [some (.int (nI 5)), some (.int (nI 0)), some (.int (nI 5))]) (r := []) d_251_11 mo_251 ml_106 mz_179 rfl rfl rfl (Nat.le_of_ble_eq_true rfl) (s_lies (nI 5) (nI 0) (nI 5)) ?_
    show RR _ _ 14 [some (.ref 146), some (.int (nI j)), some (.int (nI 5)), none, none, none, none] [.int (bI ((nI 0) ≤ (nI 5) ∧ (nI 5) ≤ (nI 5)))] g A _
    refine rr_bne (t := 19) d_251_14 (by decide) (fun c14 => ?_) (fun c14 => ?_)
    · refine rr_nx (pc' := 20) (al' := [some (.ref 146), some (.int (nI j)), some (.int (nI 5)), none, none, none, none]) (st' := [.ref 146]) d_251_19 (fun _ => rfl) ?_
      refine rr_nx (pc' := 21) (al' := [some (.ref 146), some (.int (nI j)), some (.int (nI 5)), none, none, none, none]) (st' := [.int (nI j), .ref 146]) d_251_20 (fun _ => rfl) ?_
      refine rr_pv (as := [.int (nI j)]) (al0 := [some (.ref 146), some (.int (nI j)), none]) (r := []) d_251_21 mo_251 ml_248 mz_208 rfl rfl rfl (Nat.le_of_ble_eq_true rfl) (s_lays (n := m) hj hm6 hk) ?_
      obtain ⟨wl21, hwl21⟩ : ∃ w_, w_ = rf_f (fun q => A 1 (37 * j + 1 + q)) (A 4) (m * m) := ⟨_, rfl⟩
      rw [← hwl21]
      show RR _ _ 24 [some (.ref 146), some (.int (nI j)), some (.int (nI 5)), none, none, none, none] [] (upd g 6 (nI m)) (rf_u A 4 wl21) _
      have hcu := cur_l (g := g) hsh hm6 hl hwl21
      refine rr_dr (al1 := [some (.ref 146), none, some (.int (nI 5)), none, none, none, none]) (le_s (le_d rfl (le_s (le_s (le_s (le_s (le_s (le_n)))))))) ?_
      refine rr_cq (rr_wk (by decide) (s_nucleus5_24 hcu)) ?_
      rintro r_ g_ A_ ⟨rfl, rfl, rfl⟩
      exact ⟨rfl, (hW.q (Gsm.rf.u rfl) (Ksm.rf.u rfl)).mo⟩
    · exact absurd (show nI 0 ≤ nI 5 ∧ nI 5 ≤ nI 5 by decide) c14
theorem p_nucleusX {S : CS} {G : Nat → Nat → Value} {B : Nat → Nat → Int32} {J : Nat → Nat → Int64} {R : Nat → Nat → Option Nat} {n : Nat} {W : WS} (hW : WC n S G B R W) {j m : Nat} {c : Nat → Nat} (hj : j < 6) (htb : tbK (wK W) j = (m, c)) (h1 : 1 ≤ m) {w : Int32} (hw : ¬ inP w 6) : CR 80 148 0 [some (.ref 2), some (.int (nI j)), some (.int w)] [] S G B J R (fun r S' G' B' J' R' => r = some (.int (-1)) ∧ WC (n + 1) S' G' B' R' W) := by
  have hS := hW.1.1
  have hF := hW.2.1
  have hO := hW.2.2.2.1
  obtain ⟨ta, ka, la, hH, hLk, hl2, hs3, hbd⟩ := hW.2.2.1
  obtain ⟨zt, hzt, ezt⟩ := (hH.2.1 j hj).2
  have ht := hH.ta hj
  have hsh := hH.2.2.2.2.2.2.1 j hj
  rw [show kH (wK W) (kD (wK W)) j = (m, c) from htb] at hsh
  have hok := tb_ok hO hj
  rw [htb] at hok
  have hn : G (ta j) 0 = .int (nI m) := hsh.1
  have hc : TabC B (ta j) m c := hsh.c hok
  have hl : Lat m c := hok.2
  have hm6 : m ≤ 6 := hok.1
  have hyes : hasP (wK W) (nI j) := (has_i hj).mpr (by rw [htb]; exact h1)
  refine cr_nx (pc' := 1) (al' := [some (.ref 2), some (.int (nI j)), some (.int w)]) (st' := [.ref 2]) d_148_0 (fun _ => rfl) ?_
  refine cr_nx (pc' := 2) (al' := [some (.ref 2), some (.int (nI j)), some (.int w)]) (st' := [.int (nI j), .ref 2]) d_148_1 (fun _ => rfl) ?_
  refine cr_pv (b := 2) (as := [.int (nI j)]) (al0 := [some (.ref 2), some (.int (nI j))]) (r := []) d_148_2 cw_148 cm_11_137 cz_126 rfl rfl (hS.i (a := 2) (by decide) (by decide)) (by rw [cw_126]; exact (hS.s (a := 2) (by decide) (by decide) rfl)) (by rw [cw_126]; decide) rfl (Nat.le_of_ble_eq_true rfl) (k_has hS hF hH hO) ?_
  show CR _ _ 5 [some (.ref 2), some (.int (nI j)), some (.int w)] [.int (bI (hasP (wK W) (nI j)))] S G B J R _
  refine cr_beq (t := 24) d_148_5 (by decide) (fun c5 => ?_) (fun c5 => ?_)
  · exact absurd hyes c5
  · refine cr_nx (pc' := 9) (al' := [some (.ref 2), some (.int (nI j)), some (.int w)]) (st' := [.ref 2]) d_148_8 (fun _ => rfl) ?_
    refine cr_gf (v := .ref 3) d_148_9 cw_148 cf_11_10 (hS.i (a := 2) (by decide) (by decide)) (hS.s (a := 2) (by decide) (by decide) rfl) (by decide) (fx_2_0 hF) ?_
    refine cr_gf (v := .ref 4) d_148_12 cw_148 cf_11_140 (hS.i (a := 3) (by decide) (by decide)) (hS.s (a := 3) (by decide) (by decide) rfl) (by decide) (fx_3_0 hF) ?_
    refine cr_nx (pc' := 16) (al' := [some (.ref 2), some (.int (nI j)), some (.int w)]) (st' := [.int (nI j), .ref 4]) d_148_15 (fun _ => rfl) ?_
    refine cr_aa (a := 4) (v := .ref (ta j)) d_148_16 (hS.i (a := 4) (by decide) (by decide)) (by decide) (hS.s (a := 4) (by decide) (by decide) rfl) (by decide) (show j < 6 by first | omega | assumption | exact cu_36 (by omega) (cu_lt (by omega) (by omega))) (show va_rf _ = _ by rw [(hH.2.1 j hj).1]; rfl) ?_
    refine cr_nx (pc' := 18) (al' := [some (.ref 2), some (.int (nI j)), some (.int w)]) (st' := [.int w, .ref (ta j)]) d_148_17 (fun _ => rfl) ?_
    refine cr_ps (as := [.ref (ta j), .int w]) (al0 := [some (.ref (ta j)), some (.int w)]) (r := []) d_148_18 cw_148 cm_11_274 (by decide) cz_55 rfl rfl rfl (Nat.le_of_ble_eq_true rfl) (k_nucleusBitsX ht hn hc (fun e_ => hw ((in_r (by decide)).mp e_))) ?_
    show CR _ _ 21 [some (.ref 2), some (.int (nI j)), some (.int w)] [.int (-1)] S G B J R _
    refine cr_nx (pc' := 25) (al' := [some (.ref 2), some (.int (nI j)), some (.int w)]) (st' := [.int (-1)]) d_148_21 (fun _ => rfl) ?_
    exact cr_ri d_148_25 cx_148 rfl ⟨rfl, hW.mo⟩
theorem r_nucleusX {g : Nat → Int32} {A : Nat → Nat → Int32} {n : Nat} {W : WS} (hW : WR n g A W) (hO : CoOk (wK W)) {j m : Nat} {c : Nat → Nat} (hj : j < 6) (htb : tbK (wK W) j = (m, c)) (h1 : 1 ≤ m) {w : Int32} (hw : ¬ inP w 6) : RR 80 251 0 [some (.ref 146), some (.int (nI j)), some (.int w), none, none, none, none] [] g A (fun r g' A' => r = some (.int (-1)) ∧ WR (n + 1) g' A' W) := by
  have hsh := hW.1.1.1 j hj
  rw [show kH (wK W) (kD (wK W)) j = (m, c) from htb] at hsh
  have hok := tb_ok hO hj
  rw [htb] at hok
  have hk : A 1 (37 * j) = nI m := hsh.1
  have hl : Lat m c := hok.2
  have hm6 : m ≤ 6 := hok.1
  have hyes : isT A (nI j) := (has_r hW hO).mpr ((has_i hj).mpr (by rw [htb]; exact h1))
  refine rr_nx (pc' := 1) (al' := [some (.ref 146), some (.int (nI j)), some (.int w), none, none, none, none]) (st' := [.ref 146]) d_251_0 (fun _ => rfl) ?_
  refine rr_nx (pc' := 2) (al' := [some (.ref 146), some (.int (nI j)), some (.int w), none, none, none, none]) (st' := [.int (nI j), .ref 146]) d_251_1 (fun _ => rfl) ?_
  refine rr_pv (as := [.int (nI j)]) (al0 := [some (.ref 146), some (.int (nI j))]) (r := []) d_251_2 mo_251 ml_124 mz_184 rfl rfl rfl (Nat.le_of_ble_eq_true rfl) (s_isTable (nI j)) ?_
  show RR _ _ 5 [some (.ref 146), some (.int (nI j)), some (.int w), none, none, none, none] [.int (bI (isT A (nI j)))] g A _
  refine rr_beq (t := 17) d_251_5 (by decide) (fun c5 => ?_) (fun c5 => ?_)
  · exact absurd hyes c5
  · refine rr_nx (pc' := 9) (al' := [some (.ref 146), some (.int (nI j)), some (.int w), none, none, none, none]) (st' := [.int w]) d_251_8 (fun _ => rfl) ?_
    refine rn_ic (v := 0) d_251_9 (by decide) ?_
    refine rn_ic (v := 5) d_251_10 (by decide) ?_
    refine rr_ps (as := [.int w, .int (nI 0), .int (nI 5)]) (al0 := [some (.int w), some (.int (nI 0)), some (.int (nI 5))]) (r := []) d_251_11 mo_251 ml_106 mz_179 rfl rfl rfl (Nat.le_of_ble_eq_true rfl) (s_lies w (nI 0) (nI 5)) ?_
    show RR _ _ 14 [some (.ref 146), some (.int (nI j)), some (.int w), none, none, none, none] [.int (bI ((nI 0) ≤ w ∧ w ≤ (nI 5)))] g A _
    refine rr_bne (t := 19) d_251_14 (by decide) (fun c14 => ?_) (fun c14 => ?_)
    · exact absurd c14 (fun e_ => hw ((in_r (by decide)).mp e_))
    · refine rr_nx (pc' := 18) (al' := [some (.ref 146), some (.int (nI j)), some (.int w), none, none, none, none]) (st' := [.int (-1)]) d_251_17 (fun _ => rfl) ?_
      exact rr_ri d_251_18 mr_251 rfl ⟨rfl, hW.mo⟩
theorem p_nucleus_n {S : CS} {G : Nat → Nat → Value} {B : Nat → Nat → Int32} {J : Nat → Nat → Int64} {R : Nat → Nat → Option Nat} {n : Nat} {W : WS} (hW : WC n S G B R W) {t : Int32} (hh : ¬ hasP (wK W) t) {w : Int32} : CR 80 148 0 [some (.ref 2), some (.int t), some (.int w)] [] S G B J R (fun r S' G' B' J' R' => r = some (.int (-1)) ∧ WC (n + 1) S' G' B' R' W) := by
  have hS := hW.1.1
  have hF := hW.2.1
  have hO := hW.2.2.2.1
  obtain ⟨ta, ka, la, hH, hLk, hl2, hs3, hbd⟩ := hW.2.2.1
  refine cr_nx (pc' := 1) (al' := [some (.ref 2), some (.int t), some (.int w)]) (st' := [.ref 2]) d_148_0 (fun _ => rfl) ?_
  refine cr_nx (pc' := 2) (al' := [some (.ref 2), some (.int t), some (.int w)]) (st' := [.int t, .ref 2]) d_148_1 (fun _ => rfl) ?_
  refine cr_pv (b := 2) (as := [.int t]) (al0 := [some (.ref 2), some (.int t)]) (r := []) d_148_2 cw_148 cm_11_137 cz_126 rfl rfl (hS.i (a := 2) (by decide) (by decide)) (by rw [cw_126]; exact (hS.s (a := 2) (by decide) (by decide) rfl)) (by rw [cw_126]; decide) rfl (Nat.le_of_ble_eq_true rfl) (k_has hS hF hH hO) ?_
  show CR _ _ 5 [some (.ref 2), some (.int t), some (.int w)] [.int (bI (hasP (wK W) t))] S G B J R _
  refine cr_beq (t := 24) d_148_5 (by decide) (fun c5 => ?_) (fun c5 => ?_)
  · refine cr_nx (pc' := 25) (al' := [some (.ref 2), some (.int t), some (.int w)]) (st' := [.int (-1)]) d_148_24 (fun _ => rfl) ?_
    exact cr_ri d_148_25 cx_148 rfl ⟨rfl, hW.mo⟩
  · exact absurd c5 hh
theorem r_nucleus_n {g : Nat → Int32} {A : Nat → Nat → Int32} {n : Nat} {W : WS} (hW : WR n g A W) (hO : CoOk (wK W)) {t : Int32} (hh : ¬ hasP (wK W) t) {w : Int32} : RR 80 251 0 [some (.ref 146), some (.int t), some (.int w), none, none, none, none] [] g A (fun r g' A' => r = some (.int (-1)) ∧ WR (n + 1) g' A' W) := by
  refine rr_nx (pc' := 1) (al' := [some (.ref 146), some (.int t), some (.int w), none, none, none, none]) (st' := [.ref 146]) d_251_0 (fun _ => rfl) ?_
  refine rr_nx (pc' := 2) (al' := [some (.ref 146), some (.int t), some (.int w), none, none, none, none]) (st' := [.int t, .ref 146]) d_251_1 (fun _ => rfl) ?_
  refine rr_pv (as := [.int t]) (al0 := [some (.ref 146), some (.int t)]) (r := []) d_251_2 mo_251 ml_124 mz_184 rfl rfl rfl (Nat.le_of_ble_eq_true rfl) (s_isTable t) ?_
  show RR _ _ 5 [some (.ref 146), some (.int t), some (.int w), none, none, none, none] [.int (bI (isT A t))] g A _
  refine rr_beq (t := 17) d_251_5 (by decide) (fun c5 => ?_) (fun c5 => ?_)
  · refine rr_nx (pc' := 18) (al' := [some (.ref 146), some (.int t), some (.int w), none, none, none, none]) (st' := [.int (-1)]) d_251_17 (fun _ => rfl) ?_
    exact rr_ri d_251_18 mr_251 rfl ⟨rfl, hW.mo⟩
  · exact absurd c5 (fun e_ => hh ((has_r hW hO).mp e_))
theorem T_nucleus {S : CS} {G : Nat → Nat → Value} {B : Nat → Nat → Int32} {J : Nat → Nat → Int64} {R : Nat → Nat → Option Nat} {g : Nat → Int32} {A : Nat → Nat → Int32} {n : Nat} {W : WS} (hC : WC n S G B R W) (hR : WR n g A W) (hn : n ≤ 10000) {t : Int32} {w : Int32} : Tie n 148 251 [some (.ref 2), some (.int t), some (.int w)] [some (.ref 146), some (.int t), some (.int w), none, none, none, none] S G B J R g A W := by
  have hO := hC.2.2.2.1
  by_cases hh : hasP (wK W) t
  · obtain ⟨j, hj, e_, h1⟩ := has_n hh
    subst e_
    obtain ⟨⟨m, c⟩, htb⟩ : ∃ tb, tbK (wK W) j = tb := ⟨_, rfl⟩
    rw [htb] at h1
    by_cases hw : inP w 6
    · obtain ⟨k, hk, e_⟩ := in_n hw
      subst e_
      have hk2 : k = 0 ∨ k = 1 ∨ k = 2 ∨ k = 3 ∨ k = 4 ∨ k = 5 := by omega
      rcases hk2 with rfl | rfl | rfl | rfl | rfl | rfl
      · exact ⟨_, W, p_nucleus0 hC hj htb h1, r_nucleus0 hR hO hj htb h1⟩
      · exact ⟨_, W, p_nucleus1 hC hj htb h1, r_nucleus1 hR hO hj htb h1⟩
      · exact ⟨_, W, p_nucleus2 hC hj htb h1, r_nucleus2 hR hO hj htb h1⟩
      · exact ⟨_, W, p_nucleus3 hC hj htb h1, r_nucleus3 hR hO hj htb h1⟩
      · exact ⟨_, W, p_nucleus4 hC hj htb h1, r_nucleus4 hR hO hj htb h1⟩
      · exact ⟨_, W, p_nucleus5 hC hj htb h1, r_nucleus5 hR hO hj htb h1⟩
    · exact ⟨_, W, p_nucleusX hC hj htb h1 hw, r_nucleusX hR hO hj htb h1 hw⟩
  · exact ⟨_, W, p_nucleus_n hC hh, r_nucleus_n hR hO hh⟩
